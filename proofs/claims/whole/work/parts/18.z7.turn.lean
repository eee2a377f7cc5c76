/-! ===== minute: a house's turn goes on ===== -/
theorem LK_step {σ : Shp} {R : Nat → Nat → Option Nat} {D : Nat → Nat → UInt64} {m h : Nat} {I : Nat → Nat → Int32} {J : Nat → Nat → Int64} {I' : Nat → Nat → Int32} {J' : Nat → Nat → Int64} (hS : Skel σ R) (hh : h < 3) (hm : m < 100000) (hD : D 26 7 = D 114 94) (hP : NumP (D 114 94)) (hk : 0 ≤ FP.Core.dkey (D 114 94)) (lk : LK D m h I J I' J') : ∃ K L K' L', (∀ n, gX4_passMinute_l12 σ D R (n + 1) I J (Int32.ofInt (h : Int)) = gX4_passMinute_l12 σ D R n K L (Int32.ofInt ((h + 1 : Nat) : Int))) ∧ (∀ q n x1 x2, gX12_minute_l47 q σ D R (n + 1) I' J' x1 x2 (Int32.ofInt (h : Int)) = gX12_minute_l47 q σ D R n K' L' x1 x2 (Int32.ofInt ((h + 1 : Nat) : Int))) ∧ LK D m (h + 1) K L K' L' ∧ LF I J I' J' K L K' L' := by
  obtain ⟨pr, w, wr, ar, av, vv, mk, tb, em, em', sm⟩ := lk
  have smh : ∀ p, (p = h ∨ p = h + 3 ∨ p = h + 6) → ∃ a : Nat, I' 171 p = Int32.ofInt (a : Int) ∧ a ≤ m ∧ (a = 0 ↔ m = 0) := fun p hp => by
    obtain ⟨a, a1, a2⟩ := sm p (by omega)
    rw [if_neg (by omega)] at a2
    exact ⟨a, a1, a2⟩
  obtain ⟨I1, J1, I1', J1', c1, d1, pr1, v1, v2, s1, f1, f2, f3, f4, vm⟩ := vote_L hS hh hm pr em' smh hD hP hk
  obtain ⟨a, b, c, av0⟩ := av h hh
  have av1 : AV J1 I1' h a b c := av0.cg (fun k => f2 _ _ (by omega) (by omega) (by omega)) (fun x _ _ => f3 _ _ (by omega))
  have hD1 : ∀ p, p < 9 → isNum (J1 52 p) → D 53 p = (J1 52 p).toUInt64 := fun p hp n => by
    rw [(pr1 p hp).j2] at n ⊢
    exact (pr1 p hp).d.1 n
  have w1 : ∀ k, k < 5 → I1 61 k = I1' 174 k := fun k hk => by rw [f1 61 k (by omega), f3 174 k (by omega)]; exact w k hk
  have mk1 : ∀ t, t < 3 → MK I1 I1' t := fun t ht => (mk t ht).cg ht (fun x k _ _ => f1 _ _ (by omega)) (fun x k _ => f3 _ _ (by omega))
  have em1 : I1 26 13 = Int32.ofInt ((m + 1 : Nat) : Int) := by rw [f1 _ _ (by omega)]; exact em
  have em1' : I1' 114 85 = Int32.ofInt ((m + 1 : Nat) : Int) := by rw [f3 _ _ (by omega)]; exact em'
  obtain ⟨J2, I2', a', b', c', c2, d2, av2, g1, g2⟩ := steer_L (I := I1) (J' := J1') hS hh (by omega) (w1 3 (by decide)) (w1 4 (by decide)) av1 v1 v2 vm hD1 (mk1 h hh) em1 em1'
  have w2 : ∀ k, k < 5 → I1 61 k = I2' 174 k := fun k hk => by rw [g2 174 k (by omega)]; exact w1 k hk
  have wr2 : ∀ k, k < 5 → Rn (I2' 174 k) (-40000) 60000 := fun k hk => by rw [g2 174 k (by omega), f3 174 k (by omega)]; exact wr k hk
  have ar2 : ∀ t, t < 3 → AR J2 J1' t := fun t ht => (ar t ht).cg (fun k hk => by rw [g1 _ _ (by omega), f2 _ _ (by omega) (by omega) (by omega)]) (fun x k _ => f4 _ _ (by omega) (by omega))
  have tb2 : TBl I1 I2' := tb.cg (fun x k _ _ => f1 _ _ (by omega)) (fun x k _ => by rw [g2 _ _ (by omega), f3 _ _ (by omega)])
  obtain ⟨I3, J3, I3', J3', c3, d3, ar3, av3, tb3, ag1, ag2, g3, g4⟩ := air_L hS hh w2 wr2 (ar2 h hh) av2 tb2
  have k1 := agC ag1
  have k2 := agM ag2
  have e1 : ((h : Int) + 1) = ((h + 1 : Nat) : Int) := by omega
  refine ⟨I3, J3, I3', J3', fun n => ?_, fun q n x1 x2 => ?_, ⟨?_, ?_, ?_, ?_, ?_, ?_, ?_, tb3, ?_, ?_, ?_⟩, ⟨?_, ?_, ?_, ?_⟩⟩
  · rw [gX4_passMinute_l12, if_neg (by rw [i_ler (by omega)]; omega), c1, ob_some]
    dsimp only
    rw [c2, ob_some, c3, ob_some, i_addl, e1]
  · rw [gX12_minute_l47, if_neg (by rw [i_ler (by omega)]; omega), d1, ob_some]
    dsimp only
    rw [d2, ob_some, d3, ob_some, i_addl, e1]
  · exact fun p hp => (pr1 p hp).cg (fun k => k1 _ _ (by omega) (by omega)) (fun x _ _ => by rw [k2 _ _ (by omega) (by omega) (by omega), g2 _ _ (by omega)]) (fun x _ _ => by rw [g3 _ _ (by omega), g1 _ _ (by omega)]) (fun x _ _ => g4 _ _ (by omega) (by omega))
  · exact fun k hk => by rw [k1 61 k (by omega) (by omega), k2 174 k (by omega) (by omega) (by omega)]; exact w2 k hk
  · exact fun k hk => by rw [k2 174 k (by omega) (by omega) (by omega)]; exact wr2 k hk
  · intro t ht
    by_cases q : t = h
    · rw [q]; exact ar3
    · exact (ar2 t ht).cg (fun k _ => g3 _ _ (by omega)) (fun x k _ => g4 _ _ (by omega) (by omega))
  · intro t ht
    by_cases q : t = h
    · rw [q]; exact ⟨_, _, _, av3⟩
    · obtain ⟨x, y, z, av4⟩ := av t ht
      exact ⟨x, y, z, av4.cg (fun k => by rw [g3 _ _ (by omega), g1 _ _ (by omega), f2 _ _ (by omega) (by omega) (by omega)]) (fun u _ _ => by rw [k2 _ _ (by omega) (by omega) (by omega), g2 _ _ (by omega), f3 _ _ (by omega)])⟩
  · intro t ht
    rw [g3 55 t (by omega), g1 55 t (by omega), g4 173 t (by omega) (by omega)]
    by_cases q : t = h
    · rw [q]; exact ⟨v1, v2⟩
    · rw [f2 55 t (by omega) (by omega) (by omega), f4 173 t (by omega) (by omega)]
      exact vv t ht
  · exact fun t ht => (mk1 t ht).cg ht (fun x k _ _ => k1 _ _ (by omega) (by omega)) (fun x k _ => by rw [k2 _ _ (by omega) (by omega) (by omega), g2 _ _ (by omega)])
  · rw [k1 26 13 (by omega) (by omega)]; exact em1
  · rw [k2 114 85 (by omega) (by omega) (by omega), g2 114 85 (by omega)]; exact em1'
  · intro p hp
    rw [k2 171 p (by omega) (by omega) (by omega), g2 171 p (by omega)]
    by_cases q : p = h ∨ p = h + 3 ∨ p = h + 6
    · obtain ⟨x, x1, x2⟩ := s1 p q
      exact ⟨x, x1, by rw [if_pos (by omega)]; exact x2⟩
    · obtain ⟨x, x1, x2⟩ := sm p hp
      refine ⟨x, by rw [f3 171 p (by omega)]; exact x1, ?_⟩
      by_cases r : p % 3 < h
      · rw [if_pos r] at x2
        rw [if_pos (by omega)]; exact x2
      · rw [if_neg r] at x2
        rw [if_neg (by omega)]; exact x2
  · exact fun a k q1 q2 q3 q4 => by rw [k1 a k q1 q2, f1 a k (by omega)]
  · exact fun a k q1 q2 => by rw [g3 a k (by omega), g1 a k (by omega), f2 a k (by omega) (by omega) (by omega)]
  · exact fun a k q1 q2 q3 q4 q5 q6 => by rw [k2 a k q1 q2 q6, g2 a k (by omega), f3 a k (by omega)]
  · exact fun a k q1 q2 q3 q4 => by rw [g4 a k (by omega) (by omega), f4 a k (by omega) (by omega)]
