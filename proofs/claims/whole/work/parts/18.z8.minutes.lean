/-! ===== minute: minutes, both ways ===== -/
/-- between minutes -/
def LQ (D : Nat → Nat → UInt64) (m : Nat) (I : Nat → Nat → Int32) (J : Nat → Nat → Int64) (I' : Nat → Nat → Int32) (J' : Nat → Nat → Int64) : Prop := (∀ p, p < 9 → PR I J I' J' D p) ∧ (∀ k, k < 5 → I 61 k = I' 174 k) ∧ (∀ k, k < 5 → Rn (I' 174 k) (-40000) 60000) ∧ (∀ t, t < 3 → AR J J' t) ∧ (∀ t, t < 3 → ∃ a b c, AV J I' t a b c) ∧ (∀ t, t < 3 → J 55 t = J' 173 t ∧ NumC (J' 173 t)) ∧ (∀ t, t < 3 → MK I I' t) ∧ TBl I I' ∧ I 26 13 = Int32.ofInt (m : Int) ∧ I' 114 85 = Int32.ofInt (m : Int) ∧ (∀ p, p < 9 → ∃ a : Nat, I' 171 p = Int32.ofInt (a : Int) ∧ a ≤ m ∧ (a = 0 ↔ m = 0))
theorem LQ_in {D : Nat → Nat → UInt64} {m : Nat} {I : Nat → Nat → Int32} {J : Nat → Nat → Int64} {I' : Nat → Nat → Int32} {J' : Nat → Nat → Int64} (lq : LQ D m I J I' J') : LK D m 0 (u2 I 26 13 (I 26 13 + 1)) J (u2 I' 114 85 (I' 114 85 + 1)) J' := by
  obtain ⟨pr, w, wr, ar, av, vv, mk, tb, em, em', sm⟩ := lq
  refine ⟨fun p hp => (pr p hp).cg (fun k => u2n (by omega)) (fun a _ _ => u2n (by omega)) (fun _ _ _ => rfl) (fun _ _ _ => rfl), fun k hk => by rw [u2n (by omega), u2n (by omega)]; exact w k hk, fun k hk => by rw [u2n (by omega)]; exact wr k hk, ar, fun t ht => ?_, vv, fun t ht => (mk t ht).cg ht (fun a k _ _ => u2n (by omega)) (fun a k _ => u2n (by omega)), tb.cg (fun a k _ _ => u2n (by omega)) (fun a k _ => u2n (by omega)), ?_, ?_, fun p hp => ?_⟩
  · obtain ⟨a, b, c, h⟩ := av t ht
    exact ⟨a, b, c, h.cg (fun _ => rfl) (fun x _ _ => u2n (by omega))⟩
  · rw [u2_self, em, i_addl, Int.natCast_add]; rfl
  · rw [u2_self, em', i_addl, Int.natCast_add]; rfl
  · obtain ⟨a, a1, a2⟩ := sm p hp
    exact ⟨a, by rw [u2n (by omega)]; exact a1, by rw [if_neg (by omega)]; exact a2⟩
theorem LK_out {D : Nat → Nat → UInt64} {m : Nat} {I : Nat → Nat → Int32} {J : Nat → Nat → Int64} {I' : Nat → Nat → Int32} {J' : Nat → Nat → Int64} (lk : LK D m 3 I J I' J') : LQ D (m + 1) I J I' J' := by
  obtain ⟨pr, w, wr, ar, av, vv, mk, tb, em, em', sm⟩ := lk
  refine ⟨pr, w, wr, ar, av, vv, mk, tb, em, em', fun p hp => ?_⟩
  obtain ⟨a, a1, a2⟩ := sm p hp
  rw [if_pos (by omega)] at a2
  exact ⟨a, a1, by omega, by omega⟩
theorem LF_in {I : Nat → Nat → Int32} {J : Nat → Nat → Int64} {I' : Nat → Nat → Int32} {J' : Nat → Nat → Int64} {x y : Int32} : LF I J I' J' (u2 I 26 13 x) J (u2 I' 114 85 y) J' := ⟨fun a k _ _ _ q => u2n q, fun _ _ _ _ => rfl, fun a k _ _ q _ _ _ => u2n q, fun _ _ _ _ _ _ => rfl⟩
theorem LQ_step {σ : Shp} {R : Nat → Nat → Option Nat} {D : Nat → Nat → UInt64} {m : Nat} {I : Nat → Nat → Int32} {J : Nat → Nat → Int64} {I' : Nat → Nat → Int32} {J' : Nat → Nat → Int64} (hS : Skel σ R) (hm : m < 100000) (hD : D 26 7 = D 114 94) (hP : NumP (D 114 94)) (hk : 0 ≤ FP.Core.dkey (D 114 94)) (lq : LQ D m I J I' J') : ∃ K L K' L', gX4_passMinute σ I J D R = some (K, L) ∧ (∀ q x1 x2, gX12_minute_l47 q σ D R FUx (u2 I' 114 85 (I' 114 85 + 1)) J' x1 x2 0 = q K' L' x1 (x2 + 1)) ∧ LQ D (m + 1) K L K' L' ∧ LF I J I' J' K L K' L' := by
  obtain ⟨F, hF⟩ : ∃ F, FUx = F := ⟨_, rfl⟩
  have hF' : F = 2000000 := by rw [← hF, FUx_eq]
  obtain ⟨f, rfl⟩ : ∃ f, F = f + 4 := ⟨F - 4, by omega⟩
  have z : (0 : Int32) = Int32.ofInt ((0 : Nat) : Int) := rfl
  obtain ⟨K1, L1, K1', L1', a1, a2, a3, a4⟩ := LK_step hS (show 0 < 3 by decide) hm hD hP hk (LQ_in lq)
  obtain ⟨K2, L2, K2', L2', b1, b2, b3, b4⟩ := LK_step hS (show 0 + 1 < 3 by decide) hm hD hP hk a3
  obtain ⟨K3, L3, K3', L3', c1, c2, c3, c4⟩ := LK_step hS (show 0 + 1 + 1 < 3 by decide) hm hD hP hk b3
  refine ⟨K3, L3, K3', L3', ?_, fun q x1 x2 => ?_, LK_out c3, ((LF_in.tr a4).tr b4).tr c4⟩
  · unfold gX4_passMinute
    rw [hF, z, show f + 4 = f + 3 + 1 from rfl, a1, show f + 3 = f + 2 + 1 from rfl, b1, show f + 2 = f + 1 + 1 from rfl, c1, gX4_passMinute_l12, if_pos (by rw [i_ler (by omega)]; omega)]
  · rw [hF, z, show f + 4 = f + 3 + 1 from rfl, a2, show f + 3 = f + 2 + 1 from rfl, b2, show f + 2 = f + 1 + 1 from rfl, c2, gX12_minute_l47, if_pos (by rw [i_ler (by omega)]; omega)]
theorem LQ_run {σ : Shp} {R : Nat → Nat → Option Nat} {D : Nat → Nat → UInt64} (hS : Skel σ R) (hD : D 26 7 = D 114 94) (hP : NumP (D 114 94)) (hk : 0 ≤ FP.Core.dkey (D 114 94)) : ∀ (i j m f : Nat) (I : Nat → Nat → Int32) (J : Nat → Nat → Int64) (I' : Nat → Nat → Int32) (J' : Nat → Nat → Int64), i + j ≤ 100 → m + i ≤ 100000 → i < f → LQ D m I J I' J' → ∃ K L K' L', gX11_minute_l34 σ D R f I J (Int32.ofInt ((i + j : Nat) : Int)) (Int32.ofInt (j : Int)) = some (K, L, Int32.ofInt ((m + i : Nat) : Int)) ∧ gX12_minute_l30 σ D R f I' J' (Int32.ofInt ((i + j : Nat) : Int)) (Int32.ofInt (j : Int)) = some (K', L', Int32.ofInt ((m + i : Nat) : Int)) ∧ LQ D (m + i) K L K' L' ∧ LF I J I' J' K L K' L' := by
  intro i
  induction i with
  | zero =>
    intro j m f I J I' J' h1 h2 h3 lq
    obtain ⟨f, rfl⟩ : ∃ f', f = f' + 1 := ⟨f - 1, by omega⟩
    refine ⟨I, J, I', J', ?_, ?_, lq, LF.rf⟩
    · rw [gX11_minute_l34, if_pos (by rw [i_le (by omega) (by omega)]; omega), lq.2.2.2.2.2.2.2.2.1]
      rfl
    · rw [gX12_minute_l30, if_pos (by rw [i_le (by omega) (by omega)]; omega), lq.2.2.2.2.2.2.2.2.2.1]
      rfl
  | succ i ih =>
    intro j m f I J I' J' h1 h2 h3 lq
    obtain ⟨f, rfl⟩ : ∃ f', f = f' + 1 := ⟨f - 1, by omega⟩
    obtain ⟨K1, L1, K1', L1', a1, a2, a3, a4⟩ := LQ_step hS (by omega) hD hP hk lq
    obtain ⟨K, L, K', L', b1, b2, b3, b4⟩ := ih (j + 1) (m + 1) f K1 L1 K1' L1' (by omega) (by omega) (by omega) a3
    rw [show i + (j + 1) = i + 1 + j by omega, show m + 1 + i = m + (i + 1) by omega] at b1 b2
    rw [show m + 1 + i = m + (i + 1) by omega] at b3
    have e1 : Int32.ofInt (j : Int) + 1 = Int32.ofInt ((j + 1 : Nat) : Int) := by rw [i_addl]; rfl
    refine ⟨K, L, K', L', ?_, ?_, b3, a4.tr b4⟩
    · rw [gX11_minute_l34, if_neg (by rw [i_le (by omega) (by omega)]; omega), a1, ob_some]
      dsimp only
      rw [e1]
      exact b1
    · rw [gX12_minute_l30, if_neg (by rw [i_le (by omega) (by omega)]; omega)]
      dsimp only
      rw [a2, e1]
      exact b2
