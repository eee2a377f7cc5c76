/-! ===== ask: the model's size ===== -/
def KK : Nat → Nat
  | 0 => 2
  | d + 1 => 4 + 2 * KK d
theorem St.tr {p : Nat} {I I1 I2 : Nat → Nat → Int32} (a : St p I I1) (b : St p I1 I2) : St p I I2 := fun q hq => ⟨by rw [(b q hq).1]; exact (a q hq).1, by rw [(b q hq).2.1]; exact (a q hq).2.1, by rw [(b q hq).2.2]; exact (a q hq).2.2⟩
theorem St.lo {p p' : Nat} {I I1 : Nat → Nat → Int32} (a : St p I I1) (h : p' ≤ p) : St p' I I1 := fun q hq => a q (by omega)
theorem szl_M {G : Nat → Nat → Nat} {C : Nat → Int64} {N : Nat → Nat → Int32} {σ : Shp} {J : Nat → Nat → Int64} {R : Nat → Nat → Option Nat} (hS : Skel σ R) (hg : TSg G C N) : ∀ (d t p m : Nat) (I : Nat → Nat → Int32) (v0 : Int32), TMo G C N I J → 1 ≤ t → t ≤ G 10 0 → G 1 t = 16 → G 8 t ≤ d → p + d + 1 ≤ 8 → I 130 p = Int32.ofInt (t : Int) → I 131 p = 0 → I 114 24 = Int32.ofInt (m : Int) → m + EE d ≤ 200 → I 114 30 = 0 → ∃ (K : Nat) (I' : Nat → Nat → Int32), K ≤ KK d ∧ TrM m (szS G N (d + 1) t).1 I I' ∧ St p I I' ∧ I' 114 30 = (szS G N (d + 1) t).2.2 ∧ (((szS G N (d + 1) t).2.2 = 0 ∧ ∀ n, gX12_sizeOf_l18 σ R (n + K) I (Int32.ofInt ((p + 1 : Nat) : Int)) v0 = gX12_sizeOf_l18 σ R n I' (Int32.ofInt (p : Int)) (szS G N (d + 1) t).2.1) ∨ ((szS G N (d + 1) t).2.2 ≠ 0 ∧ ∃ v', ∀ n, gX12_sizeOf_l18 σ R (n + K) I (Int32.ofInt ((p + 1 : Nat) : Int)) v0 = some (I', v'))) := by
  have h40 := hg.1.1
  have leaf : ∀ (d t p m : Nat) (I : Nat → Nat → Int32) (v0 : Int32), TMo G C N I J → 1 ≤ t → t ≤ G 10 0 → G 7 t ≠ 2 → p + 1 ≤ 8 → I 130 p = Int32.ofInt (t : Int) → I 114 24 = Int32.ofInt (m : Int) → m + 2 ≤ 200 → I 114 30 = 0 → ∃ (K : Nat) (I' : Nat → Nat → Int32), K ≤ 2 ∧ TrM m (szS G N (d + 1) t).1 I I' ∧ St p I I' ∧ I' 114 30 = (szS G N (d + 1) t).2.2 ∧ (((szS G N (d + 1) t).2.2 = 0 ∧ ∀ n, gX12_sizeOf_l18 σ R (n + K) I (Int32.ofInt ((p + 1 : Nat) : Int)) v0 = gX12_sizeOf_l18 σ R n I' (Int32.ofInt (p : Int)) (szS G N (d + 1) t).2.1) ∨ ((szS G N (d + 1) t).2.2 ≠ 0 ∧ ∃ v', ∀ n, gX12_sizeOf_l18 σ R (n + K) I (Int32.ofInt ((p + 1 : Nat) : Int)) v0 = some (I', v'))) := by
    intro d t p m I v0 hm t1 t2 k2 hp h1 h hb h30
    have k5 := (hg.2.2.1 t t1 t2).2.1
    have m5 := (hm.2.2.1 t (by omega)).2.2.2.2.1
    obtain ⟨I', v, r1, r2, r3, r4, r5⟩ := leaf_M (σ := σ) (R := R) (d := d) hm t1 (show t < 4100 by omega) k5 k2 h hb h30
    have e1 : ((p + 1 : Nat) : Int) - 1 = (p : Int) := by omega
    have x1 : Int32.ofInt ((p + 1 : Nat) : Int) - 1 = Int32.ofInt (p : Int) := by rw [i_subl, e1]
    have x2 : Int32.ofInt ((p + 1 : Nat) : Int) + -1 = Int32.ofInt (p : Int) := by
      rw [show (-1 : Int32) = Int32.ofInt (-1) from by decide, i_add, show ((p + 1 : Nat) : Int) + -1 = (p : Int) by omega]
    have g8 : ¬ (Int32.ofInt (p : Int) < 0 ∨ 8 ≤ Int32.toNatClampNeg (Int32.ofInt (p : Int))) := by rw [i_gd (by omega)]; exact id
    have st : ∀ n, gX12_sizeOf_l18 σ R (n + 1) I (Int32.ofInt ((p + 1 : Nat) : Int)) v0 = gX12_sizeOf_l18 σ R n I' (Int32.ofInt (p : Int)) v := fun n => by
      rw [gX12_sizeOf_l18, if_neg (by rw [i_lel (by omega)]; omega), if_pos h30]
      dsimp only
      rw [x1, if_pos g8, t41 (by omega), h1, if_pos (g41 (by omega)), t41 (by omega), m5, if_neg (by rw [i_eql (by omega)]; omega), r1, ob_some]
      dsimp only
      rw [x2]
    by_cases f : (szS G N (d + 1) t).2.2 = 0
    · exact ⟨1, I', by omega, r2, r5.lo (by omega), r3, Or.inl ⟨f, fun n => by rw [st n, r4 f]⟩⟩
    · exact ⟨2, I', by omega, r2, r5.lo (by omega), r3, Or.inr ⟨f, v, fun n => by rw [show n + 2 = n + 1 + 1 from rfl, st (n + 1)]; exact l18_f (by rw [r3]; exact f)⟩⟩
  intro d
  induction d with
  | zero =>
    intro t p m I v0 hm t1 t2 f16 h8 hp h1 h2 h hb h30
    have st := (hg.2.2.1 t t1 t2).2.2.2.2.2.2.2.2.2.2.2.2.2 f16
    exact leaf 0 t p m I v0 hm t1 t2 (fun q => by have := (st q).1; omega) (by omega) h1 h (by have : EE 0 = 2 := rfl; omega) h30
  | succ d ih =>
    intro t p m I v0 hm t1 t2 f16 h8 hp h1 h2 h hb h30
    have eE : EE (d + 1) = 3 + 2 * EE d := rfl
    have eK : KK (d + 1) = 4 + 2 * KK d := rfl
    have hst := hg.2.2.1 t t1 t2
    have st := hst.2.2.2.2.2.2.2.2.2.2.2.2.2 f16
    by_cases k2 : G 7 t = 2
    case neg =>
      obtain ⟨K, I', a, b⟩ := leaf (d + 1) t p m I v0 hm t1 t2 k2 (by omega) h1 h (by omega) h30
      exact ⟨K, I', by omega, b⟩
    obtain ⟨s1, s2, s3⟩ := st k2
    have h5 := hst.2.2.2.2.2.2.2.2.2.2.1
    have h6 := hst.2.2.2.2.2.2.2.2.2.2.2.1
    obtain ⟨-, -, -, -, m5, m6, m7, m8, m9, -⟩ := hm.2.2.1 t (by omega)
    rw [k2] at m5
    have m5' : I 122 t = 2 := m5
    have eS : szS G N (d + 1 + 1) t = if (szS G N (d + 1) (G 5 t)).2.2 ≠ 0 then ([3] ++ (szS G N (d + 1) (G 5 t)).1, 0, (szS G N (d + 1) (G 5 t)).2.2) else if (szS G N (d + 1) (G 6 t)).2.2 ≠ 0 then ([3] ++ (szS G N (d + 1) (G 5 t)).1 ++ (szS G N (d + 1) (G 6 t)).1, 0, (szS G N (d + 1) (G 6 t)).2.2) else ([3] ++ (szS G N (d + 1) (G 5 t)).1 ++ (szS G N (d + 1) (G 6 t)).1 ++ [2] ++ [1], (szS G N (d + 1) (G 5 t)).2.1 + (szS G N (d + 1) (G 6 t)).2.1 + 2 * N 5 t + N 6 t, 0) := by
      show (if t = 0 then _ else _) = _
      rw [if_neg (by omega), if_pos k2]
    rw [eS]
    have T0 : TrM m [3] I (u2 (u2 I 129 m 3) 114 24 (Int32.ofInt ((m + 1 : Nat) : Int))) := bod_T
    have T1 : TrM m [3] I (u2 (u2 (u2 (u2 I 129 m 3) 114 24 (Int32.ofInt ((m + 1 : Nat) : Int))) 132 p 0) 131 p 1) := (T0.st (by omega) (by omega) rfl).st (by omega) (by omega) rfl
    have go1 : ∀ n, gX12_sizeOf_l18 σ R (n + 1) I (Int32.ofInt ((p + 1 : Nat) : Int)) v0 = gX12_sizeOf_b193 (gX12_sizeOf_l18 σ R n) σ R (u2 (u2 (u2 (u2 I 129 m 3) 114 24 (Int32.ofInt ((m + 1 : Nat) : Int))) 132 p 0) 131 p 1) (Int32.ofInt ((p + 1 : Nat) : Int)) v0 (Int32.ofInt (G 5 t : Nat)) := fun n => by
      rw [gr_M (s := 0) hS (by omega) (by omega) h1 (by rw [h2]; rfl) m5' h (by omega) h30 (Or.inl rfl), if_pos rfl, m8]
    by_cases z5 : G 5 t = 0
    · rw [z5, szS_0, if_pos (by decide)]
      refine ⟨2, u2 (u2 (u2 (u2 (u2 I 129 m 3) 114 24 (Int32.ofInt ((m + 1 : Nat) : Int))) 132 p 0) 131 p 1) 114 30 1, by omega, T1.st (by omega) (by omega) rfl, fun q hq => ⟨?_, ?_, ?_⟩, u2_self _ _ _ _, Or.inr ⟨by decide, v0, fun n => ?_⟩⟩
      · rw [u2n (by omega), u2n (by omega), u2n (by omega), bod_o (by omega)]
      · rw [u2n (by omega), u2n (by omega), u2n (by omega), bod_o (by omega)]
      · rw [u2n (by omega), u2n (by omega), u2n (by omega), bod_o (by omega)]
      · rw [show n + 2 = n + 1 + 1 from rfl, go1 (n + 1), z5, b193_0]
        exact l18_f (by rw [u2_self]; decide)
    have d5 : G 8 (G 5 t) ≤ d := by have := (s2 z5).2; omega
    have l5 := szS_len hg d (G 5 t) h5 (fun e => (s2 e).1) d5
    -- the left part
    have T2 : TrM m [3] I (u2 (u2 (u2 (u2 (u2 (u2 I 129 m 3) 114 24 (Int32.ofInt ((m + 1 : Nat) : Int))) 132 p 0) 131 p 1) 130 (p + 1) (Int32.ofInt (G 5 t : Nat))) 131 (p + 1) 0) := (T1.st (by omega) (by omega) rfl).st (by omega) (by omega) rfl
    obtain ⟨K1, I1, q1, q2, q3, q4, q5⟩ := ih (G 5 t) (p + 1) (m + 1) _ v0 (T2.mo' hm) (by omega) h5 (s2 z5).1 d5 (by omega) (by rw [u2n (by omega), u2_self]) (u2_self _ _ _ _) (by rw [u2n (by omega), u2n (by omega), u2n (by omega), u2n (by omega), u2_self]) (by omega) (by rw [u2n (by omega), u2n (by omega), u2n (by omega), u2n (by omega), bod_o (by omega)]; exact h30)
    have T3 : TrM m ([3] ++ (szS G N (d + 1) (G 5 t)).1) I I1 := T2.app q2
    have S3 : St p I I1 := fun q hq => by
      obtain ⟨a, b, c⟩ := q3 q (by omega)
      exact ⟨by rw [a, u2n (by omega), u2n (by omega), u2n (by omega), u2n (by omega), bod_o (by omega)], by rw [b, u2n (by omega), u2n (by omega), u2n (by omega), u2n (by omega), bod_o (by omega)], by rw [c, u2n (by omega), u2n (by omega), u2n (by omega), u2n (by omega), bod_o (by omega)]⟩
    obtain ⟨y0, y1, y2⟩ := q3 p (by omega)
    rw [u2n (by omega), u2n (by omega), u2n (by omega), u2n (by omega), bod_o (by omega), h1] at y0
    rw [u2n (by omega), u2n (by omega), u2_self] at y1
    rw [u2n (by omega), u2n (by omega), u2n (by omega), u2_self] at y2
    have go2 : ∀ n, gX12_sizeOf_l18 σ R (n + 1) I (Int32.ofInt ((p + 1 : Nat) : Int)) v0 = gX12_sizeOf_l18 σ R n (u2 (u2 (u2 (u2 (u2 (u2 I 129 m 3) 114 24 (Int32.ofInt ((m + 1 : Nat) : Int))) 132 p 0) 131 p 1) 130 (p + 1) (Int32.ofInt (G 5 t : Nat))) 131 (p + 1) 0) (Int32.ofInt ((p + 1 + 1 : Nat) : Int)) v0 := fun n => by
      rw [go1 n, b193_1 (by omega) (by omega) (by omega)]
    generalize hL : szS G N (d + 1) (G 5 t) = L at *
    by_cases f1 : L.2.2 = 0
    case neg =>
      rw [if_pos f1]
      rcases q5 with ⟨e, -⟩ | ⟨-, v', e⟩
      · exact absurd e f1
      · exact ⟨K1 + 1, I1, by omega, T3, S3, q4, Or.inr ⟨f1, v', fun n => by rw [show n + (K1 + 1) = n + K1 + 1 from rfl, go2]; exact e n⟩⟩
    rw [if_neg (show ¬ (L.2.2 ≠ 0) from fun e => e f1)]
    have q5 : ∀ n, gX12_sizeOf_l18 σ R (n + K1) (u2 (u2 (u2 (u2 (u2 (u2 I 129 m 3) 114 24 (Int32.ofInt ((m + 1 : Nat) : Int))) 132 p 0) 131 p 1) 130 (p + 1) (Int32.ofInt (G 5 t : Nat))) 131 (p + 1) 0) (Int32.ofInt ((p + 1 + 1 : Nat) : Int)) v0 = gX12_sizeOf_l18 σ R n I1 (Int32.ofInt ((p + 1 : Nat) : Int)) L.2.1 := by
      rcases q5 with ⟨-, e⟩ | ⟨e, -⟩
      · exact e
      · exact absurd f1 e
    have M1 := T3.mo' hm
    obtain ⟨-, -, -, -, n5, n6, n7, n8, n9, -⟩ := M1.2.2.1 t (by omega)
    rw [k2] at n5
    have lk : m + ([3] ++ L.1).length = m + 1 + L.1.length := by
      rw [List.length_append]
      show m + (1 + L.1.length) = _
      omega
    generalize hM1 : m + ([3] ++ L.1).length = M at *
    have hI1 : I1 114 24 = Int32.ofInt (M : Int) := by rw [T3.1, hM1]
    have go3 : ∀ n, gX12_sizeOf_l18 σ R (n + 1) I1 (Int32.ofInt ((p + 1 : Nat) : Int)) L.2.1 = gX12_sizeOf_b193 (gX12_sizeOf_l18 σ R n) σ R (u2 (u2 I1 132 p (0 + L.2.1)) 131 p 2) (Int32.ofInt ((p + 1 : Nat) : Int)) L.2.1 (Int32.ofInt (G 6 t : Nat)) := fun n => by
      rw [gr_M (s := 1) hS (by omega) (by omega) y0 (by rw [y1]; rfl) n5 hI1 (by omega) (by rw [q4]; exact f1) (Or.inr rfl), if_neg (by omega), y2, n9]
    have T4 : TrM m ([3] ++ L.1) I (u2 (u2 I1 132 p (0 + L.2.1)) 131 p 2) := (T3.st (by omega) (by omega) rfl).st (by omega) (by omega) rfl
    by_cases z6 : G 6 t = 0
    · rw [z6, szS_0, if_pos (by decide)]
      refine ⟨K1 + 3, u2 (u2 (u2 I1 132 p (0 + L.2.1)) 131 p 2) 114 30 1, by omega, by rw [List.append_nil]; exact T4.st (by omega) (by omega) rfl, fun q hq => ?_, u2_self _ _ _ _, Or.inr ⟨show (1 : Int32) ≠ 0 from by decide, L.2.1, fun n => ?_⟩⟩
      · obtain ⟨a, b, c⟩ := S3 q hq
        exact ⟨by rw [u2n (by omega), u2n (by omega), u2n (by omega)]; exact a, by rw [u2n (by omega), u2n (by omega), u2n (by omega)]; exact b, by rw [u2n (by omega), u2n (by omega), u2n (by omega)]; exact c⟩
      · rw [show n + (K1 + 3) = n + 2 + K1 + 1 by omega, go2, q5 (n + 2), show n + 2 = n + 1 + 1 from rfl, go3 (n + 1), z6, b193_0]
        exact l18_f (by rw [u2_self]; decide)
    have d6 : G 8 (G 6 t) ≤ d := by have := (s3 z6).2; omega
    have l6 := szS_len hg d (G 6 t) h6 (fun e => (s3 e).1) d6
    have T5 : TrM m ([3] ++ L.1) I (u2 (u2 (u2 (u2 I1 132 p (0 + L.2.1)) 131 p 2) 130 (p + 1) (Int32.ofInt (G 6 t : Nat))) 131 (p + 1) 0) := (T4.st (by omega) (by omega) rfl).st (by omega) (by omega) rfl
    obtain ⟨K2, I2, u1', u2', u3, u4, u5⟩ := ih (G 6 t) (p + 1) M _ L.2.1 (T5.mo' hm) (by omega) h6 (s3 z6).1 d6 (by omega) (by rw [u2n (by omega), u2_self]) (u2_self _ _ _ _) (by rw [u2n (by omega), u2n (by omega), u2n (by omega), u2n (by omega)]; exact hI1) (by omega) (by rw [u2n (by omega), u2n (by omega), u2n (by omega), u2n (by omega), q4]; exact f1)
    rw [← hM1] at u2'
    have T6 : TrM m ([3] ++ L.1 ++ (szS G N (d + 1) (G 6 t)).1) I I2 := T5.app u2'
    have S6 : St p I I2 := fun q hq => by
      obtain ⟨a, b, c⟩ := u3 q (by omega)
      obtain ⟨a', b', c'⟩ := S3 q hq
      exact ⟨by rw [a, u2n (by omega), u2n (by omega), u2n (by omega), u2n (by omega)]; exact a', by rw [b, u2n (by omega), u2n (by omega), u2n (by omega), u2n (by omega)]; exact b', by rw [c, u2n (by omega), u2n (by omega), u2n (by omega), u2n (by omega)]; exact c'⟩
    obtain ⟨w0, w1, w2⟩ := u3 p (by omega)
    rw [u2n (by omega), u2n (by omega), u2n (by omega), u2n (by omega), y0] at w0
    rw [u2n (by omega), u2n (by omega), u2_self] at w1
    rw [u2n (by omega), u2n (by omega), u2n (by omega), u2_self] at w2
    have go4 : ∀ n, gX12_sizeOf_l18 σ R (n + (K1 + 2)) I (Int32.ofInt ((p + 1 : Nat) : Int)) v0 = gX12_sizeOf_l18 σ R n (u2 (u2 (u2 (u2 I1 132 p (0 + L.2.1)) 131 p 2) 130 (p + 1) (Int32.ofInt (G 6 t : Nat))) 131 (p + 1) 0) (Int32.ofInt ((p + 1 + 1 : Nat) : Int)) L.2.1 := fun n => by
      rw [show n + (K1 + 2) = n + 1 + K1 + 1 by omega, go2, q5 (n + 1), go3 n, b193_1 (by omega) (by omega) (by omega)]
    generalize hR : szS G N (d + 1) (G 6 t) = Q at *
    by_cases f2 : Q.2.2 = 0
    case neg =>
      rw [if_pos f2]
      rcases u5 with ⟨e, -⟩ | ⟨-, v', e⟩
      · exact absurd e f2
      · exact ⟨K1 + 2 + K2, I2, by omega, T6, S6, u4, Or.inr ⟨f2, v', fun n => by rw [show n + (K1 + 2 + K2) = n + K2 + (K1 + 2) by omega, go4]; exact e n⟩⟩
    rw [if_neg (show ¬ (Q.2.2 ≠ 0) from fun e => e f2)]
    have u5 : ∀ n, gX12_sizeOf_l18 σ R (n + K2) (u2 (u2 (u2 (u2 I1 132 p (0 + L.2.1)) 131 p 2) 130 (p + 1) (Int32.ofInt (G 6 t : Nat))) 131 (p + 1) 0) (Int32.ofInt ((p + 1 + 1 : Nat) : Int)) L.2.1 = gX12_sizeOf_l18 σ R n I2 (Int32.ofInt ((p + 1 : Nat) : Int)) Q.2.1 := by
      rcases u5 with ⟨-, e⟩ | ⟨e, -⟩
      · exact e
      · exact absurd f2 e
    have M2 := T6.mo' hm
    obtain ⟨-, -, -, -, j5, j6, j7, -⟩ := M2.2.2.1 t (by omega)
    rw [k2] at j5
    have lk2 : m + ([3] ++ L.1 ++ Q.1).length = m + 1 + L.1.length + Q.1.length := by
      rw [List.length_append]
      omega
    generalize hM2 : m + ([3] ++ L.1 ++ Q.1).length = M' at *
    have hI2 : I2 114 24 = Int32.ofInt (M' : Int) := by rw [T6.1, hM2]
    have T7 : TrM m ([3] ++ L.1 ++ Q.1) I (u2 (u2 I2 132 p (0 + L.2.1 + Q.2.1)) 131 p 3) := (T6.st (by omega) (by omega) rfl).st (by omega) (by omega) rfl
    have T8 : TrM M' ([2] ++ [1]) (u2 (u2 I2 132 p (0 + L.2.1 + Q.2.1)) 131 p 3) (u2 (u2 (u2 (u2 (u2 (u2 I2 132 p (0 + L.2.1 + Q.2.1)) 131 p 3) 129 M' 2) 114 24 (Int32.ofInt ((M' + 1 : Nat) : Int))) 129 (M' + 1) 1) 114 24 (Int32.ofInt ((M' + 1 + 1 : Nat) : Int))) := Tr.app bod_T bod_T
    rw [← hM2] at T8
    have T9 := T7.app T8
    rw [← List.append_assoc, hM2] at T9
    refine ⟨K1 + 2 + K2 + 1, _, by omega, T9, fun q hq => ?_, ?_, Or.inl ⟨rfl, fun n => ?_⟩⟩
    · obtain ⟨a, b, c⟩ := S6 q hq
      exact ⟨by rw [bod_o (by omega), bod_o (by omega), u2n (by omega), u2n (by omega)]; exact a, by rw [bod_o (by omega), bod_o (by omega), u2n (by omega), u2n (by omega)]; exact b, by rw [bod_o (by omega), bod_o (by omega), u2n (by omega), u2n (by omega)]; exact c⟩
    · rw [bod_o (by omega), bod_o (by omega), u2n (by omega), u2n (by omega), u4]; exact f2
    · rw [show n + (K1 + 2 + K2 + 1) = n + 1 + K2 + (K1 + 2) by omega, go4, u5 (n + 1), gr2_M (m := M') hS (by omega) (by omega) w0 w1 j5 hI2 (by omega) (by rw [u4]; exact f2), w2, j6, j7, Int32.zero_add]
theorem sz_M {G : Nat → Nat → Nat} {C : Nat → Int64} {N : Nat → Nat → Int32} {σ : Shp} {I : Nat → Nat → Int32} {J : Nat → Nat → Int64} {R : Nat → Nat → Option Nat} {t m : Nat} (hS : Skel σ R) (hg : TSg G C N) (hm : TMo G C N I J) (t1 : 1 ≤ t) (t2 : t ≤ G 10 0) (f16 : G 1 t = 16) (h : I 114 24 = Int32.ofInt (m : Int)) (hb : m + 77 ≤ 200) (h30 : I 114 30 = 0) : ∃ I' v, gX12_sizeOf σ I R (Int32.ofInt t) = some (I', v) ∧ TrM m (szS G N 5 t).1 I I' ∧ I' 114 30 = (szS G N 5 t).2.2 ∧ ((szS G N 5 t).2.2 = 0 → v = (szS G N 5 t).2.1) := by
  have T0 : TrM m [] I (u2 (u2 I 130 0 (Int32.ofInt (t : Int))) 131 0 0) := ((Tr.nil h).st (by omega) (by omega) rfl).st (by omega) (by omega) rfl
  have h8 := (hg.2.2.1 t t1 t2).2.2.1
  obtain ⟨K, I', q1, q2, q3, q4, q5⟩ := szl_M (σ := σ) (R := R) hS hg 4 t 0 m _ 0 (T0.mo' hm) t1 t2 f16 h8 (by omega) (by rw [u2n (by omega), u2_self]) (u2_self _ _ _ _) (by rw [u2n (by omega), u2n (by omega)]; exact h) (by have : EE 4 = 77 := rfl; omega) (by rw [u2n (by omega), u2n (by omega)]; exact h30)
  have T1 : TrM m ([] ++ (szS G N 5 t).1) I I' := T0.app q2
  rw [List.nil_append] at T1
  have kk : KK 4 = 92 := rfl
  have u : gX12_sizeOf σ I R (Int32.ofInt t) = gX12_sizeOf_l18 σ R (1999900 + (100 - K) + K) (u2 (u2 I 130 0 (Int32.ofInt (t : Int))) 131 0 0) (Int32.ofInt ((0 + 1 : Nat) : Int)) 0 := by
    rw [show 1999900 + (100 - K) + K = FUx from by rw [FUx_eq]; omega]
    unfold gX12_sizeOf
    rw [if_pos (by decide), if_pos (by decide)]
    rfl
  rcases q5 with ⟨e, f⟩ | ⟨e, v', f⟩
  · refine ⟨I', (szS G N 5 t).2.1, ?_, T1, q4, fun _ => rfl⟩
    rw [u, f, show 1999900 + (100 - K) = 1999899 + (100 - K) + 1 by omega, gX12_sizeOf_l18, if_pos (by decide)]
  · exact ⟨I', v', by rw [u, f], T1, q4, fun h => absurd h e⟩
