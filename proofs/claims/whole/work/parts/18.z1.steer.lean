/-! ===== minute: steering, its turns ===== -/
def mvA (v a b : Int) : Int := if v ≤ 0 then a - min (-v) a else min 100 (a + v - min v b)
def mvB (v a b : Int) : Int := if v ≤ 0 then min 100 (b + -v - min (-v) a) else b - min v b
theorem mvA_b {v a b : Int} (hv : -10 ≤ v ∧ v ≤ 10) (ha : 0 ≤ a ∧ a ≤ 100) (hb : 0 ≤ b ∧ b ≤ 100) : (0 ≤ mvA v a b ∧ mvA v a b ≤ 100) ∧ (0 ≤ mvB v a b ∧ mvB v a b ≤ 100) := by
  unfold mvA mvB
  split <;> omega
theorem mbC {σ : Shp} {R : Nat → Nat → Option Nat} {J : Nat → Nat → Int64} {h : Nat} {v a b : Int} (hh : h < 3) (hv : -10 ≤ v ∧ v ≤ 10) (ha : 0 ≤ a ∧ a ≤ 100) (hb : 0 ≤ b ∧ b ≤ 100) (e3 : J (58 + h) 3 = Int64.ofInt a) (e4 : J (58 + h) 4 = Int64.ofInt b) : ∃ J', gX4_moveBy σ J R (Int32.ofInt (h : Int)) (Int64.ofInt v) = some J' ∧ J' (58 + h) 3 = Int64.ofInt (mvA v a b) ∧ J' (58 + h) 4 = Int64.ofInt (mvB v a b) ∧ J' (58 + h) 5 = J (58 + h) 5 ∧ FrJ h J J' := by
  unfold gX4_moveBy
  by_cases c : v ≤ 0
  · have av : (if 0 ≤ v then v else -v) = -v := by split <;> omega
    refine ⟨u2 (u2 J (58 + h) 3 (Int64.ofInt (a - min (-v) a))) (58 + h) 4 (Int64.ofInt (min 100 (b + -v - min (-v) a))), ?_, ?_, ?_, ?_, ?_⟩
    · rw [if_pos (by rw [j_lel (by omega)]; exact c), if_pos (by rw [j_lel (by omega)]; exact c)]
      unfold gX4_moveBy_b24
      rw [if_pos (by rw [i_gd (by omega)]; exact not_false), if_pos (by decide), if_pos (by decide), i_tn (by omega), Int.toNat_natCast, abJ (by omega), av, show Int32.toNatClampNeg (3 : Int32) = 3 from rfl, show Int32.toNatClampNeg (4 : Int32) = 4 from rfl, e3, mnJ (by omega) (by omega), j_sub, u2n (by omega), e4, j_add, j_sub, show (100 : Int64) = Int64.ofInt 100 from rfl, mnJ (by omega) (by omega)]
    · unfold mvA; rw [if_pos c]; simp (disch := omega) only [u2n, u2s]
    · unfold mvB; rw [if_pos c]; simp (disch := omega) only [u2n, u2s]
    · simp (disch := omega) only [u2n, u2s]
    · exact (FrJ.u (by omega)).tr (FrJ.u (by omega))
  · have av : (if 0 ≤ v then v else -v) = v := by split <;> omega
    refine ⟨u2 (u2 J (58 + h) 4 (Int64.ofInt (b - min v b))) (58 + h) 3 (Int64.ofInt (min 100 (a + v - min v b))), ?_, ?_, ?_, ?_, ?_⟩
    · rw [if_neg (by rw [j_lel (by omega)]; exact c), if_neg (by rw [j_lel (by omega)]; exact c)]
      unfold gX4_moveBy_b24
      rw [if_pos (by rw [i_gd (by omega)]; exact not_false), if_pos (by decide), if_pos (by decide), i_tn (by omega), Int.toNat_natCast, abJ (by omega), av, show Int32.toNatClampNeg (3 : Int32) = 3 from rfl, show Int32.toNatClampNeg (4 : Int32) = 4 from rfl, e4, mnJ (by omega) (by omega), j_sub, u2n (by omega), e3, j_add, j_sub, show (100 : Int64) = Int64.ofInt 100 from rfl, mnJ (by omega) (by omega)]
    · unfold mvA; rw [if_neg c]; simp (disch := omega) only [u2n, u2s]
    · unfold mvB; rw [if_neg c]; simp (disch := omega) only [u2n, u2s]
    · simp (disch := omega) only [u2n, u2s]
    · exact (FrJ.u (by omega)).tr (FrJ.u (by omega))
theorem mbM3 {σ : Shp} {R : Nat → Nat → Option Nat} {I : Nat → Nat → Int32} {J : Nat → Nat → Int64} {h : Nat} {v a b n t : Int} {x2 : Int32} (hh : h < 3) (hv : -10 ≤ v ∧ v ≤ 10) (hn : n = if 0 ≤ v then v else -v) (ha : 0 ≤ a ∧ a ≤ 100) (hb : 0 ≤ b ∧ b ≤ 100) (ht : t = if v ≤ 0 then min n a else min n b) (e3 : I 177 h = Int32.ofInt a) (e4 : I 178 h = Int32.ofInt b) : ∃ I', gX12_steer_b233 σ J R I (Int32.ofInt (h : Int)) x2 (Int32.ofInt v) (Int32.ofInt n) (Int32.ofInt t) = gX12_steer_b340 σ J R I' (Int32.ofInt (h : Int)) x2 ∧ I' 177 h = Int32.ofInt (mvA v a b) ∧ I' 178 h = Int32.ofInt (mvB v a b) ∧ I' 179 h = I 179 h ∧ FrI h I I' := by
  unfold gX12_steer_b233
  by_cases c : v ≤ 0
  · rw [if_pos c] at ht
    have hn : n = -v := by split at hn <;> omega
    subst hn
    rw [if_pos (by rw [i_lel (by omega)]; exact c), if_pos (by rw [i_gd (by omega)]; exact not_false), if_pos (by rw [i_gd (by omega)]; exact not_false), i_tn (by omega), Int.toNat_natCast, e3, i_sub, i_sub, u2n (by omega), e4, i_add]
    by_cases d : b + (-v - t) ≤ 100
    · rw [if_pos (by rw [i_lel (by omega)]; exact d)]
      refine ⟨_, rfl, ?_, ?_, ?_, (FrI.u (by omega)).tr (FrI.u (by omega))⟩
      · simp (disch := omega) only [u2n, u2s]; unfold mvA; rw [if_pos c, ht]
      · simp (disch := omega) only [u2n, u2s]; unfold mvB; rw [if_pos c]; congr 1; omega
      · simp (disch := omega) only [u2n, u2s]
    · rw [if_neg (by rw [i_lel (by omega)]; exact d)]
      refine ⟨_, rfl, ?_, ?_, ?_, (FrI.u (by omega)).tr (FrI.u (by omega))⟩
      · simp (disch := omega) only [u2n, u2s]; unfold mvA; rw [if_pos c, ht]
      · simp (disch := omega) only [u2n, u2s]; unfold mvB; rw [if_pos c, show min 100 (b + -v - min (-v) a) = 100 by omega]; rfl
      · simp (disch := omega) only [u2n, u2s]
  · rw [if_neg c] at ht
    have hn : n = v := by split at hn <;> omega
    subst hn
    rw [if_neg (by rw [i_lel (by omega)]; exact c), if_pos (by rw [i_gd (by omega)]; exact not_false), if_pos (by rw [i_gd (by omega)]; exact not_false), i_tn (by omega), Int.toNat_natCast, e4, i_sub, i_sub, u2n (by omega), e3, i_add]
    by_cases d : a + (n - t) ≤ 100
    · rw [if_pos (by rw [i_lel (by omega)]; exact d)]
      refine ⟨_, rfl, ?_, ?_, ?_, (FrI.u (by omega)).tr (FrI.u (by omega))⟩
      · simp (disch := omega) only [u2n, u2s]; unfold mvA; rw [if_neg c]; congr 1; omega
      · simp (disch := omega) only [u2n, u2s]; unfold mvB; rw [if_neg c, ht]
      · simp (disch := omega) only [u2n, u2s]
    · rw [if_neg (by rw [i_lel (by omega)]; exact d)]
      refine ⟨_, rfl, ?_, ?_, ?_, (FrI.u (by omega)).tr (FrI.u (by omega))⟩
      · simp (disch := omega) only [u2n, u2s]; unfold mvA; rw [if_neg c, show min 100 (a + n - min n b) = 100 by omega]; rfl
      · simp (disch := omega) only [u2n, u2s]; unfold mvB; rw [if_neg c, ht]
      · simp (disch := omega) only [u2n, u2s]
theorem mbM {σ : Shp} {R : Nat → Nat → Option Nat} {I : Nat → Nat → Int32} {J : Nat → Nat → Int64} {h : Nat} {v a b n : Int} {x2 : Int32} (hh : h < 3) (hv : -10 ≤ v ∧ v ≤ 10) (hn : n = if 0 ≤ v then v else -v) (ha : 0 ≤ a ∧ a ≤ 100) (hb : 0 ≤ b ∧ b ≤ 100) (e3 : I 177 h = Int32.ofInt a) (e4 : I 178 h = Int32.ofInt b) : ∃ I', gX12_steer_b195 σ J R I (Int32.ofInt (h : Int)) x2 (Int32.ofInt v) (Int32.ofInt n) = gX12_steer_b340 σ J R I' (Int32.ofInt (h : Int)) x2 ∧ I' 177 h = Int32.ofInt (mvA v a b) ∧ I' 178 h = Int32.ofInt (mvB v a b) ∧ I' 179 h = I 179 h ∧ FrI h I I' := by
  have nb : 0 ≤ n ∧ n ≤ 10 := by split at hn <;> omega
  unfold gX12_steer_b195
  by_cases c : v ≤ 0
  · rw [if_pos (by rw [i_lel (by omega)]; exact c), if_pos (by rw [i_gd (by omega)]; exact not_false), show Int32.toNatClampNeg (Int32.ofInt (h : Int)) = h by rw [i_tn (by omega), Int.toNat_natCast], e3]
    by_cases d : n ≤ a
    · rw [if_pos (by rw [i_le (by omega) (by omega)]; exact d)]
      exact mbM3 hh hv hn ha hb (by rw [if_pos c]; omega) e3 e4
    · rw [if_neg (by rw [i_le (by omega) (by omega)]; exact d)]
      exact mbM3 hh hv hn ha hb (by rw [if_pos c]; omega) e3 e4
  · rw [if_neg (by rw [i_lel (by omega)]; exact c), if_pos (by rw [i_gd (by omega)]; exact not_false), show Int32.toNatClampNeg (Int32.ofInt (h : Int)) = h by rw [i_tn (by omega), Int.toNat_natCast], e4]
    by_cases d : n ≤ b
    · rw [if_pos (by rw [i_le (by omega) (by omega)]; exact d)]
      exact mbM3 hh hv hn ha hb (by rw [if_neg c]; omega) e3 e4
    · rw [if_neg (by rw [i_le (by omega) (by omega)]; exact d)]
      exact mbM3 hh hv hn ha hb (by rw [if_neg c]; omega) e3 e4
/-- the wind, both ways -/
theorem wind {σ : Shp} {R : Nat → Nat → Option Nat} {I I' : Nat → Nat → Int32} {J J' : Nat → Nat → Int64} {D : Nat → Nat → UInt64} {h : Nat} {a b c o : Int} (hS : Skel σ R) (hh : h < 3) (w : I 61 4 = I' 174 4) (ho : 0 ≤ o ∧ o ≤ 100) (av : AV J I' h a b c) : ∃ J2 I2 a', gX4_steer_b85 σ I D R J (some (58 + h)) (Int64.ofInt o) = some J2 ∧ gX12_steer_b340 σ J' R I' (Int32.ofInt (h : Int)) (Int32.ofInt o) = some I2 ∧ AV J2 I2 h a' b c ∧ FrJ h J J2 ∧ FrI h I' I2 := by
  obtain ⟨k1, k2⟩ := k58 hS hh
  obtain ⟨j3, j4, j5, i7, i8, i9, ha, hb, hc⟩ := id av
  have gh : ¬ (Int32.ofInt (h : Int) < 0 ∨ 3 ≤ Int32.toNatClampNeg (Int32.ofInt (h : Int))) := by rw [i_gd (by omega)]; exact id
  have g5 : ¬ ((4 : Int32) < 0 ∨ 5 ≤ Int32.toNatClampNeg (4 : Int32)) := by decide
  unfold gX4_steer_b85 gX12_steer_b340
  rw [if_pos g5, if_pos g5, show Int32.toNatClampNeg (4 : Int32) = 4 from rfl, w]
  by_cases c1 : I' 174 4 = 1
  · rw [if_pos c1, if_pos c1, ob_some, if_pos k1, if_pos (by rw [k2]; decide), show Int32.toNatClampNeg (3 : Int32) = 3 from rfl, j3, if_pos gh, i_tn (by omega), Int.toNat_natCast, i7]
    by_cases c2 : a ≤ 20
    · rw [if_pos (by rw [j_lel (by omega)]; exact c2), if_pos (by rw [i_lel (by omega)]; exact c2)]
      exact ⟨J, I', a, rfl, rfl, av, fun _ _ _ => rfl, fun _ _ _ => rfl⟩
    · rw [if_neg (by rw [j_lel (by omega)]; exact c2), if_neg (by rw [i_lel (by omega)]; exact c2), j_subl, i_subl, show (20 : Int64) = Int64.ofInt 20 from rfl, mxJ (by omega) (by omega)]
      by_cases c3 : o - 10 ≤ 20
      · rw [if_pos (by rw [i_lel (by omega)]; exact c3), show max 20 (o - 10) = 20 by omega]
        refine ⟨_, _, 20, rfl, rfl, ⟨?_, ?_, ?_, ?_, ?_, ?_, by omega, hb, hc⟩, FrJ.u (by omega), FrI.u (by omega)⟩
        · simp (disch := omega) only [u2n, u2s]
        · simp (disch := omega) only [u2n, u2s]; exact j4
        · simp (disch := omega) only [u2n, u2s]; exact j5
        · simp (disch := omega) only [u2n, u2s]; rfl
        · simp (disch := omega) only [u2n, u2s]; exact i8
        · simp (disch := omega) only [u2n, u2s]; exact i9
      · rw [if_neg (by rw [i_lel (by omega)]; exact c3), show max 20 (o - 10) = o - 10 by omega]
        refine ⟨_, _, o - 10, rfl, rfl, ⟨?_, ?_, ?_, ?_, ?_, ?_, by omega, hb, hc⟩, FrJ.u (by omega), FrI.u (by omega)⟩
        · simp (disch := omega) only [u2n, u2s]
        · simp (disch := omega) only [u2n, u2s]; exact j4
        · simp (disch := omega) only [u2n, u2s]; exact j5
        · simp (disch := omega) only [u2n, u2s]
        · simp (disch := omega) only [u2n, u2s]; exact i8
        · simp (disch := omega) only [u2n, u2s]; exact i9
  · rw [if_neg c1, if_neg c1]
    exact ⟨J, I', a, rfl, rfl, av, fun _ _ _ => rfl, fun _ _ _ => rfl⟩
/-- no wish, both ways -/
theorem calm {σ : Shp} {R : Nat → Nat → Option Nat} {I I' : Nat → Nat → Int32} {J J' : Nat → Nat → Int64} {D : Nat → Nat → UInt64} {h : Nat} {a b c : Int} (hS : Skel σ R) (hh : h < 3) (w : I 61 4 = I' 174 4) (av : AV J I' h a b c) : ∃ J2 I2 a' b', gX4_steer_b50 σ I D R J (some (58 + h)) (Int64.ofInt a) = some J2 ∧ gX12_steer_b51 σ J' R I' (Int32.ofInt (h : Int)) (Int32.ofInt a) = some I2 ∧ AV J2 I2 h a' b' c ∧ FrJ h J J2 ∧ FrI h I' I2 := by
  obtain ⟨k1, k2⟩ := k58 hS hh
  obtain ⟨j3, j4, j5, i7, i8, i9, ha, hb, hc⟩ := id av
  have av2 : AV (u2 (u2 J (58 + h) 3 (Int64.ofInt (tw a 10))) (58 + h) 4 (Int64.ofInt (tw b 30))) (u2 (u2 I' 177 h (Int32.ofInt (tw a 10))) 178 h (Int32.ofInt (tw b 30))) h (tw a 10) (tw b 30) c := by
    refine ⟨?_, ?_, ?_, ?_, ?_, ?_, tw_b ha (by omega), tw_b hb (by omega), hc⟩
    · simp (disch := omega) only [u2n, u2s]
    · simp (disch := omega) only [u2n, u2s]
    · simp (disch := omega) only [u2n, u2s]; exact j5
    · simp (disch := omega) only [u2n, u2s]
    · simp (disch := omega) only [u2n, u2s]
    · simp (disch := omega) only [u2n, u2s]; exact i9
  obtain ⟨J2, I2, a', w1, w2, w3, w4, w5⟩ := wind (J' := J') (D := D) hS hh (o := a) (I := I) (by simp (disch := omega) only [u2n, u2s]; exact w) ha av2
  refine ⟨J2, I2, a', tw b 30, ?_, ?_, w3, ((FrJ.u (by omega)).tr (FrJ.u (by omega))).tr w4, ((FrI.u (by omega)).tr (FrI.u (by omega))).tr w5⟩
  · unfold gX4_steer_b50
    rw [ob_some, if_pos k1, if_pos (by rw [k2]; decide), if_pos (by rw [k2]; decide), show Int32.toNatClampNeg (3 : Int32) = 3 from rfl, show Int32.toNatClampNeg (4 : Int32) = 4 from rfl, show (10 : Int64) = Int64.ofInt 10 from rfl, twC ha (by omega), u2n (by omega), j4, show (30 : Int64) = Int64.ofInt 30 from rfl, twC hb (by omega)]
    exact w1
  · unfold gX12_steer_b51
    rw [if_pos (by rw [i_gd (by omega)]; exact not_false), if_pos (by rw [i_gd (by omega)]; exact not_false), i_tn (by omega), Int.toNat_natCast, show (10 : Int32) = Int32.ofInt 10 from rfl, twM ha (by omega), u2n (by omega), i8, show (30 : Int32) = Int32.ofInt 30 from rfl, twM hb (by omega)]
    exact w2
