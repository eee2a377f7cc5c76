/-! ===== minute: steering, whole ===== -/
theorem tdb {p w B : Int} (h : -B ≤ p ∧ p ≤ B) : -B ≤ p.tdiv w ∧ p.tdiv w ≤ B := by
  have a := Int.natAbs_tdiv_le_natAbs p w
  omega
theorem rem1440 {m : Nat} (hm : m ≤ 100000) : Int32.ofInt (m : Int) - Int32.ofInt (m : Int) / (1440 : Int32) * (1440 : Int32) = Int32.ofInt ((m % 1440 : Nat) : Int) := by
  rw [show (1440 : Int32) = Int32.ofInt 1440 from rfl, (idv (by omega) (by omega)).1, i_mul, i_sub]
  congr 1
  rw [Int.tdiv_eq_ediv_of_nonneg (by omega)]
  omega
def ns (v x : Int) : Int := cla (cla v 1000000000 - x) 100000
def nst (v x c : Int) : Int := cla (c + (ns v x).tdiv 16) 4000
def nmv (v x c : Int) : Int := cla ((ns v x).tdiv 400 + (nst v x c).tdiv 500) 10
theorem wmC {σ : Shp} {R : Nat → Nat → Option Nat} {I : Nat → Nat → Int32} {J : Nat → Nat → Int64} {D : Nat → Nat → UInt64} {h m : Nat} {c v x : Int} {r : UInt64} (hh : h < 3) (e5 : J (58 + h) 5 = Int64.ofInt c) (hc : -4000 ≤ c ∧ c ≤ 4000) (val : gX4_valueReal σ J D R (Int32.ofInt (h : Int)) = some r) (G : FP.dmul r (4652007308841189376 : UInt64) &&& 0x7fffffffffffffff ≤ 0x7ff0000000000000) (ed : FP.d2l (FP.dmul r (4652007308841189376 : UInt64)) = Int64.ofInt v) (hv : -9223372036854775808 ≤ v ∧ v < 9223372036854775808) (em : I 26 13 = Int32.ofInt (m : Int)) (hm : m ≤ 100000) (wi : gX4_wishAt σ I R (Int32.ofInt (h : Int)) (Int32.ofInt ((m % 1440 : Nat) : Int)) = some (Int32.ofInt x)) (hx : -200000 ≤ x ∧ x ≤ 200000) : gX4_wantedMove σ I J D R (Int32.ofInt (h : Int)) = some (u2 J (58 + h) 5 (Int64.ofInt (nst v x c)), Int64.ofInt (nmv v x c)) := by
  have gh : ¬ (Int32.ofInt (h : Int) < 0 ∨ 3 ≤ Int32.toNatClampNeg (Int32.ofInt (h : Int))) := by rw [i_gd (by omega)]; exact id
  have b1 := cla_b (x := v) (n := 1000000000) (by omega)
  have b2 := cla_b (x := cla v 1000000000 - x) (n := 100000) (by omega)
  have b3 := tdb (w := 16) b2
  have b4 := cla_b (x := c + (ns v x).tdiv 16) (n := 4000) (by omega)
  have b5 := tdb (w := 400) b2
  have b6 := tdb (w := 500) b4
  unfold gX4_wantedMove
  rw [if_pos gh, val, ob_some, if_pos G, ed, em, rem1440 hm, wi, ob_some]
  rw [bdC (n := 1000000000) (lo := -1000000000) (hi := 1000000000) hv (by omega) rfl rfl, i_w (by omega), j_sub, bdC (n := 100000) (lo := -100000) (hi := 100000) (by omega) (by omega) rfl rfl, if_pos (by decide), i_tn (by omega), Int.toNat_natCast, show Int32.toNatClampNeg (5 : Int32) = 5 from rfl, e5, show (16 : Int64) = Int64.ofInt 16 from rfl, (jdv (by omega) (by omega)).1, j_add]
  change -100000 ≤ (ns v x).tdiv 16 ∧ (ns v x).tdiv 16 ≤ 100000 at b3
  rw [show cla (cla v 1000000000 - x) 100000 = ns v x from rfl, bdC (n := 4000) (lo := -4000) (hi := 4000) (by omega) (by omega) rfl rfl, show cla (c + (ns v x).tdiv 16) 4000 = nst v x c from rfl]
  change -100000 ≤ (ns v x).tdiv 400 ∧ (ns v x).tdiv 400 ≤ 100000 at b5
  change -4000 ≤ (nst v x c).tdiv 500 ∧ (nst v x c).tdiv 500 ≤ 4000 at b6
  change -4000 ≤ nst v x c ∧ nst v x c ≤ 4000 at b4
  change -100000 ≤ ns v x ∧ ns v x ≤ 100000 at b2
  dsimp only
  rw [u2_self, show (400 : Int64) = Int64.ofInt 400 from rfl, show (500 : Int64) = Int64.ofInt 500 from rfl, (jdv (by omega) (by omega)).1, (jdv (by omega) (by omega)).1, j_add, bdC (n := 10) (lo := -10) (hi := 10) (by omega) (by omega) rfl rfl]
  rfl
/-- the marks of a house, both ways -/
def MK (I I' : Nat → Nat → Int32) (t : Nat) : Prop := ∃ n : Nat, n ≤ 6 ∧ I' 181 t = Int32.ofInt (n : Int) ∧ I 70 t = Int32.ofInt (n : Int) ∧ (1 ≤ n → ∃ M W : Nat → Int, WsB n M W ∧ (∀ k, k < 6 → I' 182 (6 * t + k) = Int32.ofInt (M k)) ∧ (∀ k, k < 6 → I' 183 (6 * t + k) = Int32.ofInt (W k)) ∧ (∀ k, k < 6 → I (63 + t) k = Int32.ofInt (M k)) ∧ (∀ k, k < 6 → I (67 + t) k = Int32.ofInt (W k)))
theorem k1000 : FP.Core.val64 4652007308841189376 = .fin false 8796093022208000 (-43) := by decide +kernel
theorem g1000 {r : UInt64} (h : FP.Core.val64 r ≠ .nan) : FP.dmul r (4652007308841189376 : UInt64) &&& 0x7fffffffffffffff ≤ 0x7ff0000000000000 := nn_of ((FP.Core.notNaN_iff _).mp (FP.Core.dmul_out' ((FP.Core.notNaN_iff _).mpr h) ⟨_, _, _, k1000⟩ (fun ⟨s, q, e⟩ => by rw [k1000] at e; injection e with e1 e2 e3; exact absurd e2 (by decide))))
theorem steer_L {σ : Shp} {R : Nat → Nat → Option Nat} {I I' : Nat → Nat → Int32} {J J' : Nat → Nat → Int64} {D : Nat → Nat → UInt64} {h m : Nat} {a b c : Int} (hS : Skel σ R) (hh : h < 3) (hm : m ≤ 100000) (w3 : I 61 3 = I' 174 3) (w4 : I 61 4 = I' 174 4) (av : AV J I' h a b c) (e55 : J 55 h = J' 173 h) (nv : NumC (J' 173 h)) (vm : isNum (J 55 h) → J 52 h = J 55 h ∨ J 52 (h + 3) = J 55 h ∨ J 52 (h + 6) = J 55 h) (hD : ∀ p, p < 9 → isNum (J 52 p) → D 53 p = (J 52 p).toUInt64) (mk : MK I I' h) (em : I 26 13 = Int32.ofInt (m : Int)) (em' : I' 114 85 = Int32.ofInt (m : Int)) : ∃ J2 I2 a' b' c', gX4_steer σ I J D R (Int32.ofInt (h : Int)) = some J2 ∧ gX12_steer σ I' J' R (Int32.ofInt (h : Int)) = some I2 ∧ AV J2 I2 h a' b' c' ∧ FrJ h J J2 ∧ FrI h I' I2 := by
  have gh : ¬ (Int32.ofInt (h : Int) < 0 ∨ 3 ≤ Int32.toNatClampNeg (Int32.ofInt (h : Int))) := by rw [i_gd (by omega)]; exact id
  have gn : Int32.toNatClampNeg (Int32.ofInt (h : Int)) = h := by rw [i_tn (by omega), Int.toNat_natCast]
  have g3 : ¬ ((3 : Int32) < 0 ∨ 11 ≤ Int32.toNatClampNeg (3 : Int32)) := by decide
  have g5 : ¬ ((3 : Int32) < 0 ∨ 5 ≤ Int32.toNatClampNeg (3 : Int32)) := by decide
  have n3 : Int32.toNatClampNeg (3 : Int32) = 3 := rfl
  obtain ⟨j3, j4, j5, i7, i8, i9, ha, hb, hc⟩ := id av
  by_cases q1 : I' 174 3 = 1
  · refine ⟨u2 J (58 + h) 3 (Int64.ofInt (tw a 0)), u2 I' 177 h (Int32.ofInt (tw a 0)), tw a 0, b, c, ?_, ?_, ⟨?_, ?_, ?_, ?_, ?_, ?_, tw_b ha (by omega), hb, hc⟩, FrJ.u (by omega), FrI.u (by omega)⟩
    · unfold gX4_steer
      rw [if_pos gh, if_pos g3, if_pos g5, n3, w3, if_pos q1, gn, j3, show (0 : Int64) = Int64.ofInt 0 from rfl, twC ha (by omega)]
    · unfold gX12_steer
      rw [if_pos gh, if_pos g5, n3, if_pos q1, gn, i7, show fX12_toward (Int32.ofInt a) 0 = Int32.ofInt (tw a 0) from twM (t := 0) ha (by omega)]
    · simp (disch := omega) only [u2n, u2s]
    · simp (disch := omega) only [u2n, u2s]; exact j4
    · simp (disch := omega) only [u2n, u2s]; exact j5
    · simp (disch := omega) only [u2n, u2s]
    · simp (disch := omega) only [u2n, u2s]; exact i8
    · simp (disch := omega) only [u2n, u2s]; exact i9
  · have C0 : gX4_steer σ I J D R (Int32.ofInt (h : Int)) = if fX11_isNumber (J 55 h) = 0 then gX4_steer_b50 σ I D R J (some (58 + h)) (Int64.ofInt a) else (gX4_hasWish I (Int32.ofInt (h : Int))).bind fun r17 => if r17 = 0 then gX4_steer_b50 σ I D R J (some (58 + h)) (Int64.ofInt a) else (gX4_wantedMove σ I J D R (Int32.ofInt (h : Int))).bind fun (J19, r20) => (gX4_moveBy σ J19 R (Int32.ofInt (h : Int)) r20).bind fun J22 => gX4_steer_b85 σ I D R J22 (some (58 + h)) (Int64.ofInt a) := by
      unfold gX4_steer
      rw [if_pos gh, if_pos g3, if_pos g5, n3, w3, if_neg q1, gn, if_pos (by rw [gn] at gh; exact gh), j3]
    have nonum : ∀ X : Option (Nat → Nat → Int64), X = gX4_steer_b50 σ I D R J (some (58 + h)) (Int64.ofInt a) → ∀ Y, Y = gX12_steer_b51 σ J' R I' (Int32.ofInt (h : Int)) (Int32.ofInt a) → ∃ J2 I2 a' b' c', X = some J2 ∧ Y = some I2 ∧ AV J2 I2 h a' b' c' ∧ FrJ h J J2 ∧ FrI h I' I2 := by
      intro X hX Y hY
      obtain ⟨J2, I2, a', b', s1, s2, s3, s4, s5⟩ := calm (J' := J') (D := D) hS hh w4 av
      exact ⟨J2, I2, a', b', c, hX.trans s1, hY.trans s2, s3, s4, s5⟩
    obtain ⟨n, n1, n2, n3', n4⟩ := mk
    have hw : gX4_hasWish I (Int32.ofInt (h : Int)) = some (if n = 0 then 0 else 1) := by
      unfold gX4_hasWish
      rw [if_pos gh, gn, n3']
      by_cases z : n = 0
      · rw [if_pos (by rw [i_lel (by omega)]; omega), if_pos z]
      · rw [if_neg (by rw [i_lel (by omega)]; omega), if_neg z]
    by_cases q2 : J' 173 h = 9221120237041090560
    · refine nonum _ ?_ _ ?_
      · rw [C0, if_pos]
        rw [e55, q2]
        exact isn_F not_num
      · unfold gX12_steer
        rw [if_pos gh, if_pos g5, n3, if_neg q1, if_pos gh, gn, if_pos q2, i7]
    · have hn : isNum (J' 173 h) := nv.resolve_right q2
      have hn5 : isNum (J 55 h) := by rw [e55]; exact hn
      have C1 : ¬ fX11_isNumber (J 55 h) = 0 := by rw [isn_T hn5]; decide
      by_cases q3 : n = 0
      · refine nonum _ ?_ _ ?_
        · rw [C0, if_neg C1, hw, ob_some, if_pos q3, if_pos rfl]
        · unfold gX12_steer
          simp only [if_pos gh]
          rw [if_pos g5, n3, if_neg q1, gn, if_neg q2, if_pos (by rw [n2, q3]; rfl), i7]
      · obtain ⟨M, W, m1, m2, m3, m4, m5⟩ := n4 (by omega)
        obtain ⟨x, x1, x2, x3⟩ := wsC (σ := σ) (R := R) (x := ((m % 1440 : Nat) : Int)) hh m1 (by omega) n3' m4 m5
        obtain ⟨x', y1, y2⟩ := wsM (σ := σ) (R := R) (x := ((m % 1440 : Nat) : Int)) hh m1 (by omega) n2 m2 m3
        obtain rfl := WsV.uq x2 y2
        obtain ⟨r, r1, r2⟩ := vr_all (σ := σ) (R := R) hh hD
        have r2 := r2 hn5 (vm hn5)
        have G := g1000 (r := r) (by rw [r2]; exact num_ne hn5)
        obtain ⟨v, v1, v2, ed⟩ := repJ (FP.d2l (FP.dmul r (4652007308841189376 : UInt64)))
        have wm := wmC (J := J) hh j5 hc r1 G ed ⟨v1, v2⟩ em hm x1 x3
        have b1 := cla_b (x := v) (n := 1000000000) (by omega)
        have b2 : -100000 ≤ ns v x ∧ ns v x ≤ 100000 := cla_b (x := cla v 1000000000 - x) (n := 100000) (by omega)
        have b3 := tdb (w := 16) b2
        have b4 : -4000 ≤ nst v x c ∧ nst v x c ≤ 4000 := cla_b (x := c + (ns v x).tdiv 16) (n := 4000) (by omega)
        have b5 := tdb (w := 400) b2
        have b6 := tdb (w := 500) b4
        have b7 : -10 ≤ nmv v x c ∧ nmv v x c ≤ 10 := cla_b (x := (ns v x).tdiv 400 + (nst v x c).tdiv 500) (n := 10) (by omega)
        obtain ⟨J3, p1, p2, p3, p4, p5⟩ := mbC (σ := σ) (R := R) (J := u2 J (58 + h) 5 (Int64.ofInt (nst v x c))) hh b7 ha hb (by simp (disch := omega) only [u2n, u2s]; exact j3) (by simp (disch := omega) only [u2n, u2s]; exact j4)
        obtain ⟨I3, s1, s2, s3, s4, s5⟩ := mbM (σ := σ) (R := R) (J := J') (I := u2 I' 179 h (Int32.ofInt (nst v x c))) (x2 := Int32.ofInt a) hh b7 rfl ha hb (by simp (disch := omega) only [u2n, u2s]; exact i7) (by simp (disch := omega) only [u2n, u2s]; exact i8)
        have mb := mvA_b b7 ha hb
        have av3 : AV J3 I3 h (mvA (nmv v x c) a b) (mvB (nmv v x c) a b) (nst v x c) := ⟨p2, p3, by rw [p4, u2_self], s2, s3, by rw [s4, u2_self], mb.1, mb.2, b4⟩
        have w4' : I 61 4 = I3 174 4 := by rw [s5 174 4 (by omega), u2n (by omega)]; exact w4
        obtain ⟨J4, I4, a', z1, z2, z3, z4, z5⟩ := wind (J' := J') (D := D) hS hh w4' ha av3
        refine ⟨J4, I4, a', _, _, ?_, ?_, z3, ((FrJ.u (by omega)).tr p5).tr z4, ((FrI.u (by omega)).tr s5).tr z5⟩
        · rw [C0, if_neg C1, hw, ob_some, if_neg q3, if_neg (by decide), wm, ob_some]
          dsimp only
          rw [p1, ob_some]
          exact z1
        · have fb : fX12_fromBits (J' 173 h) = some r := by rw [r2, ← e55]; exact fromBits_num hn5
          unfold gX12_steer
          simp only [if_pos gh]
          rw [if_pos g5, n3, if_neg q1, gn, if_neg q2, if_neg (by rw [n2, i_eql (by omega)]; omega), fb, ob_some, if_pos G, ed, em', rem1440 hm, y1, ob_some]
          rw [bdM (n := 1000000000) (hi := 1000000000) ⟨v1, v2⟩ (by omega) rfl, i_w (by omega), j_sub, bdM (n := 100000) (hi := 100000) (by omega) (by omega) rfl, show cla (cla v 1000000000 - x) 100000 = ns v x from rfl, i9, i_w (by omega), show (16 : Int64) = Int64.ofInt 16 from rfl, (jdv (by omega) (by omega)).1, j_add, bdM (n := 4000) (hi := 4000) (by omega) (by omega) rfl, show cla (c + (ns v x).tdiv 16) 4000 = nst v x c from rfl, l2i]
          rw [u2_self, show (400 : Int64) = Int64.ofInt 400 from rfl, show (500 : Int32) = Int32.ofInt 500 from rfl, (jdv (by omega) (by omega)).1, (idv (by omega) (by omega)).1, i_w (by omega), j_add, bdM (n := 10) (hi := 10) (by omega) (by omega) rfl, show cla ((ns v x).tdiv 400 + (nst v x c).tdiv 500) 10 = nmv v x c from rfl, l2i, i7]
          by_cases cc : 0 ≤ nmv v x c
          · rw [if_pos cc] at s1
            rw [if_pos (by rw [i_ler (by omega)]; exact cc), s1]
            exact z2
          · rw [if_neg cc] at s1
            rw [if_neg (by rw [i_ler (by omega)]; exact cc), i_neg, s1]
            exact z2
