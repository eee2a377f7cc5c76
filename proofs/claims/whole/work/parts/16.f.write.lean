/-! ===== pages: write ===== -/
def up1 (B : Nat → Int32) (k : Nat) (v : Int32) : Nat → Int32 := fun i => if i = k then v else B i
theorem u2_at {I : Nat → Nat → Int32} {a k : Nat} {v : Int32} : u2 I a k v a = up1 (I a) k v := by
  funext i
  unfold up1
  by_cases c : i = k
  · rw [u2s ⟨rfl, c⟩, if_pos c]
  · rw [u2n (by omega), if_neg c]
/-- the u-th octet from the right -/
def bt (v : Int64) (u : Nat) : Int32 := (Int64.toInt32 (v >>> (Int32.toInt64 (Int32.ofInt ((8 * u : Nat) : Int)) &&& 63))) &&& 255
theorem bt_m (v : Int64) (u : Nat) : Int64.toInt32 ((v >>> (Int32.toInt64 (Int32.ofInt ((8 * u : Nat) : Int)) &&& 63)) &&& 255) = bt v u := by
  unfold bt
  rw [Int64.toInt32_and]
  rfl
theorem bt_r (v : Int64) (u : Nat) : Rn (bt v u) 0 255 := by
  unfold bt
  generalize Int64.toInt32 (v >>> (Int32.toInt64 (Int32.ofInt ((8 * u : Nat) : Int)) &&& 63)) = y
  have hb : (y &&& 255).toBitVec.toNat < 256 := by
    rw [Int32.toBitVec_and, BitVec.toNat_and]
    exact Nat.lt_of_le_of_lt Nat.and_le_right (by decide)
  have hv : (y &&& 255).toInt = ((y &&& 255).toBitVec.toNat : Int) := by
    show (y &&& 255).toBitVec.toInt = _
    rw [BitVec.toInt_eq_toNat_cond, if_pos (by omega)]
  exact ⟨(y &&& 255).toInt, by omega, by omega, (Int32.ofInt_toInt _).symm⟩
def lw (n a : Nat) (v : Int64) : Nat → (Nat → Int32) → (Nat → Int32)
  | 0, B => B
  | u + 1, B => lw n a v u (up1 B (a + (n - (u + 1))) (bt v u))
theorem lw_eq {n a : Nat} {v : Int64} {B B' : Nat → Int32} (u : Nat) : ∀ B B' : Nat → Int32, (∀ k, k < 64 → B k = B' k) → ∀ k, k < 64 → lw n a v u B k = lw n a v u B' k := by
  induction u with
  | zero => exact fun _ _ h => h
  | succ u ih =>
    intro B B' h
    refine ih _ _ fun k hk => ?_
    unfold up1
    by_cases c : k = a + (n - (u + 1))
    · rw [if_pos c, if_pos c]
    · rw [if_neg c, if_neg c]; exact h k hk
def Oc6 (B : Nat → Int32) : Prop := ∀ k, k < 64 → Rn (B k) 0 255
theorem Oc6.up {B : Nat → Int32} (h : Oc6 B) {k : Nat} {v : Int32} (hv : Rn v 0 255) : Oc6 (up1 B k v) := fun i hi => by
  unfold up1
  by_cases c : i = k
  · rw [if_pos c]; exact hv
  · rw [if_neg c]; exact h i hi
theorem Oc6.lw {n a : Nat} {v : Int64} (u : Nat) : ∀ B : Nat → Int32, Oc6 B → Oc6 (lw n a v u B) := by
  induction u with
  | zero => exact fun _ h => h
  | succ u ih => exact fun B h => ih _ (h.up (bt_r v u))
theorem lyC {σ : Shp} {I : Nat → Nat → Int32} {R : Nat → Nat → Option Nat} {a n : Nat} {v : Int64} (h : a + n ≤ 64) : ∃ I1, gX1_putNumber σ I R (Int32.ofInt a) (Int32.ofInt n) v = some I1 ∧ Ag [(110, 111)] I I1 ∧ I1 110 = lw n a v n (I 110) := by
  obtain ⟨F, hF⟩ : ∃ F, FUx = F := ⟨_, rfl⟩
  have hF' : F = 2000000 := by rw [← hF, FUx_eq]
  have lp : ∀ (u j f : Nat) (I : Nat → Nat → Int32), u < f → j + u = n → ∃ I1, gX1_putNumber_l3 σ R f I (Int32.ofInt a) (Int32.ofInt n) v (Int32.ofInt j) = some I1 ∧ Ag [(110, 111)] I I1 ∧ I1 110 = lw n a v u (I 110) := by
    intro u
    induction u with
    | zero =>
      intro j f I hf hj
      obtain ⟨f, rfl⟩ : ∃ m, f = m + 1 := ⟨f - 1, by omega⟩
      rw [gX1_putNumber_l3, if_pos (by rw [i_le (by omega) (by omega)]; omega)]
      exact ⟨I, rfl, Ag.rf, rfl⟩
    | succ u ih =>
      intro j f I hf hj
      obtain ⟨f, rfl⟩ : ∃ m, f = m + 1 := ⟨f - 1, by omega⟩
      rw [gX1_putNumber_l3, if_neg (by rw [i_le (by omega) (by omega)]; omega), iadd, if_neg (by rw [i_ler (by omega)]; omega), if_pos (by rw [i_gd (by omega)]; exact id), t41 (t := a + j) (by omega)]
      dsimp only
      rw [i_subl, i_sub, i_mulr, iadd1, show (8 : Int) * ((n : Int) - 1 - (j : Int)) = ((8 * u : Nat) : Int) by omega]
      obtain ⟨I1, r1, r2, r3⟩ := ih (j + 1) f (u2 I 110 (a + j) (bt v u)) (by omega) (by omega)
      refine ⟨I1, r1, (Ag.rf.st rfl).tr r2, ?_⟩
      rw [r3, u2_at, show a + j = a + (n - (u + 1)) by omega]
      rfl
  unfold gX1_putNumber
  rw [hF]
  exact lp n 0 F I (by omega) (by omega)
theorem lyM {σ : Shp} {I : Nat → Nat → Int32} {R : Nat → Nat → Option Nat} {a n : Nat} {v : Int64} (h : a + n ≤ 64) : ∃ I1, gX12_layWide σ I R (Int32.ofInt a) (Int32.ofInt n) v = some I1 ∧ Ag [(201, 202)] I I1 ∧ I1 201 = lw n a v n (I 201) := by
  obtain ⟨F, hF⟩ : ∃ F, FUx = F := ⟨_, rfl⟩
  have hF' : F = 2000000 := by rw [← hF, FUx_eq]
  have lp : ∀ (u j f : Nat) (I : Nat → Nat → Int32), u < f → j + u = n → ∃ I1, gX12_layWide_l3 σ R f I (Int32.ofInt a) (Int32.ofInt n) v (Int32.ofInt j) = some I1 ∧ Ag [(201, 202)] I I1 ∧ I1 201 = lw n a v u (I 201) := by
    intro u
    induction u with
    | zero =>
      intro j f I hf hj
      obtain ⟨f, rfl⟩ : ∃ m, f = m + 1 := ⟨f - 1, by omega⟩
      rw [gX12_layWide_l3, if_pos (by rw [i_le (by omega) (by omega)]; omega)]
      exact ⟨I, rfl, Ag.rf, rfl⟩
    | succ u ih =>
      intro j f I hf hj
      obtain ⟨f, rfl⟩ : ∃ m, f = m + 1 := ⟨f - 1, by omega⟩
      rw [gX12_layWide_l3, if_neg (by rw [i_le (by omega) (by omega)]; omega), iadd, if_pos (by rw [i_gd (by omega)]; exact id), t41 (t := a + j) (by omega)]
      dsimp only
      rw [i_subl, i_sub, i_mulr, iadd1, show (8 : Int) * ((n : Int) - 1 - (j : Int)) = ((8 * u : Nat) : Int) by omega, bt_m]
      obtain ⟨I1, r1, r2, r3⟩ := ih (j + 1) f (u2 I 201 (a + j) (bt v u)) (by omega) (by omega)
      refine ⟨I1, r1, (Ag.rf.st rfl).tr r2, ?_⟩
      rw [r3, u2_at, show a + j = a + (n - (u + 1)) by omega]
      rfl
  unfold gX12_layWide
  rw [hF]
  exact lp n 0 F I (by omega) (by omega)
/-- a draft of a page -/
def drC (C : Nat → Int64) : Nat → Nat → (Nat → Int32) → (Nat → Int32)
  | 0, _, B => B
  | u + 1, k, B => drC C u (k + 1) (lw 8 (12 + 8 * k) (C k) 8 B)
def drF (num l : Int32) (z : Nat) (C : Nat → Int64) (B : Nat → Int32) : Nat → Int32 := drC C z 0 (up1 (up1 (lw 4 0 (Int32.toInt64 num) 4 B) 4 l) 5 (Int32.ofInt (z : Int)))
def drS (B : Nat → Int32) : Nat → Int32 := lw 4 60 (Int32.toInt64 (smF B 60 0 0)) 4 B
theorem up1_eq {B B' : Nat → Int32} (h : ∀ k, k < 64 → B k = B' k) {a : Nat} {v : Int32} : ∀ k, k < 64 → up1 B a v k = up1 B' a v k := fun k hk => by
  unfold up1
  by_cases c : k = a
  · rw [if_pos c, if_pos c]
  · rw [if_neg c, if_neg c]; exact h k hk
theorem drC_eq {C : Nat → Int64} : ∀ (u k : Nat) (B B' : Nat → Int32), (∀ k, k < 64 → B k = B' k) → ∀ i, i < 64 → drC C u k B i = drC C u k B' i := by
  intro u
  induction u with
  | zero => exact fun _ _ _ h => h
  | succ u ih => exact fun k B B' h => ih _ _ _ (lw_eq (B := B) (B' := B') 8 _ _ h)
theorem drF_eq {num l : Int32} {z : Nat} {C : Nat → Int64} {B B' : Nat → Int32} (h : ∀ k, k < 64 → B k = B' k) : ∀ k, k < 64 → drF num l z C B k = drF num l z C B' k := drC_eq _ _ _ _ (up1_eq (up1_eq (lw_eq (B := B) (B' := B') 4 _ _ h)))
theorem drS_eq {B B' : Nat → Int32} (h : ∀ k, k < 64 → B k = B' k) : ∀ k, k < 64 → drS B k = drS B' k := by
  unfold drS
  rw [smF_eq 60 0 0 fun k _ h2 => h k (by omega)]
  exact lw_eq (B := B) (B' := B') 4 _ _ h
theorem drC_o {C : Nat → Int64} : ∀ (u k : Nat) (B : Nat → Int32), Oc6 B → Oc6 (drC C u k B) := by
  intro u
  induction u with
  | zero => exact fun _ _ h => h
  | succ u ih => exact fun k B h => ih _ _ (Oc6.lw 8 _ h)
theorem fdC {σ : Shp} {I : Nat → Nat → Int32} {J : Nat → Nat → Int64} {R : Nat → Nat → Option Nat} {num l : Int32} {a z : Nat} {C : Nat → Int64} (hS : Skel σ R) (ka : kdx σ a = 21) (la : lnx σ a = z) (hz : z ≤ 6) (hC : ∀ k, k < z → J a k = C k) : ∃ (I1 : Nat → Nat → Int32) (B : Nat → Int32), gX1_fillDraft σ I J R num l (some a) = some I1 ∧ Ag [(110, 111)] I I1 ∧ I1 110 = drS (drF num l z C B) ∧ ∀ k, k < 64 → B k = 0 := by
  obtain ⟨F, hF⟩ : ∃ F, FUx = F := ⟨_, rfl⟩
  have hF' : F = 2000000 := by rw [← hF, FUx_eq]
  have k110 : kdx σ 110 = 20 := hS.k 110 20 (by decide) rfl
  have n110 : lnx σ 110 = 64 := hS.l 110 64 (by decide) rfl
  have ez : Int32.ofNat z = Int32.ofInt (z : Int) := rfl
  have lc : ∀ (u k f : Nat) (I : Nat → Nat → Int32), u < f → k + u = z → ∃ I1, gX1_fillDraft_l50 σ J R f I (some a) (Int32.ofInt k) = some I1 ∧ Ag [(110, 111)] I I1 ∧ I1 110 = drS (drC C u k (I 110)) := by
    intro u
    induction u with
    | zero =>
      intro k f I hf hk
      obtain ⟨f, rfl⟩ : ∃ m, f = m + 1 := ⟨f - 1, by omega⟩
      obtain ⟨I1, r1, r2, r3⟩ := lyC (σ := σ) (I := I) (R := R) (a := 60) (n := 4) (v := Int32.toInt64 (smF (I 110) 60 0 0)) (by omega)
      refine ⟨I1, ?_, r2, r3⟩
      rw [gX1_fillDraft_l50, ob_some, if_pos ka, la, ez, if_pos (by rw [i_le (by omega) (by omega)]; omega), show gX1_sumOf σ I (some 110) 0 = _ from sC (σ := σ) (I := I) (c := 110) (a := 0) k110 n110 (by omega) (by omega), ob_some, show gX1_putNumber σ I R 60 4 _ = _ from r1]
      rfl
    | succ u ih =>
      intro k f I hf hk
      obtain ⟨f, rfl⟩ : ∃ m, f = m + 1 := ⟨f - 1, by omega⟩
      obtain ⟨I1, r1, r2, r3⟩ := lyC (σ := σ) (I := I) (R := R) (a := 12 + 8 * k) (n := 8) (v := C k) (by omega)
      obtain ⟨I2, s1, s2, s3⟩ := ih (k + 1) f I1 (by omega) (by omega)
      refine ⟨I2, ?_, r2.tr s2, ?_⟩
      · rw [gX1_fillDraft_l50, ob_some, if_pos ka, la, ez, if_neg (by rw [i_le (by omega) (by omega)]; omega), if_neg (by rw [i_ler (by omega)]; omega), if_pos (by rw [i_gd (by omega)]; exact id), t41 (t := k) (by omega), hC k (by omega), i_mulr, i_addr, show (12 : Int) + 8 * (k : Int) = ((12 + 8 * k : Nat) : Int) by omega, show gX1_putNumber σ I R (Int32.ofInt ((12 + 8 * k : Nat) : Int)) 8 _ = _ from r1, ob_some]
        dsimp only
        rw [iadd1]
        exact s1
      · rw [s3, r3]
        rfl
  have lz : ∀ (u j f : Nat) (I : Nat → Nat → Int32), u < f → j + u = 64 → (∀ k, k < j → I 110 k = 0) → ∃ (I1 : Nat → Nat → Int32) (B : Nat → Int32), gX1_fillDraft_l3 σ J R f I num l (some a) (Int32.ofInt j) = some I1 ∧ Ag [(110, 111)] I I1 ∧ I1 110 = drS (drF num l z C B) ∧ ∀ k, k < 64 → B k = 0 := by
    intro u
    induction u with
    | zero =>
      intro j f I hf hj hk
      obtain ⟨f, rfl⟩ : ∃ m, f = m + 1 := ⟨f - 1, by omega⟩
      obtain ⟨I1, r1, r2, r3⟩ := lyC (σ := σ) (I := I) (R := R) (a := 0) (n := 4) (v := Int32.toInt64 num) (by omega)
      obtain ⟨I2, s1, s2, s3⟩ := lc z 0 F (u2 (u2 I1 110 4 l) 110 5 (Int32.ofInt (z : Int))) (by omega) (by omega)
      refine ⟨I2, I 110, ?_, r2.tr (((Ag.rf.st rfl).st rfl).tr s2), ?_, fun k h => hk k (by omega)⟩
      · rw [gX1_fillDraft_l3, if_pos (by rw [i_ler (by omega)]; omega), show gX1_putNumber σ I R 0 4 _ = _ from r1, ob_some, if_pos (by decide), hF]
        dsimp only
        rw [ob_some, if_pos ka, if_pos (by decide), la, ez]
        exact s1
      · rw [s3, u2_at, u2_at, r3]
        rfl
    | succ u ih =>
      intro j f I hf hj hk
      obtain ⟨f, rfl⟩ : ∃ m, f = m + 1 := ⟨f - 1, by omega⟩
      obtain ⟨I2, B, s1, s2, s3, s4⟩ := ih (j + 1) f (u2 I 110 j 0) (by omega) (by omega) (fun k h => by
        by_cases c : k = j
        · rw [u2s ⟨rfl, c⟩]
        · rw [u2n (by omega)]; exact hk k (by omega))
      refine ⟨I2, B, ?_, (Ag.rf.st rfl).tr s2, s3, s4⟩
      rw [gX1_fillDraft_l3, if_neg (by rw [i_ler (by omega)]; omega), if_pos (by rw [i_gd (by omega)]; exact id), t41 (t := j) (by omega)]
      dsimp only
      rw [iadd1]
      exact s1
  unfold gX1_fillDraft
  rw [hF]
  exact lz 64 0 F I (by omega) (by omega) fun k h => by omega
theorem fdM {σ : Shp} {I : Nat → Nat → Int32} {J : Nat → Nat → Int64} {R : Nat → Nat → Option Nat} {num l : Int32} {t s z : Nat} {C : Nat → Int64} (hS : Skel σ R) {F : Nat} (hF : FUx = F) (hF' : F = 2000000) (ht : t < 4100) (e1 : I 116 t = l) (e2 : I 117 t = Int32.ofInt (z : Int)) (e3 : I 118 t = Int32.ofInt (s : Int)) (e4 : I 114 129 + 1 = num) (hs : s + z ≤ 162000) (hz : z ≤ 6) (hC : ∀ k, k < z → J 119 (s + k) = C k) : ∃ (I1 : Nat → Nat → Int32) (B : Nat → Int32), gX12_write_l92 σ J R F I (Int32.ofInt (t : Int)) 0 = gX12_write_l219 σ J R F I1 ((64 : Int32) * I1 114 130) 0 ∧ Ag [(201, 202)] I I1 ∧ I1 201 = drS (drF num l z C B) ∧ ∀ k, k < 64 → B k = 0 := by
  have k201 : kdx σ 201 = 20 := hS.k 201 20 (by decide) rfl
  have n201 : lnx σ 201 = 64 := hS.l 201 64 (by decide) rfl
  have lc : ∀ (u k f : Nat) (I1 : Nat → Nat → Int32), u < f → k + u = z → Ag [(201, 202)] I I1 → ∃ I2, gX12_write_l150 σ J R f I1 (Int32.ofInt (t : Int)) (Int32.ofInt k) = gX12_write_l219 σ J R F I2 ((64 : Int32) * I2 114 130) 0 ∧ Ag [(201, 202)] I I2 ∧ I2 201 = drS (drC C u k (I1 201)) := by
    intro u
    induction u with
    | zero =>
      intro k f I1 hf hk ag
      obtain ⟨f, rfl⟩ : ∃ m, f = m + 1 := ⟨f - 1, by omega⟩
      obtain ⟨I2, r1, r2, r3⟩ := lyM (σ := σ) (I := I1) (R := R) (a := 60) (n := 4) (v := Int32.toInt64 (smF (I1 201) 60 0 0)) (by omega)
      refine ⟨I2, ?_, ag.tr r2, r3⟩
      rw [gX12_write_l150, if_pos (g41 ht), t41 (t := t) (by omega), ag 117 t rfl, e2, if_pos (by rw [i_le (by omega) (by omega)]; omega), show gX12_sumOf σ I1 (some 201) 0 = _ from sM (σ := σ) (I := I1) (c := 201) (a := 0) k201 n201 (by omega) (by omega), ob_some, show gX12_layWide σ I1 R 60 4 _ = _ from r1, ob_some, hF]
    | succ u ih =>
      intro k f I1 hf hk ag
      obtain ⟨f, rfl⟩ : ∃ m, f = m + 1 := ⟨f - 1, by omega⟩
      obtain ⟨I2, r1, r2, r3⟩ := lyM (σ := σ) (I := I1) (R := R) (a := 12 + 8 * k) (n := 8) (v := C k) (by omega)
      obtain ⟨I3, s1, s2, s3⟩ := ih (k + 1) f I2 (by omega) (by omega) (ag.tr r2)
      refine ⟨I3, ?_, s2, ?_⟩
      · rw [gX12_write_l150, if_pos (g41 ht), t41 (t := t) (by omega), ag 117 t rfl, e2, if_neg (by rw [i_le (by omega) (by omega)]; omega), if_pos (g41p ht), ag 118 t rfl, e3, iadd, if_pos (by rw [i_gd (by omega)]; exact id), t41 (t := s + k) (by omega), hC k (by omega), i_mulr, i_addr, show (12 : Int) + 8 * (k : Int) = ((12 + 8 * k : Nat) : Int) by omega, show gX12_layWide σ I1 R (Int32.ofInt ((12 + 8 * k : Nat) : Int)) 8 _ = _ from r1, ob_some]
        dsimp only
        rw [iadd1]
        exact s1
      · rw [s3, r3]
        rfl
  have lz : ∀ (u j f : Nat) (I1 : Nat → Nat → Int32), u < f → j + u = 64 → Ag [(201, 202)] I I1 → (∀ k, k < j → I1 201 k = 0) → ∃ (I2 : Nat → Nat → Int32) (B : Nat → Int32), gX12_write_l92 σ J R f I1 (Int32.ofInt (t : Int)) (Int32.ofInt j) = gX12_write_l219 σ J R F I2 ((64 : Int32) * I2 114 130) 0 ∧ Ag [(201, 202)] I I2 ∧ I2 201 = drS (drF num l z C B) ∧ ∀ k, k < 64 → B k = 0 := by
    intro u
    induction u with
    | zero =>
      intro j f I1 hf hj ag hk
      obtain ⟨f, rfl⟩ : ∃ m, f = m + 1 := ⟨f - 1, by omega⟩
      obtain ⟨I2, r1, r2, r3⟩ := lyM (σ := σ) (I := I1) (R := R) (a := 0) (n := 4) (v := Int32.toInt64 num) (by omega)
      obtain ⟨I3, s1, s2, s3⟩ := lc z 0 F (u2 (u2 I2 201 4 l) 201 5 (Int32.ofInt (z : Int))) (by omega) (by omega) (((ag.tr r2).st rfl).st rfl)
      have e5 : I1 114 129 + 1 = num := by rw [ag 114 129 rfl]; exact e4
      have q1 : I2 116 t = l := by rw [(ag.tr r2) 116 t rfl]; exact e1
      have q2 : u2 I2 201 4 l 117 t = Int32.ofInt (z : Int) := by rw [u2n (by omega), (ag.tr r2) 117 t rfl]; exact e2
      refine ⟨I3, I1 201, ?_, s2, ?_, fun k h => hk k (by omega)⟩
      · rw [gX12_write_l92, if_pos (by rw [i_ler (by omega)]; omega), e5, show gX12_layWide σ I1 R 0 4 _ = _ from r1, ob_some, if_pos (g41 ht), if_pos (by decide), t41 (t := t) (by omega), hF]
        dsimp only
        rw [if_pos (g41p ht), if_pos (by decide), q1, show Int32.toNatClampNeg (4 : Int32) = 4 from rfl, q2]
        exact s1
      · rw [s3, u2_at, u2_at, r3]
        rfl
    | succ u ih =>
      intro j f I1 hf hj ag hk
      obtain ⟨f, rfl⟩ : ∃ m, f = m + 1 := ⟨f - 1, by omega⟩
      obtain ⟨I2, B, s1, s2, s3, s4⟩ := ih (j + 1) f (u2 I1 201 j 0) (by omega) (by omega) (ag.st rfl) (fun k h => by
        by_cases c : k = j
        · rw [u2s ⟨rfl, c⟩]
        · rw [u2n (by omega)]; exact hk k (by omega))
      refine ⟨I2, B, ?_, s2, s3, s4⟩
      rw [gX12_write_l92, if_neg (by rw [i_ler (by omega)]; omega), if_pos (by rw [i_gd (by omega)]; exact id), t41 (t := j) (by omega)]
      dsimp only
      rw [iadd1]
      exact s1
  exact lz 64 0 F I (by omega) (by omega) Ag.rf fun k h => by omega
