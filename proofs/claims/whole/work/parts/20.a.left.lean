/-! ===== calls on things: what they leave ===== -/
/-- since σ0 I0 R0: cells that were stay what they were; frames' pointers stay; the walk's cells stay -/
def Sk2 (σ0 : Shp) (I0 : Nat → Nat → Int32) (R0 : Nat → Nat → Option Nat) (σ : Shp) (I : Nat → Nat → Int32) (R : Nat → Nat → Option Nat) : Prop := Skel σ R ∧ nxx σ0 ≤ nxx σ ∧ (∀ a, a < nxx σ0 + 4 → kdx σ a = kdx σ0 a ∧ lnx σ a = lnx σ0 a) ∧ (∀ a k, a < nxx σ0 + 4 → kdx σ0 a = 4 → R a k = R0 a k) ∧ ∀ k, I 133 k = I0 133 k ∧ I 114 k = I0 114 k
theorem Sk2.rf {σ : Shp} {I : Nat → Nat → Int32} {R : Nat → Nat → Option Nat} (h : Skel σ R) : Sk2 σ I R σ I R := ⟨h, Nat.le_refl _, fun _ _ => ⟨rfl, rfl⟩, fun _ _ _ _ => rfl, fun _ => ⟨rfl, rfl⟩⟩
theorem Sk2.setR {σ0 σ : Shp} {I0 I : Nat → Nat → Int32} {R0 R : Nat → Nat → Option Nat} (h : Sk2 σ0 I0 R0 σ I R) {a k : Nat} {v : Option Nat} (hk : kdx σ a = 26 ∨ kdx σ a = 11) : Sk2 σ0 I0 R0 σ I (u2 R a k v) := by
  obtain ⟨h1, h2, h3, h4, h5⟩ := h
  refine ⟨h1.setR (by rcases hk with q | q; exact Or.inl q; exact Or.inr (Or.inr (Or.inl q))), h2, h3, fun b j hb hc => ?_, h5⟩
  have n : b ≠ a := fun e => by
    have := (h3 b hb).1
    rw [e] at this hc
    rw [this, hc] at hk
    rcases hk with q | q
    · exact absurd q (by decide)
    · exact absurd q (by decide)
  rw [u2_ne (fun q => absurd q n)]
  exact h4 b j hb hc
theorem Sk2.setI {σ0 σ : Shp} {I0 I : Nat → Nat → Int32} {R0 R : Nat → Nat → Option Nat} (h : Sk2 σ0 I0 R0 σ I R) {a k : Nat} {v : Int32} (hk : a ≠ 133 ∧ a ≠ 114) : Sk2 σ0 I0 R0 σ (u2 I a k v) R := by
  obtain ⟨h1, h2, h3, h4, h5⟩ := h
  refine ⟨h1, h2, h3, h4, fun j => ?_⟩
  rw [u2_ne (fun q => absurd q.symm hk.1), u2_ne (fun q => absurd q.symm hk.2)]
  exact h5 j
theorem Sk2.ne {σ0 σ : Shp} {I0 I : Nat → Nat → Int32} {R0 R : Nat → Nat → Option Nat} (h : Sk2 σ0 I0 R0 σ I R) {a : Nat} (hk : kdx σ a = 11) : a ≠ 133 ∧ a ≠ 114 := ⟨fun e => by rw [e, kq133 h.1] at hk; exact absurd hk (by decide), fun e => by rw [e, kq114 h.1] at hk; exact absurd hk (by decide)⟩
theorem Sk2.mkO {σ0 σ : Shp} {I0 I : Nat → Nat → Int32} {R0 R : Nat → Nat → Option Nat} (h : Sk2 σ0 I0 R0 σ I R) {t n : Nat} : Sk2 σ0 I0 R0 (mkO σ t n) I R := by
  obtain ⟨h1, h2, h3, h4, h5⟩ := h
  refine ⟨h1.mkO, Nat.le_succ_of_le h2, fun a ha => ⟨?_, (h3 a ha).2⟩, h4, h5⟩
  show (if a = nxx σ + 4 then t else kdx σ a) = _
  rw [if_neg (by omega)]
  exact (h3 a ha).1
theorem Sk2.mkA {σ0 σ : Shp} {I0 I : Nat → Nat → Int32} {R0 R : Nat → Nat → Option Nat} (h : Sk2 σ0 I0 R0 σ I R) {t n : Nat} : Sk2 σ0 I0 R0 (mkA σ t n) I R := by
  obtain ⟨h1, h2, h3, h4, h5⟩ := h
  refine ⟨h1.mkA, Nat.le_succ_of_le h2, fun a ha => ⟨?_, ?_⟩, h4, h5⟩
  · show (if a = nxx σ + 4 then t else kdx σ a) = _
    rw [if_neg (by omega)]
    exact (h3 a ha).1
  · show (if a = nxx σ + 4 then n else lnx σ a) = _
    rw [if_neg (by omega)]
    exact (h3 a ha).2
/-- frames of runs stay -/
theorem Sk2.frm {σ σ1 : Shp} {I I1 : Nat → Nat → Int32} {R R1 : Nat → Nat → Option Nat} (h : Sk2 σ I R σ1 I1 R1) (hF : GFrm σ R) (e : ∀ j, R1 24 j = R 24 j) : GFrm σ1 R1 := by
  obtain ⟨h1, h2, h3, h4, h5⟩ := h
  refine ⟨fun j c hj hc => ?_, fun j j' c hj hj' a b => hF.2 j j' c hj hj' (by rw [← e]; exact a) (by rw [← e]; exact b)⟩
  rw [e] at hc
  obtain ⟨f1, f2, f3, f4, f5, f6⟩ := hF.1 j c hj hc
  refine ⟨f1, by omega, ?_, ?_, ?_, ?_⟩
  · rw [(h3 c (by omega)).1]; exact f3
  · rw [h4 c 12 (by omega) f3]; exact f4
  · rw [(h3 (c + 1) (by omega)).1]; exact f5
  · rw [(h3 (c + 1) (by omega)).2]; exact f6
theorem zX10_init {σ0 : Shp} {I0 : Nat → Nat → Int32} {R0 : Nat → Nat → Option Nat} {σ : Shp} {I : Nat → Nat → Int32} {R : Nat → Nat → Option Nat} {t : Nat} {x1 : Int32} {x2 : Option Nat} {x3 : Option Nat} {I9 : Nat → Nat → Int32} {R9 : Nat → Nat → Option Nat} (hS : Sk2 σ0 I0 R0 σ I R) (h : gX10_init σ I R t x1 x2 x3 = some (I9, R9)) : Sk2 σ0 I0 R0 σ I9 R9 := by
  unfold gX10_init at h
  obtain ⟨g1, h⟩ := gd h
  let I2 := u2 I t 0 x1
  have hS := hS.setI (a := t) (k := 0) (v := x1) (hS.ne (by assumption))
  let R3 := u2 R t 1 x2
  have hS := hS.setR (a := t) (k := 1) (v := x2) (by first | exact Or.inl (by assumption) | exact Or.inr (by assumption))
  let R4 := u2 R3 t 2 x3
  have hS := hS.setR (a := t) (k := 2) (v := x3) (by first | exact Or.inl (by assumption) | exact Or.inr (by assumption))
  cases h
  exact hS
theorem zX11_fail {σ0 : Shp} {I0 : Nat → Nat → Int32} {R0 : Nat → Nat → Option Nat} {I : Nat → Nat → Int32} {x1 : Int32} {σ : Shp} {R : Nat → Nat → Option Nat} {I9 : Nat → Nat → Int32} {i9 : Int32} (hS : Sk2 σ0 I0 R0 σ I R) (h : gX11_fail I x1 = some (I9, i9)) : Sk2 σ0 I0 R0 σ I9 R := by
  unfold gX11_fail at h
  let I1 := u2 I 4 13 ((I 4 13) + (1 : Int32))
  have hS := hS.setI (a := 4) (k := 13) (v := ((I 4 13) + (1 : Int32))) ⟨by decide, by decide⟩
  let I2 := u2 I1 4 14 x1
  have hS := hS.setI (a := 4) (k := 14) (v := x1) ⟨by decide, by decide⟩
  cases h
  exact hS
theorem zX11_newRow_b30 {σ0 : Shp} {I0 : Nat → Nat → Int32} {R0 : Nat → Nat → Option Nat} {σ : Shp} {I : Nat → Nat → Int32} {R : Nat → Nat → Option Nat} {s0 : Nat} {s1 : Nat} {s2 : Int32} {s3 : Nat} {s4 : Nat} {σ9 : Shp} {I9 : Nat → Nat → Int32} {R9 : Nat → Nat → Option Nat} {r9 : Option Nat} (hS : Sk2 σ0 I0 R0 σ I R) (h : gX11_newRow_b30 σ I R s0 s1 s2 s3 s4 = some (σ9, I9, R9, r9)) : Sk2 σ0 I0 R0 σ9 I9 R9 := by
  unfold gX11_newRow_b30 at h
  obtain ⟨g1, h⟩ := gd h
  obtain ⟨⟨I8, R9⟩, hc2, h⟩ := ob h
  have hS := zX10_init  hS hc2
  cases h
  exact hS
theorem zX11_newRow_b26 {σ0 : Shp} {I0 : Nat → Nat → Int32} {R0 : Nat → Nat → Option Nat} {σ : Shp} {I : Nat → Nat → Int32} {R : Nat → Nat → Option Nat} {s0 : Nat} {s1 : Nat} {s2 : Int32} {s3 : Nat} {σ9 : Shp} {I9 : Nat → Nat → Int32} {R9 : Nat → Nat → Option Nat} {r9 : Option Nat} (hS : Sk2 σ0 I0 R0 σ I R) (h : gX11_newRow_b26 σ I R s0 s1 s2 s3 = some (σ9, I9, R9, r9)) : Sk2 σ0 I0 R0 σ9 I9 R9 := by
  unfold gX11_newRow_b26 at h
  let σ6 := mkA σ 26 (Int32.toNatClampNeg (0 : Int32))
  have hS := hS.mkA (t := 26) (n := (Int32.toNatClampNeg (0 : Int32)))
  exact zX11_newRow_b30  hS h
theorem zX11_newRow_b13 {σ0 : Shp} {I0 : Nat → Nat → Int32} {R0 : Nat → Nat → Option Nat} {σ : Shp} {I : Nat → Nat → Int32} {R : Nat → Nat → Option Nat} {x1 : Int32} {x2 : Int32} {s0 : Nat} {σ9 : Shp} {I9 : Nat → Nat → Int32} {R9 : Nat → Nat → Option Nat} {r9 : Option Nat} (hS : Sk2 σ0 I0 R0 σ I R) (h : gX11_newRow_b13 σ I R x1 x2 s0 = some (σ9, I9, R9, r9)) : Sk2 σ0 I0 R0 σ9 I9 R9 := by
  unfold gX11_newRow_b13 at h
  rcases itc h with ⟨c, h⟩ | ⟨c, h⟩
  · obtain ⟨g1, h⟩ := gd h
    obtain ⟨g2, h⟩ := gd h
    let σ5 := mkA σ 21 (Int32.toNatClampNeg x2)
    have hS := hS.mkA (t := 21) (n := (Int32.toNatClampNeg x2))
    exact zX11_newRow_b26  hS h
  · let σ11 := mkA σ 21 (Int32.toNatClampNeg (0 : Int32))
    have hS := hS.mkA (t := 21) (n := (Int32.toNatClampNeg (0 : Int32)))
    exact zX11_newRow_b26  hS h
theorem zX11_newRow {σ0 : Shp} {I0 : Nat → Nat → Int32} {R0 : Nat → Nat → Option Nat} {σ : Shp} {I : Nat → Nat → Int32} {R : Nat → Nat → Option Nat} {x1 : Int32} {x2 : Int32} {σ9 : Shp} {I9 : Nat → Nat → Int32} {R9 : Nat → Nat → Option Nat} {r9 : Option Nat} (hS : Sk2 σ0 I0 R0 σ I R) (h : gX11_newRow σ I R x1 x2 = some (σ9, I9, R9, r9)) : Sk2 σ0 I0 R0 σ9 I9 R9 := by
  unfold gX11_newRow at h
  let I1 := u2 I 4 12 ((I 4 12) + (1 : Int32))
  have hS := hS.setI (a := 4) (k := 12) (v := ((I 4 12) + (1 : Int32))) ⟨by decide, by decide⟩
  let σ2 := mkO σ 11 9
  have hS := hS.mkO (t := 11) (n := 9)
  exact zX11_newRow_b13  hS h
theorem zX11_row_b54 {σ0 : Shp} {I0 : Nat → Nat → Int32} {R0 : Nat → Nat → Option Nat} {σ : Shp} {I : Nat → Nat → Int32} {R : Nat → Nat → Option Nat} {s0 : Nat} {s1 : Int32} {s2 : Option Nat} {σ9 : Shp} {I9 : Nat → Nat → Int32} {R9 : Nat → Nat → Option Nat} {i9 : Int32} (hS : Sk2 σ0 I0 R0 σ I R) (h : gX11_row_b54 σ I R s0 s1 s2 = some (σ9, I9, R9, i9)) : Sk2 σ0 I0 R0 σ9 I9 R9 := by
  unfold gX11_row_b54 at h
  obtain ⟨g1, h⟩ := gd h
  obtain ⟨g2, h⟩ := gd h
  obtain ⟨g3, h⟩ := gd h
  let R11 := u2 R s0 (Int32.toNatClampNeg s1) s2
  have hS := hS.setR (a := s0) (k := (Int32.toNatClampNeg s1)) (v := s2) (by first | exact Or.inl (by assumption) | exact Or.inr (by assumption))
  cases h
  exact hS
theorem zX11_row {σ0 : Shp} {I0 : Nat → Nat → Int32} {R0 : Nat → Nat → Option Nat} {σ : Shp} {I : Nat → Nat → Int32} {R : Nat → Nat → Option Nat} {x1 : Int32} {x2 : Int32} {x3 : Int32} {σ9 : Shp} {I9 : Nat → Nat → Int32} {R9 : Nat → Nat → Option Nat} {i9 : Int32} (hS : Sk2 σ0 I0 R0 σ I R) (h : gX11_row σ I R x1 x2 x3 = some (σ9, I9, R9, i9)) : Sk2 σ0 I0 R0 σ9 I9 R9 := by
  unfold gX11_row at h
  rcases itc h with ⟨c, h⟩ | ⟨c, h⟩
  · cases h
    exact hS
  · rcases itc h with ⟨c, h⟩ | ⟨c, h⟩
    · cases h
      exact hS
    · rcases itc h with ⟨c, h⟩ | ⟨c, h⟩
      · obtain ⟨r1, hc1, h⟩ := ob h
        rcases itc h with ⟨c, h⟩ | ⟨c, h⟩
        · rcases itc h with ⟨c, h⟩ | ⟨c, h⟩
          · obtain ⟨⟨σ3, I4, R5, r6⟩, hc2, h⟩ := ob h
            have hS := zX11_newRow  hS hc2
            exact zX11_row_b54  hS h
          · obtain ⟨⟨I12, r13⟩, hc3, h⟩ := ob h
            have hS := zX11_fail  hS hc3
            cases h
            exact hS
        · cases h
          exact hS
      · cases h
        exact hS
theorem zX11_newPlaces_b30 {σ0 : Shp} {I0 : Nat → Nat → Int32} {R0 : Nat → Nat → Option Nat} {σ : Shp} {I : Nat → Nat → Int32} {R : Nat → Nat → Option Nat} {s0 : Nat} {s1 : Nat} {s2 : Int32} {s3 : Nat} {s4 : Nat} {σ9 : Shp} {I9 : Nat → Nat → Int32} {R9 : Nat → Nat → Option Nat} {r9 : Option Nat} (hS : Sk2 σ0 I0 R0 σ I R) (h : gX11_newPlaces_b30 σ I R s0 s1 s2 s3 s4 = some (σ9, I9, R9, r9)) : Sk2 σ0 I0 R0 σ9 I9 R9 := by
  unfold gX11_newPlaces_b30 at h
  obtain ⟨g1, h⟩ := gd h
  obtain ⟨⟨I7, R8⟩, hc2, h⟩ := ob h
  have hS := zX10_init  hS hc2
  cases h
  exact hS
theorem zX11_newPlaces_b13 {σ0 : Shp} {I0 : Nat → Nat → Int32} {R0 : Nat → Nat → Option Nat} {σ : Shp} {I : Nat → Nat → Int32} {R : Nat → Nat → Option Nat} {x1 : Int32} {x2 : Int32} {s0 : Nat} {σ9 : Shp} {I9 : Nat → Nat → Int32} {R9 : Nat → Nat → Option Nat} {r9 : Option Nat} (hS : Sk2 σ0 I0 R0 σ I R) (h : gX11_newPlaces_b13 σ I R x1 x2 s0 = some (σ9, I9, R9, r9)) : Sk2 σ0 I0 R0 σ9 I9 R9 := by
  unfold gX11_newPlaces_b13 at h
  rcases itc h with ⟨c, h⟩ | ⟨c, h⟩
  · obtain ⟨g1, h⟩ := gd h
    obtain ⟨g2, h⟩ := gd h
    let σ5 := mkA σ 26 (Int32.toNatClampNeg x2)
    have hS := hS.mkA (t := 26) (n := (Int32.toNatClampNeg x2))
    exact zX11_newPlaces_b30  hS h
  · let σ10 := mkA σ 26 (Int32.toNatClampNeg (0 : Int32))
    have hS := hS.mkA (t := 26) (n := (Int32.toNatClampNeg (0 : Int32)))
    exact zX11_newPlaces_b30  hS h
theorem zX11_newPlaces {σ0 : Shp} {I0 : Nat → Nat → Int32} {R0 : Nat → Nat → Option Nat} {σ : Shp} {I : Nat → Nat → Int32} {R : Nat → Nat → Option Nat} {x1 : Int32} {x2 : Int32} {σ9 : Shp} {I9 : Nat → Nat → Int32} {R9 : Nat → Nat → Option Nat} {r9 : Option Nat} (hS : Sk2 σ0 I0 R0 σ I R) (h : gX11_newPlaces σ I R x1 x2 = some (σ9, I9, R9, r9)) : Sk2 σ0 I0 R0 σ9 I9 R9 := by
  unfold gX11_newPlaces at h
  let I1 := u2 I 4 12 ((I 4 12) + (1 : Int32))
  have hS := hS.setI (a := 4) (k := 12) (v := ((I 4 12) + (1 : Int32))) ⟨by decide, by decide⟩
  let σ2 := mkO σ 11 9
  have hS := hS.mkO (t := 11) (n := 9)
  exact zX11_newPlaces_b13  hS h
theorem zX11_grid_b104 {σ0 : Shp} {I0 : Nat → Nat → Int32} {R0 : Nat → Nat → Option Nat} {q76 : (Shp) → (Nat → Nat → Int32) → (Nat → Nat → Option Nat) → (Int32) → (Int32) → (Int32) → (Option Nat) → (Int32) → (Option ((Shp) × (Nat → Nat → Int32) × (Nat → Nat → Option Nat) × (Int32)))} {σ : Shp} {I : Nat → Nat → Int32} {R : Nat → Nat → Option Nat} {x1 : Int32} {x2 : Int32} {x4 : Int32} {x6 : Option Nat} {x7 : Int32} {s0 : Nat} {s1 : Int32} {s2 : Option Nat} {σ9 : Shp} {I9 : Nat → Nat → Int32} {R9 : Nat → Nat → Option Nat} {i9 : Int32} (hq76 : ∀ (σ : Shp) (I : Nat → Nat → Int32) (R : Nat → Nat → Option Nat) (x1 : Int32) (x2 : Int32) (x4 : Int32) (x6 : Option Nat) (x7 : Int32), Sk2 σ0 I0 R0 σ I R → q76 σ I R x1 x2 x4 x6 x7 = some (σ9, I9, R9, i9) → Sk2 σ0 I0 R0 σ9 I9 R9) (hS : Sk2 σ0 I0 R0 σ I R) (h : gX11_grid_b104 q76 σ I R x1 x2 x4 x6 x7 s0 s1 s2 = some (σ9, I9, R9, i9)) : Sk2 σ0 I0 R0 σ9 I9 R9 := by
  unfold gX11_grid_b104 at h
  obtain ⟨g1, h⟩ := gd h
  obtain ⟨g2, h⟩ := gd h
  obtain ⟨g3, h⟩ := gd h
  let R28 := u2 R s0 (Int32.toNatClampNeg s1) s2
  have hS := hS.setR (a := s0) (k := (Int32.toNatClampNeg s1)) (v := s2) (by first | exact Or.inl (by assumption) | exact Or.inr (by assumption))
  let v29 := x7 + (1 : Int32)
  exact hq76 _ _ _ _ _ _ _ _ hS h
theorem zX11_grid_l76 {σ0 : Shp} {I0 : Nat → Nat → Int32} {R0 : Nat → Nat → Option Nat} {σ9 : Shp} {I9 : Nat → Nat → Int32} {R9 : Nat → Nat → Option Nat} {i9 : Int32} : ∀ (n : Nat) (σ : Shp) (I : Nat → Nat → Int32) (R : Nat → Nat → Option Nat) (x1 : Int32) (x2 : Int32) (x4 : Int32) (x6 : Option Nat) (x7 : Int32), Sk2 σ0 I0 R0 σ I R → gX11_grid_l76 n σ I R x1 x2 x4 x6 x7 = some (σ9, I9, R9, i9) → Sk2 σ0 I0 R0 σ9 I9 R9 := by
  intro n
  induction n with
  | zero =>
    intro σ I R x1 x2 x4 x6 x7 hS h
    have h : none = some _ := h
    cases h
  | succ n ih =>
    intro σ I R x1 x2 x4 x6 x7 hS h
    rw [gX11_grid_l76] at h
    obtain ⟨a14, hc1, h⟩ := ob h
    obtain ⟨g2, h⟩ := gd h
    obtain ⟨a16, hc3, h⟩ := ob h
    obtain ⟨g4, h⟩ := gd h
    rcases itc h with ⟨c, h⟩ | ⟨c, h⟩
    · obtain ⟨g5, h⟩ := gd h
      let R19 := u2 R 6 (Int32.toNatClampNeg x1) (some a14)
      have hS := hS.setR (a := 6) (k := (Int32.toNatClampNeg x1)) (v := (some a14)) (Or.inl (kq6 hS.1))
      cases h
      exact hS
    · obtain ⟨⟨σ20, I21, R22, r23⟩, hc6, h⟩ := ob h
      have hS := zX11_newRow  hS hc6
      exact zX11_grid_b104 ih hS h
theorem zX11_grid_b66 {σ0 : Shp} {I0 : Nat → Nat → Int32} {R0 : Nat → Nat → Option Nat} {σ : Shp} {I : Nat → Nat → Int32} {R : Nat → Nat → Option Nat} {x1 : Int32} {x2 : Int32} {x4 : Int32} {x5 : Int32} {s0 : Option Nat} {σ9 : Shp} {I9 : Nat → Nat → Int32} {R9 : Nat → Nat → Option Nat} {i9 : Int32} (hS : Sk2 σ0 I0 R0 σ I R) (h : gX11_grid_b66 σ I R x1 x2 x4 x5 s0 = some (σ9, I9, R9, i9)) : Sk2 σ0 I0 R0 σ9 I9 R9 := by
  unfold gX11_grid_b66 at h
  rcases itc h with ⟨c, h⟩ | ⟨c, h⟩
  · exact zX11_grid_l76  _ _ _ _ _ _ _ _ _ hS h
  · obtain ⟨g1, h⟩ := gd h
    obtain ⟨g2, h⟩ := gd h
    let R13 := u2 R 6 (Int32.toNatClampNeg x1) s0
    have hS := hS.setR (a := 6) (k := (Int32.toNatClampNeg x1)) (v := s0) (Or.inl (kq6 hS.1))
    cases h
    exact hS
theorem zX11_grid {σ0 : Shp} {I0 : Nat → Nat → Int32} {R0 : Nat → Nat → Option Nat} {σ : Shp} {I : Nat → Nat → Int32} {R : Nat → Nat → Option Nat} {x1 : Int32} {x2 : Int32} {x3 : Int32} {x4 : Int32} {x5 : Int32} {σ9 : Shp} {I9 : Nat → Nat → Int32} {R9 : Nat → Nat → Option Nat} {i9 : Int32} (hS : Sk2 σ0 I0 R0 σ I R) (h : gX11_grid σ I R x1 x2 x3 x4 x5 = some (σ9, I9, R9, i9)) : Sk2 σ0 I0 R0 σ9 I9 R9 := by
  unfold gX11_grid at h
  rcases itc h with ⟨c, h⟩ | ⟨c, h⟩
  · cases h
    exact hS
  · rcases itc h with ⟨c, h⟩ | ⟨c, h⟩
    · cases h
      exact hS
    · rcases itc h with ⟨c, h⟩ | ⟨c, h⟩
      · cases h
        exact hS
      · rcases itc h with ⟨c, h⟩ | ⟨c, h⟩
        · obtain ⟨r1, hc1, h⟩ := ob h
          rcases itc h with ⟨c, h⟩ | ⟨c, h⟩
          · rcases itc h with ⟨c, h⟩ | ⟨c, h⟩
            · obtain ⟨⟨I3, r4⟩, hc2, h⟩ := ob h
              have hS := zX11_fail  hS hc2
              cases h
              exact hS
            · rcases itc h with ⟨c, h⟩ | ⟨c, h⟩
              · obtain ⟨⟨σ6, I7, R8, r9⟩, hc3, h⟩ := ob h
                have hS := zX11_newPlaces  hS hc3
                exact zX11_grid_b66  hS h
              · rcases itc h with ⟨c, h⟩ | ⟨c, h⟩
                · obtain ⟨⟨I35, r36⟩, hc4, h⟩ := ob h
                  have hS := zX11_fail  hS hc4
                  cases h
                  exact hS
                · obtain ⟨⟨σ30, I31, R32, r33⟩, hc5, h⟩ := ob h
                  have hS := zX11_newPlaces  hS hc5
                  exact zX11_grid_b66  hS h
          · cases h
            exact hS
        · cases h
          exact hS
theorem zX11_intoBin_b31 {σ0 : Shp} {I0 : Nat → Nat → Int32} {R0 : Nat → Nat → Option Nat} {σ : Shp} {I : Nat → Nat → Int32} {R : Nat → Nat → Option Nat} {s0 : Nat} {s1 : Int32} {s2 : Option Nat} {σ9 : Shp} {I9 : Nat → Nat → Int32} {R9 : Nat → Nat → Option Nat} {i9 : Int32} (hS : Sk2 σ0 I0 R0 σ I R) (h : gX11_intoBin_b31 σ I R s0 s1 s2 = some (σ9, I9, R9, i9)) : Sk2 σ0 I0 R0 σ9 I9 R9 := by
  unfold gX11_intoBin_b31 at h
  obtain ⟨g1, h⟩ := gd h
  obtain ⟨g2, h⟩ := gd h
  obtain ⟨g3, h⟩ := gd h
  let R11 := u2 R s0 (Int32.toNatClampNeg s1) s2
  have hS := hS.setR (a := s0) (k := (Int32.toNatClampNeg s1)) (v := s2) (by first | exact Or.inl (by assumption) | exact Or.inr (by assumption))
  cases h
  exact hS
theorem zX11_intoBin {σ0 : Shp} {I0 : Nat → Nat → Int32} {R0 : Nat → Nat → Option Nat} {σ : Shp} {I : Nat → Nat → Int32} {R : Nat → Nat → Option Nat} {x1 : Int32} {x2 : Int32} {x3 : Int32} {σ9 : Shp} {I9 : Nat → Nat → Int32} {R9 : Nat → Nat → Option Nat} {i9 : Int32} (hS : Sk2 σ0 I0 R0 σ I R) (h : gX11_intoBin σ I R x1 x2 x3 = some (σ9, I9, R9, i9)) : Sk2 σ0 I0 R0 σ9 I9 R9 := by
  unfold gX11_intoBin at h
  obtain ⟨r1, hc1, h⟩ := ob h
  rcases itc h with ⟨c, h⟩ | ⟨c, h⟩
  · rcases itc h with ⟨c, h⟩ | ⟨c, h⟩
    · obtain ⟨⟨σ3, I4, R5, r6⟩, hc2, h⟩ := ob h
      have hS := zX11_newPlaces  hS hc2
      exact zX11_intoBin_b31  hS h
    · obtain ⟨⟨I12, r13⟩, hc3, h⟩ := ob h
      have hS := zX11_fail  hS hc3
      cases h
      exact hS
  · cases h
    exact hS
theorem zX11_storeys_b23 {σ0 : Shp} {I0 : Nat → Nat → Int32} {R0 : Nat → Nat → Option Nat} {σ : Shp} {I : Nat → Nat → Int32} {R : Nat → Nat → Option Nat} {s0 : Int32} {σ9 : Shp} {I9 : Nat → Nat → Int32} {R9 : Nat → Nat → Option Nat} {i9 : Int32} (hS : Sk2 σ0 I0 R0 σ I R) (h : gX11_storeys_b23 σ I R s0 = some (σ9, I9, R9, i9)) : Sk2 σ0 I0 R0 σ9 I9 R9 := by
  unfold gX11_storeys_b23 at h
  cases h
  exact hS
theorem zX11_storeys {σ0 : Shp} {I0 : Nat → Nat → Int32} {R0 : Nat → Nat → Option Nat} {σ : Shp} {I : Nat → Nat → Int32} {R : Nat → Nat → Option Nat} {x1 : Int32} {x2 : Int32} {σ9 : Shp} {I9 : Nat → Nat → Int32} {R9 : Nat → Nat → Option Nat} {i9 : Int32} (hS : Sk2 σ0 I0 R0 σ I R) (h : gX11_storeys σ I R x1 x2 = some (σ9, I9, R9, i9)) : Sk2 σ0 I0 R0 σ9 I9 R9 := by
  unfold gX11_storeys at h
  rcases itc h with ⟨c, h⟩ | ⟨c, h⟩
  · cases h
    exact hS
  · rcases itc h with ⟨c, h⟩ | ⟨c, h⟩
    · obtain ⟨⟨σ1, I2, R3, r4⟩, hc1, h⟩ := ob h
      have hS := zX11_intoBin  hS hc1
      exact zX11_storeys_b23  hS h
    · cases h
      exact hS
theorem zX11_share_b22 {σ0 : Shp} {I0 : Nat → Nat → Int32} {R0 : Nat → Nat → Option Nat} {σ : Shp} {R : Nat → Nat → Option Nat} {x1 : Int32} {x2 : Int32} {I : Nat → Nat → Int32} {R9 : Nat → Nat → Option Nat} {i9 : Int32} (hS : Sk2 σ0 I0 R0 σ I R) (h : gX11_share_b22 σ R x1 x2 = some (R9, i9)) : Sk2 σ0 I0 R0 σ I R9 := by
  unfold gX11_share_b22 at h
  rcases itc h with ⟨c, h⟩ | ⟨c, h⟩
  · obtain ⟨g1, h⟩ := gd h
    let R6 := u2 R 6 (Int32.toNatClampNeg x1) none
    have hS := hS.setR (a := 6) (k := (Int32.toNatClampNeg x1)) (v := none) (Or.inl (kq6 hS.1))
    cases h
    exact hS
  · obtain ⟨g2, h⟩ := gd h
    obtain ⟨g3, h⟩ := gd h
    obtain ⟨g4, h⟩ := gd h
    let R4 := u2 R 6 (Int32.toNatClampNeg x1) (R 6 (Int32.toNatClampNeg x2))
    have hS := hS.setR (a := 6) (k := (Int32.toNatClampNeg x1)) (v := (R 6 (Int32.toNatClampNeg x2))) (Or.inl (kq6 hS.1))
    cases h
    exact hS
theorem zX11_share {σ0 : Shp} {I0 : Nat → Nat → Int32} {R0 : Nat → Nat → Option Nat} {σ : Shp} {R : Nat → Nat → Option Nat} {x1 : Int32} {x2 : Int32} {I : Nat → Nat → Int32} {R9 : Nat → Nat → Option Nat} {i9 : Int32} (hS : Sk2 σ0 I0 R0 σ I R) (h : gX11_share σ R x1 x2 = some (R9, i9)) : Sk2 σ0 I0 R0 σ I R9 := by
  unfold gX11_share at h
  rcases itc h with ⟨c, h⟩ | ⟨c, h⟩
  · cases h
    exact hS
  · rcases itc h with ⟨c, h⟩ | ⟨c, h⟩
    · exact zX11_share_b22  hS h
    · rcases itc h with ⟨c, h⟩ | ⟨c, h⟩
      · cases h
        exact hS
      · exact zX11_share_b22  hS h
theorem zX11_get {σ0 : Shp} {I0 : Nat → Nat → Int32} {R0 : Nat → Nat → Option Nat} {σ : Shp} {I : Nat → Nat → Int32} {J : Nat → Nat → Int64} {R : Nat → Nat → Option Nat} {x1 : Int32} {x2 : Int32} {x3 : Int32} {I9 : Nat → Nat → Int32} {j9 : Int64} (hS : Sk2 σ0 I0 R0 σ I R) (h : gX11_get σ I J R x1 x2 x3 = some (I9, j9)) : Sk2 σ0 I0 R0 σ I9 R := by
  unfold gX11_get at h
  rcases itc h with ⟨c, h⟩ | ⟨c, h⟩
  · cases h
    exact hS
  · rcases itc h with ⟨c, h⟩ | ⟨c, h⟩
    · cases h
      exact hS
    · obtain ⟨g1, h⟩ := gd h
      let v2 := (R 6 (Int32.toNatClampNeg x1))
      obtain ⟨r3, hc2, h⟩ := ob h
      rcases itc h with ⟨c, h⟩ | ⟨c, h⟩
      · rcases onl_c h with ⟨ea3, h⟩ | ⟨a8, ha3, h⟩
        · obtain ⟨⟨I9, r10⟩, hc4, h⟩ := ob h
          have hS := zX11_fail  hS hc4
          cases h
          exact hS
        · obtain ⟨g5, h⟩ := gd h
          obtain ⟨a13, hc6, h⟩ := ob h
          obtain ⟨g7, h⟩ := gd h
          obtain ⟨g8, h⟩ := gd h
          cases h
          exact hS
      · obtain ⟨⟨I5, r6⟩, hc9, h⟩ := ob h
        have hS := zX11_fail  hS hc9
        cases h
        exact hS
theorem zX11_put {σ0 : Shp} {I0 : Nat → Nat → Int32} {R0 : Nat → Nat → Option Nat} {σ : Shp} {I : Nat → Nat → Int32} {J : Nat → Nat → Int64} {R : Nat → Nat → Option Nat} {x1 : Int32} {x2 : Int32} {x3 : Int32} {x4 : Int64} {I9 : Nat → Nat → Int32} {J9 : Nat → Nat → Int64} {i9 : Int32} (hS : Sk2 σ0 I0 R0 σ I R) (h : gX11_put σ I J R x1 x2 x3 x4 = some (I9, J9, i9)) : Sk2 σ0 I0 R0 σ I9 R := by
  unfold gX11_put at h
  rcases itc h with ⟨c, h⟩ | ⟨c, h⟩
  · cases h
    exact hS
  · rcases itc h with ⟨c, h⟩ | ⟨c, h⟩
    · cases h
      exact hS
    · obtain ⟨g1, h⟩ := gd h
      let v2 := (R 6 (Int32.toNatClampNeg x1))
      obtain ⟨r3, hc2, h⟩ := ob h
      rcases itc h with ⟨c, h⟩ | ⟨c, h⟩
      · rcases onl_c h with ⟨ea3, h⟩ | ⟨a8, ha3, h⟩
        · obtain ⟨⟨I9, r10⟩, hc4, h⟩ := ob h
          have hS := zX11_fail  hS hc4
          cases h
          exact hS
        · obtain ⟨g5, h⟩ := gd h
          obtain ⟨a13, hc6, h⟩ := ob h
          obtain ⟨g7, h⟩ := gd h
          obtain ⟨g8, h⟩ := gd h
          let J16 := u2 J a13 (Int32.toNatClampNeg x3) (fX11_cellOf x2 x4)
          cases h
          exact hS
      · obtain ⟨⟨I5, r6⟩, hc9, h⟩ := ob h
        have hS := zX11_fail  hS hc9
        cases h
        exact hS
theorem zX11_bed {σ0 : Shp} {I0 : Nat → Nat → Int32} {R0 : Nat → Nat → Option Nat} {σ : Shp} {I : Nat → Nat → Int32} {J : Nat → Nat → Int64} {R : Nat → Nat → Option Nat} {x1 : Int32} {x2 : Int32} {x3 : Int32} {x4 : Int32} {I9 : Nat → Nat → Int32} {j9 : Int64} (hS : Sk2 σ0 I0 R0 σ I R) (h : gX11_bed σ I J R x1 x2 x3 x4 = some (I9, j9)) : Sk2 σ0 I0 R0 σ I9 R := by
  unfold gX11_bed at h
  rcases itc h with ⟨c, h⟩ | ⟨c, h⟩
  · cases h
    exact hS
  · rcases itc h with ⟨c, h⟩ | ⟨c, h⟩
    · cases h
      exact hS
    · obtain ⟨g1, h⟩ := gd h
      obtain ⟨r2, hc2, h⟩ := ob h
      obtain ⟨r4, hc3, h⟩ := ob h
      rcases itc h with ⟨c, h⟩ | ⟨c, h⟩
      · rcases onl_c h with ⟨ea4, h⟩ | ⟨a9, ha4, h⟩
        · obtain ⟨⟨I10, r11⟩, hc5, h⟩ := ob h
          have hS := zX11_fail  hS hc5
          cases h
          exact hS
        · obtain ⟨g6, h⟩ := gd h
          obtain ⟨a14, hc7, h⟩ := ob h
          obtain ⟨g8, h⟩ := gd h
          obtain ⟨g9, h⟩ := gd h
          cases h
          exact hS
      · obtain ⟨⟨I6, r7⟩, hc10, h⟩ := ob h
        have hS := zX11_fail  hS hc10
        cases h
        exact hS
theorem zX11_setBed {σ0 : Shp} {I0 : Nat → Nat → Int32} {R0 : Nat → Nat → Option Nat} {σ : Shp} {I : Nat → Nat → Int32} {J : Nat → Nat → Int64} {R : Nat → Nat → Option Nat} {x1 : Int32} {x2 : Int32} {x3 : Int32} {x4 : Int32} {x5 : Int64} {I9 : Nat → Nat → Int32} {J9 : Nat → Nat → Int64} {i9 : Int32} (hS : Sk2 σ0 I0 R0 σ I R) (h : gX11_setBed σ I J R x1 x2 x3 x4 x5 = some (I9, J9, i9)) : Sk2 σ0 I0 R0 σ I9 R := by
  unfold gX11_setBed at h
  rcases itc h with ⟨c, h⟩ | ⟨c, h⟩
  · cases h
    exact hS
  · rcases itc h with ⟨c, h⟩ | ⟨c, h⟩
    · cases h
      exact hS
    · obtain ⟨g1, h⟩ := gd h
      obtain ⟨r2, hc2, h⟩ := ob h
      obtain ⟨r4, hc3, h⟩ := ob h
      rcases itc h with ⟨c, h⟩ | ⟨c, h⟩
      · rcases onl_c h with ⟨ea4, h⟩ | ⟨a9, ha4, h⟩
        · obtain ⟨⟨I10, r11⟩, hc5, h⟩ := ob h
          have hS := zX11_fail  hS hc5
          cases h
          exact hS
        · obtain ⟨g6, h⟩ := gd h
          obtain ⟨a14, hc7, h⟩ := ob h
          obtain ⟨g8, h⟩ := gd h
          obtain ⟨g9, h⟩ := gd h
          let J17 := u2 J a14 (Int32.toNatClampNeg x4) (fX11_cellOf (fX11_laneOfGrid x2) x5)
          cases h
          exact hS
      · obtain ⟨⟨I6, r7⟩, hc10, h⟩ := ob h
        have hS := zX11_fail  hS hc10
        cases h
        exact hS
theorem zX11_countUp_b78 {σ0 : Shp} {I0 : Nat → Nat → Int32} {R0 : Nat → Nat → Option Nat} {σ : Shp} {R : Nat → Nat → Option Nat} {I : Nat → Nat → Int32} {J : Nat → Nat → Int64} {x4 : Int32} {x5 : Int32} {x7 : Int32} {s0 : Option Nat} {I9 : Nat → Nat → Int32} {J9 : Nat → Nat → Int64} {i9 : Int32} (hS : Sk2 σ0 I0 R0 σ I R) (h : gX11_countUp_b78 σ R I J x4 x5 x7 s0 = some (I9, J9, i9)) : Sk2 σ0 I0 R0 σ I9 R := by
  unfold gX11_countUp_b78 at h
  rcases onl_c h with ⟨ea1, h⟩ | ⟨a5, ha1, h⟩
  · obtain ⟨⟨I6, r7⟩, hc2, h⟩ := ob h
    have hS := zX11_fail  hS hc2
    cases h
    exact hS
  · obtain ⟨g3, h⟩ := gd h
    obtain ⟨a10, hc4, h⟩ := ob h
    obtain ⟨g5, h⟩ := gd h
    obtain ⟨g6, h⟩ := gd h
    let v13 := (Int64.toInt32 (J a10 (Int32.toNatClampNeg x4)))
    let J14 := u2 J a10 (Int32.toNatClampNeg x4) (Int32.toInt64 (v13 + (1 : Int32)))
    rcases itc h with ⟨c, h⟩ | ⟨c, h⟩
    · cases h
      exact hS
    · cases h
      exact hS
theorem zX11_countUp_b42 {σ0 : Shp} {I0 : Nat → Nat → Int32} {R0 : Nat → Nat → Option Nat} {σ : Shp} {R : Nat → Nat → Option Nat} {I : Nat → Nat → Int32} {J : Nat → Nat → Int64} {x3 : Int32} {x4 : Int32} {x5 : Int32} {x7 : Int32} {s0 : Option Nat} {I9 : Nat → Nat → Int32} {J9 : Nat → Nat → Int64} {i9 : Int32} (hS : Sk2 σ0 I0 R0 σ I R) (h : gX11_countUp_b42 σ R I J x3 x4 x5 x7 s0 = some (I9, J9, i9)) : Sk2 σ0 I0 R0 σ I9 R := by
  unfold gX11_countUp_b42 at h
  rcases itc h with ⟨c, h⟩ | ⟨c, h⟩
  · obtain ⟨r17, hc1, h⟩ := ob h
    rcases itc h with ⟨c, h⟩ | ⟨c, h⟩
    · obtain ⟨r19, hc2, h⟩ := ob h
      exact zX11_countUp_b78  hS h
    · exact zX11_countUp_b78  hS h
  · rcases itc h with ⟨c, h⟩ | ⟨c, h⟩
    · obtain ⟨r15, hc3, h⟩ := ob h
      exact zX11_countUp_b78  hS h
    · exact zX11_countUp_b78  hS h
theorem zX11_countUp {σ0 : Shp} {I0 : Nat → Nat → Int32} {R0 : Nat → Nat → Option Nat} {σ : Shp} {I : Nat → Nat → Int32} {J : Nat → Nat → Int64} {R : Nat → Nat → Option Nat} {x1 : Int32} {x2 : Int32} {x3 : Int32} {x4 : Int32} {x5 : Int32} {I9 : Nat → Nat → Int32} {J9 : Nat → Nat → Int64} {i9 : Int32} (hS : Sk2 σ0 I0 R0 σ I R) (h : gX11_countUp σ I J R x1 x2 x3 x4 x5 = some (I9, J9, i9)) : Sk2 σ0 I0 R0 σ I9 R := by
  unfold gX11_countUp at h
  rcases itc h with ⟨c, h⟩ | ⟨c, h⟩
  · cases h
    exact hS
  · obtain ⟨g1, h⟩ := gd h
    let v2 := (R 6 (Int32.toNatClampNeg x1))
    obtain ⟨r3, hc2, h⟩ := ob h
    rcases itc h with ⟨c, h⟩ | ⟨c, h⟩
    · obtain ⟨r21, hc3, h⟩ := ob h
      exact zX11_countUp_b42  hS h
    · exact zX11_countUp_b42  hS h
theorem zX11_set {σ0 : Shp} {I0 : Nat → Nat → Int32} {R0 : Nat → Nat → Option Nat} {σ : Shp} {I : Nat → Nat → Int32} {R : Nat → Nat → Option Nat} {x1 : Int32} {x2 : Int32} {x3 : Int32} {I9 : Nat → Nat → Int32} {R9 : Nat → Nat → Option Nat} {i9 : Int32} (hS : Sk2 σ0 I0 R0 σ I R) (h : gX11_set σ I R x1 x2 x3 = some (I9, R9, i9)) : Sk2 σ0 I0 R0 σ I9 R9 := by
  unfold gX11_set at h
  rcases itc h with ⟨c, h⟩ | ⟨c, h⟩
  · cases h
    exact hS
  · rcases itc h with ⟨c, h⟩ | ⟨c, h⟩
    · cases h
      exact hS
    · obtain ⟨g1, h⟩ := gd h
      let v2 := (R 6 (Int32.toNatClampNeg x1))
      obtain ⟨r3, hc2, h⟩ := ob h
      rcases itc h with ⟨c, h⟩ | ⟨c, h⟩
      · rcases onl_c h with ⟨ea3, h⟩ | ⟨a8, ha3, h⟩
        · obtain ⟨⟨I9, r10⟩, hc4, h⟩ := ob h
          have hS := zX11_fail  hS hc4
          cases h
          exact hS
        · obtain ⟨g5, h⟩ := gd h
          obtain ⟨g6, h⟩ := gd h
          obtain ⟨r14, hc7, h⟩ := ob h
          rcases itc h with ⟨c, h⟩ | ⟨c, h⟩
          · obtain ⟨⟨I21, r22⟩, hc8, h⟩ := ob h
            have hS := zX11_fail  hS hc8
            cases h
            exact hS
          · obtain ⟨a16, hc9, h⟩ := ob h
            obtain ⟨g10, h⟩ := gd h
            obtain ⟨g11, h⟩ := gd h
            obtain ⟨g12, h⟩ := gd h
            let R20 := u2 R a16 (Int32.toNatClampNeg x2) (R 6 (Int32.toNatClampNeg x3))
            have hS := hS.setR (a := a16) (k := (Int32.toNatClampNeg x2)) (v := (R 6 (Int32.toNatClampNeg x3))) (by first | exact Or.inl (by assumption) | exact Or.inr (by assumption))
            cases h
            exact hS
      · obtain ⟨⟨I5, r6⟩, hc13, h⟩ := ob h
        have hS := zX11_fail  hS hc13
        cases h
        exact hS
theorem zX11_lift {σ0 : Shp} {I0 : Nat → Nat → Int32} {R0 : Nat → Nat → Option Nat} {σ : Shp} {I : Nat → Nat → Int32} {R : Nat → Nat → Option Nat} {x1 : Int32} {x2 : Int32} {x3 : Int32} {I9 : Nat → Nat → Int32} {R9 : Nat → Nat → Option Nat} {i9 : Int32} (hS : Sk2 σ0 I0 R0 σ I R) (h : gX11_lift σ I R x1 x2 x3 = some (I9, R9, i9)) : Sk2 σ0 I0 R0 σ I9 R9 := by
  unfold gX11_lift at h
  rcases itc h with ⟨c, h⟩ | ⟨c, h⟩
  · cases h
    exact hS
  · rcases itc h with ⟨c, h⟩ | ⟨c, h⟩
    · cases h
      exact hS
    · obtain ⟨g1, h⟩ := gd h
      obtain ⟨r2, hc2, h⟩ := ob h
      rcases itc h with ⟨c, h⟩ | ⟨c, h⟩
      · obtain ⟨r4, hc3, h⟩ := ob h
        obtain ⟨g4, h⟩ := gd h
        obtain ⟨g5, h⟩ := gd h
        let R8 := u2 R 6 (Int32.toNatClampNeg x1) r4
        have hS := hS.setR (a := 6) (k := (Int32.toNatClampNeg x1)) (v := r4) (Or.inl (kq6 hS.1))
        cases h
        exact hS
      · obtain ⟨⟨I9, r10⟩, hc6, h⟩ := ob h
        have hS := zX11_fail  hS hc6
        cases h
        exact hS
theorem zX11_liftAs {σ0 : Shp} {I0 : Nat → Nat → Int32} {R0 : Nat → Nat → Option Nat} {σ : Shp} {I : Nat → Nat → Int32} {R : Nat → Nat → Option Nat} {x1 : Int32} {x2 : Int32} {x3 : Int32} {x4 : Int32} {I9 : Nat → Nat → Int32} {R9 : Nat → Nat → Option Nat} {i9 : Int32} (hS : Sk2 σ0 I0 R0 σ I R) (h : gX11_liftAs σ I R x1 x2 x3 x4 = some (I9, R9, i9)) : Sk2 σ0 I0 R0 σ I9 R9 := by
  unfold gX11_liftAs at h
  rcases itc h with ⟨c, h⟩ | ⟨c, h⟩
  · cases h
    exact hS
  · rcases itc h with ⟨c, h⟩ | ⟨c, h⟩
    · cases h
      exact hS
    · rcases itc h with ⟨c, h⟩ | ⟨c, h⟩
      · cases h
        exact hS
      · obtain ⟨g1, h⟩ := gd h
        obtain ⟨r2, hc2, h⟩ := ob h
        rcases itc h with ⟨c, h⟩ | ⟨c, h⟩
        · obtain ⟨r4, hc3, h⟩ := ob h
          obtain ⟨r6, hc4, h⟩ := ob h
          rcases itc h with ⟨c, h⟩ | ⟨c, h⟩
          · obtain ⟨⟨I11, r12⟩, hc5, h⟩ := ob h
            have hS := zX11_fail  hS hc5
            cases h
            exact hS
          · obtain ⟨g6, h⟩ := gd h
            obtain ⟨g7, h⟩ := gd h
            let R10 := u2 R 6 (Int32.toNatClampNeg x1) r4
            have hS := hS.setR (a := 6) (k := (Int32.toNatClampNeg x1)) (v := r4) (Or.inl (kq6 hS.1))
            cases h
            exact hS
        · obtain ⟨⟨I14, r15⟩, hc8, h⟩ := ob h
          have hS := zX11_fail  hS hc8
          cases h
          exact hS
theorem zX11_movePlaces_b56 {σ0 : Shp} {I0 : Nat → Nat → Int32} {R0 : Nat → Nat → Option Nat} {q32 : (Nat → Nat → Option Nat) → (Option Nat) → (Int32) → (Option Nat) → (Int32) → (Int32) → (Int32) → (Option ((Nat → Nat → Option Nat)))} {σ : Shp} {R : Nat → Nat → Option Nat} {x0 : Option Nat} {x1 : Int32} {x2 : Option Nat} {x3 : Int32} {x4 : Int32} {x5 : Int32} {s0 : Int32} {I : Nat → Nat → Int32} {R9 : Nat → Nat → Option Nat} (hq32 : ∀ (R : Nat → Nat → Option Nat) (x0 : Option Nat) (x1 : Int32) (x2 : Option Nat) (x3 : Int32) (x4 : Int32) (x5 : Int32), Sk2 σ0 I0 R0 σ I R → q32 R x0 x1 x2 x3 x4 x5 = some R9 → Sk2 σ0 I0 R0 σ I R9) (hS : Sk2 σ0 I0 R0 σ I R) (h : gX11_movePlaces_b56 q32 σ R x0 x1 x2 x3 x4 x5 s0 = some R9) : Sk2 σ0 I0 R0 σ I R9 := by
  unfold gX11_movePlaces_b56 at h
  obtain ⟨a9, hc1, h⟩ := ob h
  obtain ⟨g2, h⟩ := gd h
  obtain ⟨a11, hc3, h⟩ := ob h
  obtain ⟨a12, hc4, h⟩ := ob h
  obtain ⟨g5, h⟩ := gd h
  obtain ⟨a14, hc6, h⟩ := ob h
  obtain ⟨g7, h⟩ := gd h
  obtain ⟨g8, h⟩ := gd h
  obtain ⟨g9, h⟩ := gd h
  obtain ⟨g10, h⟩ := gd h
  obtain ⟨g11, h⟩ := gd h
  let R20 := u2 R a11 (Int32.toNatClampNeg (x3 + s0)) (R a14 (Int32.toNatClampNeg (x1 + s0)))
  have hS := hS.setR (a := a11) (k := (Int32.toNatClampNeg (x3 + s0))) (v := (R a14 (Int32.toNatClampNeg (x1 + s0)))) (by first | exact Or.inl (by assumption) | exact Or.inr (by assumption))
  let v21 := x5 + (1 : Int32)
  exact hq32 _ _ _ _ _ _ _ hS h
theorem zX11_movePlaces_l32 {σ0 : Shp} {I0 : Nat → Nat → Int32} {R0 : Nat → Nat → Option Nat} {σ : Shp} {I : Nat → Nat → Int32} {R9 : Nat → Nat → Option Nat} : ∀ (n : Nat) (R : Nat → Nat → Option Nat) (x0 : Option Nat) (x1 : Int32) (x2 : Option Nat) (x3 : Int32) (x4 : Int32) (x5 : Int32), Sk2 σ0 I0 R0 σ I R → gX11_movePlaces_l32 σ n R x0 x1 x2 x3 x4 x5 = some R9 → Sk2 σ0 I0 R0 σ I R9 := by
  intro n
  induction n with
  | zero =>
    intro R x0 x1 x2 x3 x4 x5 hS h
    have h : none = some _ := h
    cases h
  | succ n ih =>
    intro R x0 x1 x2 x3 x4 x5 hS h
    rw [gX11_movePlaces_l32] at h
    rcases itc h with ⟨c, h⟩ | ⟨c, h⟩
    · cases h
      exact hS
    · rcases itc h with ⟨c, h⟩ | ⟨c, h⟩
      · exact zX11_movePlaces_b56 ih hS h
      · exact zX11_movePlaces_b56 ih hS h
theorem zX11_movePlaces {σ0 : Shp} {I0 : Nat → Nat → Int32} {R0 : Nat → Nat → Option Nat} {σ : Shp} {R : Nat → Nat → Option Nat} {x0 : Option Nat} {x1 : Int32} {x2 : Option Nat} {x3 : Int32} {x4 : Int32} {I : Nat → Nat → Int32} {R9 : Nat → Nat → Option Nat} (hS : Sk2 σ0 I0 R0 σ I R) (h : gX11_movePlaces σ R x0 x1 x2 x3 x4 = some R9) : Sk2 σ0 I0 R0 σ I R9 := by
  unfold gX11_movePlaces at h
  obtain ⟨a1, hc1, h⟩ := ob h
  obtain ⟨g2, h⟩ := gd h
  obtain ⟨a3, hc3, h⟩ := ob h
  obtain ⟨g4, h⟩ := gd h
  rcases itc h with ⟨c, h⟩ | ⟨c, h⟩
  · cases h
    exact hS
  · obtain ⟨a5, hc5, h⟩ := ob h
    obtain ⟨g6, h⟩ := gd h
    obtain ⟨a7, hc7, h⟩ := ob h
    obtain ⟨g8, h⟩ := gd h
    rcases itc h with ⟨c, h⟩ | ⟨c, h⟩
    · cases h
      exact hS
    · exact zX11_movePlaces_l32  _ _ _ _ _ _ _ _ hS h
theorem zX11_shift {σ0 : Shp} {I0 : Nat → Nat → Int32} {R0 : Nat → Nat → Option Nat} {σ : Shp} {I : Nat → Nat → Int32} {J : Nat → Nat → Int64} {R : Nat → Nat → Option Nat} {x1 : Int32} {x2 : Int32} {x3 : Int32} {x4 : Int32} {x5 : Int32} {I9 : Nat → Nat → Int32} {J9 : Nat → Nat → Int64} {R9 : Nat → Nat → Option Nat} {i9 : Int32} (hS : Sk2 σ0 I0 R0 σ I R) (h : gX11_shift σ I J R x1 x2 x3 x4 x5 = some (I9, J9, R9, i9)) : Sk2 σ0 I0 R0 σ I9 R9 := by
  unfold gX11_shift at h
  rcases itc h with ⟨c, h⟩ | ⟨c, h⟩
  · cases h
    exact hS
  · rcases itc h with ⟨c, h⟩ | ⟨c, h⟩
    · cases h
      exact hS
    · let I1 := u2 I 4 17 (0 : Int32)
      have hS := hS.setI (a := 4) (k := 17) (v := (0 : Int32)) ⟨by decide, by decide⟩
      obtain ⟨g1, h⟩ := gd h
      let v3 := (R 6 (Int32.toNatClampNeg x1))
      obtain ⟨g2, h⟩ := gd h
      let v5 := (R 6 (Int32.toNatClampNeg x3))
      rcases onl_c h with ⟨ea3, h⟩ | ⟨a6, ha3, h⟩
      · obtain ⟨⟨I7, r8⟩, hc4, h⟩ := ob h
        have hS := zX11_fail  hS hc4
        cases h
        exact hS
      · rcases onl_c h with ⟨ea5, h⟩ | ⟨a10, ha5, h⟩
        · obtain ⟨⟨I11, r12⟩, hc6, h⟩ := ob h
          have hS := zX11_fail  hS hc6
          cases h
          exact hS
        · obtain ⟨r14, hc7, h⟩ := ob h
          rcases itc h with ⟨c, h⟩ | ⟨c, h⟩
          · obtain ⟨⟨I41, r42⟩, hc8, h⟩ := ob h
            have hS := zX11_fail  hS hc8
            cases h
            exact hS
          · obtain ⟨g9, h⟩ := gd h
            obtain ⟨r17, hc10, h⟩ := ob h
            rcases itc h with ⟨c, h⟩ | ⟨c, h⟩
            · obtain ⟨⟨I19, r20⟩, hc11, h⟩ := ob h
              have hS := zX11_fail  hS hc11
              cases h
              exact hS
            · obtain ⟨g12, h⟩ := gd h
              obtain ⟨r23, hc13, h⟩ := ob h
              rcases itc h with ⟨c, h⟩ | ⟨c, h⟩
              · obtain ⟨⟨I38, r39⟩, hc14, h⟩ := ob h
                have hS := zX11_fail  hS hc14
                cases h
                exact hS
              · obtain ⟨r25, hc15, h⟩ := ob h
                rcases itc h with ⟨c, h⟩ | ⟨c, h⟩
                · obtain ⟨r27, hc16, h⟩ := ob h
                  let I29 := u2 I1 4 17 r27
                  have hS := hS.setI (a := 4) (k := 17) (v := r27) ⟨by decide, by decide⟩
                  obtain ⟨R30, hc17, h⟩ := ob h
                  have hS := zX11_movePlaces  hS hc17
                  rcases itc h with ⟨c, h⟩ | ⟨c, h⟩
                  · cases h
                    exact hS
                  · obtain ⟨⟨I32, r33⟩, hc18, h⟩ := ob h
                    have hS := zX11_fail  hS hc18
                    cases h
                    exact hS
                · obtain ⟨J35, hc19, h⟩ := ob h
                  let I37 := u2 I1 4 17 x5
                  have hS := hS.setI (a := 4) (k := 17) (v := x5) ⟨by decide, by decide⟩
                  cases h
                  exact hS
theorem zX11_newCard_b24 {σ0 : Shp} {I0 : Nat → Nat → Int32} {R0 : Nat → Nat → Option Nat} {σ : Shp} {I : Nat → Nat → Int32} {R : Nat → Nat → Option Nat} {s0 : Nat} {s1 : Nat} {s2 : Int32} {s3 : Nat} {s4 : Nat} {σ9 : Shp} {I9 : Nat → Nat → Int32} {R9 : Nat → Nat → Option Nat} {r9 : Option Nat} (hS : Sk2 σ0 I0 R0 σ I R) (h : gX11_newCard_b24 σ I R s0 s1 s2 s3 s4 = some (σ9, I9, R9, r9)) : Sk2 σ0 I0 R0 σ9 I9 R9 := by
  unfold gX11_newCard_b24 at h
  obtain ⟨g1, h⟩ := gd h
  obtain ⟨⟨I6, R7⟩, hc2, h⟩ := ob h
  have hS := zX10_init  hS hc2
  obtain ⟨g3, h⟩ := gd h
  let I10 := u2 I6 s0 4 (I6 4 16)
  have hS := hS.setI (a := s0) (k := 4) (v := (I6 4 16)) (hS.ne (by assumption))
  let I11 := u2 I10 4 16 ((I10 4 16) + (1 : Int32))
  have hS := hS.setI (a := 4) (k := 16) (v := ((I10 4 16) + (1 : Int32))) ⟨by decide, by decide⟩
  cases h
  exact hS
theorem zX11_newCard_b20 {σ0 : Shp} {I0 : Nat → Nat → Int32} {R0 : Nat → Nat → Option Nat} {σ : Shp} {I : Nat → Nat → Int32} {R : Nat → Nat → Option Nat} {s0 : Nat} {s1 : Nat} {s2 : Int32} {s3 : Nat} {σ9 : Shp} {I9 : Nat → Nat → Int32} {R9 : Nat → Nat → Option Nat} {r9 : Option Nat} (hS : Sk2 σ0 I0 R0 σ I R) (h : gX11_newCard_b20 σ I R s0 s1 s2 s3 = some (σ9, I9, R9, r9)) : Sk2 σ0 I0 R0 σ9 I9 R9 := by
  unfold gX11_newCard_b20 at h
  let σ4 := mkA σ 26 (Int32.toNatClampNeg (2 : Int32))
  have hS := hS.mkA (t := 26) (n := (Int32.toNatClampNeg (2 : Int32)))
  exact zX11_newCard_b24  hS h
theorem zX11_newCard_b13 {σ0 : Shp} {I0 : Nat → Nat → Int32} {R0 : Nat → Nat → Option Nat} {σ : Shp} {I : Nat → Nat → Int32} {R : Nat → Nat → Option Nat} {s0 : Nat} {σ9 : Shp} {I9 : Nat → Nat → Int32} {R9 : Nat → Nat → Option Nat} {r9 : Option Nat} (hS : Sk2 σ0 I0 R0 σ I R) (h : gX11_newCard_b13 σ I R s0 = some (σ9, I9, R9, r9)) : Sk2 σ0 I0 R0 σ9 I9 R9 := by
  unfold gX11_newCard_b13 at h
  let σ3 := mkA σ 21 (Int32.toNatClampNeg (8 : Int32))
  have hS := hS.mkA (t := 21) (n := (Int32.toNatClampNeg (8 : Int32)))
  exact zX11_newCard_b20  hS h
theorem zX11_newCard {σ0 : Shp} {I0 : Nat → Nat → Int32} {R0 : Nat → Nat → Option Nat} {σ : Shp} {I : Nat → Nat → Int32} {R : Nat → Nat → Option Nat} {σ9 : Shp} {I9 : Nat → Nat → Int32} {R9 : Nat → Nat → Option Nat} {r9 : Option Nat} (hS : Sk2 σ0 I0 R0 σ I R) (h : gX11_newCard σ I R = some (σ9, I9, R9, r9)) : Sk2 σ0 I0 R0 σ9 I9 R9 := by
  unfold gX11_newCard at h
  let I1 := u2 I 4 12 ((I 4 12) + (1 : Int32))
  have hS := hS.setI (a := 4) (k := 12) (v := ((I 4 12) + (1 : Int32))) ⟨by decide, by decide⟩
  let σ2 := mkO σ 11 9
  have hS := hS.mkO (t := 11) (n := 9)
  exact zX11_newCard_b13  hS h
theorem zX11_copied_b157 {σ0 : Shp} {I0 : Nat → Nat → Int32} {R0 : Nat → Nat → Option Nat} {fr : (Shp) → (Nat → Nat → Int32) → (Nat → Nat → Int64) → (Nat → Nat → Option Nat) → (Option Nat) → (Int32) → (Int32) → Option ((Shp) × (Nat → Nat → Int32) × (Nat → Nat → Int64) × (Nat → Nat → Option Nat) × (Option Nat))} {q120 : (Shp) → (Nat → Nat → Int32) → (Nat → Nat → Int64) → (Nat → Nat → Option Nat) → (Option Nat) → (Int32) → (Int32) → (Option Nat) → (Int32) → (Option ((Shp) × (Nat → Nat → Int32) × (Nat → Nat → Int64) × (Nat → Nat → Option Nat) × (Option Nat)))} {σ : Shp} {I : Nat → Nat → Int32} {J : Nat → Nat → Int64} {R : Nat → Nat → Option Nat} {x1 : Option Nat} {x2 : Int32} {x3 : Int32} {x4 : Option Nat} {x5 : Int32} {s0 : Nat} {s1 : Int32} {s2 : Option Nat} {σ9 : Shp} {I9 : Nat → Nat → Int32} {J9 : Nat → Nat → Int64} {R9 : Nat → Nat → Option Nat} {r9 : Option Nat} (hfr : ∀ (σ : Shp) (I : Nat → Nat → Int32) (J : Nat → Nat → Int64) (R : Nat → Nat → Option Nat) (x1 : Option Nat) (x2 : Int32) (x3 : Int32) (σ9 : Shp) (I9 : Nat → Nat → Int32) (J9 : Nat → Nat → Int64) (R9 : Nat → Nat → Option Nat) (r9 : Option Nat), Sk2 σ0 I0 R0 σ I R → fr σ I J R x1 x2 x3 = some (σ9, I9, J9, R9, r9) → Sk2 σ0 I0 R0 σ9 I9 R9) (hq120 : ∀ (σ : Shp) (I : Nat → Nat → Int32) (J : Nat → Nat → Int64) (R : Nat → Nat → Option Nat) (x1 : Option Nat) (x2 : Int32) (x3 : Int32) (x4 : Option Nat) (x5 : Int32), Sk2 σ0 I0 R0 σ I R → q120 σ I J R x1 x2 x3 x4 x5 = some (σ9, I9, J9, R9, r9) → Sk2 σ0 I0 R0 σ9 I9 R9) (hS : Sk2 σ0 I0 R0 σ I R) (h : gX11_copied_b157 fr q120 σ I J R x1 x2 x3 x4 x5 s0 s1 s2 = some (σ9, I9, J9, R9, r9)) : Sk2 σ0 I0 R0 σ9 I9 R9 := by
  unfold gX11_copied_b157 at h
  obtain ⟨g1, h⟩ := gd h
  obtain ⟨g2, h⟩ := gd h
  obtain ⟨g3, h⟩ := gd h
  let R39 := u2 R s0 (Int32.toNatClampNeg s1) s2
  have hS := hS.setR (a := s0) (k := (Int32.toNatClampNeg s1)) (v := s2) (by first | exact Or.inl (by assumption) | exact Or.inr (by assumption))
  let v40 := x5 + (1 : Int32)
  exact hq120 _ _ _ _ _ _ _ _ _ hS h
theorem zX11_copied_l120 {σ0 : Shp} {I0 : Nat → Nat → Int32} {R0 : Nat → Nat → Option Nat} {fr : (Shp) → (Nat → Nat → Int32) → (Nat → Nat → Int64) → (Nat → Nat → Option Nat) → (Option Nat) → (Int32) → (Int32) → Option ((Shp) × (Nat → Nat → Int32) × (Nat → Nat → Int64) × (Nat → Nat → Option Nat) × (Option Nat))} {σ9 : Shp} {I9 : Nat → Nat → Int32} {J9 : Nat → Nat → Int64} {R9 : Nat → Nat → Option Nat} {r9 : Option Nat} (hfr : ∀ (σ : Shp) (I : Nat → Nat → Int32) (J : Nat → Nat → Int64) (R : Nat → Nat → Option Nat) (x1 : Option Nat) (x2 : Int32) (x3 : Int32) (σ9 : Shp) (I9 : Nat → Nat → Int32) (J9 : Nat → Nat → Int64) (R9 : Nat → Nat → Option Nat) (r9 : Option Nat), Sk2 σ0 I0 R0 σ I R → fr σ I J R x1 x2 x3 = some (σ9, I9, J9, R9, r9) → Sk2 σ0 I0 R0 σ9 I9 R9) : ∀ (n : Nat) (σ : Shp) (I : Nat → Nat → Int32) (J : Nat → Nat → Int64) (R : Nat → Nat → Option Nat) (x1 : Option Nat) (x2 : Int32) (x3 : Int32) (x4 : Option Nat) (x5 : Int32), Sk2 σ0 I0 R0 σ I R → gX11_copied_l120 fr n σ I J R x1 x2 x3 x4 x5 = some (σ9, I9, J9, R9, r9) → Sk2 σ0 I0 R0 σ9 I9 R9 := by
  intro n
  induction n with
  | zero =>
    intro σ I J R x1 x2 x3 x4 x5 hS h
    have h : none = some _ := h
    cases h
  | succ n ih =>
    intro σ I J R x1 x2 x3 x4 x5 hS h
    rw [gX11_copied_l120] at h
    obtain ⟨a12, hc1, h⟩ := ob h
    obtain ⟨g2, h⟩ := gd h
    obtain ⟨a14, hc3, h⟩ := ob h
    obtain ⟨g4, h⟩ := gd h
    rcases itc h with ⟨c, h⟩ | ⟨c, h⟩
    · cases h
      exact hS
    · rcases itc h with ⟨c, h⟩ | ⟨c, h⟩
      · obtain ⟨a16, hc5, h⟩ := ob h
        obtain ⟨g6, h⟩ := gd h
        obtain ⟨a18, hc7, h⟩ := ob h
        obtain ⟨g8, h⟩ := gd h
        obtain ⟨g9, h⟩ := gd h
        obtain ⟨g10, h⟩ := gd h
        obtain ⟨g11, h⟩ := gd h
        let R23 := u2 R a14 (Int32.toNatClampNeg x5) (R a18 (Int32.toNatClampNeg x5))
        have hS := hS.setR (a := a14) (k := (Int32.toNatClampNeg x5)) (v := (R a18 (Int32.toNatClampNeg x5))) (by first | exact Or.inl (by assumption) | exact Or.inr (by assumption))
        let v24 := x5 + (1 : Int32)
        exact ih _ _ _ _ _ _ _ _ _ hS h
      · obtain ⟨a25, hc12, h⟩ := ob h
        obtain ⟨g13, h⟩ := gd h
        obtain ⟨a27, hc14, h⟩ := ob h
        obtain ⟨g15, h⟩ := gd h
        obtain ⟨g16, h⟩ := gd h
        obtain ⟨⟨σ30, I31, J32, R33, r34⟩, hc17, h⟩ := ob h
        have hS := hfr _ _ _ _ _ _ _ _ _ _ _ _ hS hc17
        exact zX11_copied_b157 hfr ih hS h
theorem zX11_copied_b115 {σ0 : Shp} {I0 : Nat → Nat → Int32} {R0 : Nat → Nat → Option Nat} {fr : (Shp) → (Nat → Nat → Int32) → (Nat → Nat → Int64) → (Nat → Nat → Option Nat) → (Option Nat) → (Int32) → (Int32) → Option ((Shp) × (Nat → Nat → Int32) × (Nat → Nat → Int64) × (Nat → Nat → Option Nat) × (Option Nat))} {σ : Shp} {I : Nat → Nat → Int32} {J : Nat → Nat → Int64} {R : Nat → Nat → Option Nat} {x1 : Option Nat} {x2 : Int32} {x3 : Int32} {s0 : Option Nat} {σ9 : Shp} {I9 : Nat → Nat → Int32} {J9 : Nat → Nat → Int64} {R9 : Nat → Nat → Option Nat} {r9 : Option Nat} (hfr : ∀ (σ : Shp) (I : Nat → Nat → Int32) (J : Nat → Nat → Int64) (R : Nat → Nat → Option Nat) (x1 : Option Nat) (x2 : Int32) (x3 : Int32) (σ9 : Shp) (I9 : Nat → Nat → Int32) (J9 : Nat → Nat → Int64) (R9 : Nat → Nat → Option Nat) (r9 : Option Nat), Sk2 σ0 I0 R0 σ I R → fr σ I J R x1 x2 x3 = some (σ9, I9, J9, R9, r9) → Sk2 σ0 I0 R0 σ9 I9 R9) (hS : Sk2 σ0 I0 R0 σ I R) (h : gX11_copied_b115 fr σ I J R x1 x2 x3 s0 = some (σ9, I9, J9, R9, r9)) : Sk2 σ0 I0 R0 σ9 I9 R9 := by
  unfold gX11_copied_b115 at h
  exact zX11_copied_l120 hfr _ _ _ _ _ _ _ _ _ _ hS h
theorem zX11_copied_b71 {σ0 : Shp} {I0 : Nat → Nat → Int32} {R0 : Nat → Nat → Option Nat} {fr : (Shp) → (Nat → Nat → Int32) → (Nat → Nat → Int64) → (Nat → Nat → Option Nat) → (Option Nat) → (Int32) → (Int32) → Option ((Shp) × (Nat → Nat → Int32) × (Nat → Nat → Int64) × (Nat → Nat → Option Nat) × (Option Nat))} {σ : Shp} {I : Nat → Nat → Int32} {J : Nat → Nat → Int64} {R : Nat → Nat → Option Nat} {x1 : Option Nat} {s0 : Option Nat} {σ9 : Shp} {I9 : Nat → Nat → Int32} {J9 : Nat → Nat → Int64} {R9 : Nat → Nat → Option Nat} {r9 : Option Nat} (hfr : ∀ (σ : Shp) (I : Nat → Nat → Int32) (J : Nat → Nat → Int64) (R : Nat → Nat → Option Nat) (x1 : Option Nat) (x2 : Int32) (x3 : Int32) (σ9 : Shp) (I9 : Nat → Nat → Int32) (J9 : Nat → Nat → Int64) (R9 : Nat → Nat → Option Nat) (r9 : Option Nat), Sk2 σ0 I0 R0 σ I R → fr σ I J R x1 x2 x3 = some (σ9, I9, J9, R9, r9) → Sk2 σ0 I0 R0 σ9 I9 R9) (hS : Sk2 σ0 I0 R0 σ I R) (h : gX11_copied_b71 fr σ I J R x1 s0 = some (σ9, I9, J9, R9, r9)) : Sk2 σ0 I0 R0 σ9 I9 R9 := by
  unfold gX11_copied_b71 at h
  obtain ⟨a46, hc1, h⟩ := ob h
  obtain ⟨g2, h⟩ := gd h
  obtain ⟨a48, hc3, h⟩ := ob h
  obtain ⟨g4, h⟩ := gd h
  obtain ⟨J50, hc5, h⟩ := ob h
  obtain ⟨a52, hc6, h⟩ := ob h
  obtain ⟨g7, h⟩ := gd h
  obtain ⟨R54, hc8, h⟩ := ob h
  have hS := zX11_movePlaces  hS hc8
  cases h
  exact hS
theorem zX11_copied_b40 {σ0 : Shp} {I0 : Nat → Nat → Int32} {R0 : Nat → Nat → Option Nat} {fr : (Shp) → (Nat → Nat → Int32) → (Nat → Nat → Int64) → (Nat → Nat → Option Nat) → (Option Nat) → (Int32) → (Int32) → Option ((Shp) × (Nat → Nat → Int32) × (Nat → Nat → Int64) × (Nat → Nat → Option Nat) × (Option Nat))} {σ : Shp} {I : Nat → Nat → Int32} {J : Nat → Nat → Int64} {R : Nat → Nat → Option Nat} {x1 : Option Nat} {s0 : Option Nat} {σ9 : Shp} {I9 : Nat → Nat → Int32} {J9 : Nat → Nat → Int64} {R9 : Nat → Nat → Option Nat} {r9 : Option Nat} (hfr : ∀ (σ : Shp) (I : Nat → Nat → Int32) (J : Nat → Nat → Int64) (R : Nat → Nat → Option Nat) (x1 : Option Nat) (x2 : Int32) (x3 : Int32) (σ9 : Shp) (I9 : Nat → Nat → Int32) (J9 : Nat → Nat → Int64) (R9 : Nat → Nat → Option Nat) (r9 : Option Nat), Sk2 σ0 I0 R0 σ I R → fr σ I J R x1 x2 x3 = some (σ9, I9, J9, R9, r9) → Sk2 σ0 I0 R0 σ9 I9 R9) (hS : Sk2 σ0 I0 R0 σ I R) (h : gX11_copied_b40 fr σ I J R x1 s0 = some (σ9, I9, J9, R9, r9)) : Sk2 σ0 I0 R0 σ9 I9 R9 := by
  unfold gX11_copied_b40 at h
  obtain ⟨a63, hc1, h⟩ := ob h
  obtain ⟨g2, h⟩ := gd h
  obtain ⟨a65, hc3, h⟩ := ob h
  obtain ⟨g4, h⟩ := gd h
  obtain ⟨J67, hc5, h⟩ := ob h
  cases h
  exact hS
theorem zX11_copied {σ0 : Shp} {I0 : Nat → Nat → Int32} {R0 : Nat → Nat → Option Nat} : ∀ (n : Nat) (σ : Shp) (I : Nat → Nat → Int32) (J : Nat → Nat → Int64) (R : Nat → Nat → Option Nat) (x1 : Option Nat) (x2 : Int32) (x3 : Int32) (σ9 : Shp) (I9 : Nat → Nat → Int32) (J9 : Nat → Nat → Int64) (R9 : Nat → Nat → Option Nat) (r9 : Option Nat), Sk2 σ0 I0 R0 σ I R → gX11_copied n σ I J R x1 x2 x3 = some (σ9, I9, J9, R9, r9) → Sk2 σ0 I0 R0 σ9 I9 R9 := by
  intro n
  induction n with
  | zero =>
    intro σ I J R x1 x2 x3 σ9 I9 J9 R9 r9 hS h
    have h : none = some _ := h
    cases h
  | succ n ih =>
    intro σ I J R x1 x2 x3 σ9 I9 J9 R9 r9 hS h
    rw [gX11_copied] at h
    rcases onl_c h with ⟨ea1, h⟩ | ⟨a1, ha1, h⟩
    · cases h
      exact hS
    · obtain ⟨g2, h⟩ := gd h
      rcases itc h with ⟨c, h⟩ | ⟨c, h⟩
      · cases h
        exact hS
      · rcases itc h with ⟨c, h⟩ | ⟨c, h⟩
        · obtain ⟨r3, hc3, h⟩ := ob h
          rcases itc h with ⟨c, h⟩ | ⟨c, h⟩
          · rcases itc h with ⟨c, h⟩ | ⟨c, h⟩
            · obtain ⟨⟨σ41, I42, R43, r44⟩, hc4, h⟩ := ob h
              have hS := zX11_newCard  hS hc4
              exact zX11_copied_b71 (fun _ _ _ _ _ _ _ _ _ _ _ _ a b => ih _ _ _ _ _ _ _ _ _ _ _ _ a b) hS h
            · obtain ⟨a5, hc5, h⟩ := ob h
              obtain ⟨g6, h⟩ := gd h
              obtain ⟨⟨σ7, I8, R9, r10⟩, hc7, h⟩ := ob h
              have hS := zX11_newPlaces  hS hc7
              exact zX11_copied_b115 (fun _ _ _ _ _ _ _ _ _ _ _ _ a b => ih _ _ _ _ _ _ _ _ _ _ _ _ a b) hS h
          · obtain ⟨a56, hc8, h⟩ := ob h
            obtain ⟨g9, h⟩ := gd h
            obtain ⟨⟨σ58, I59, R60, r61⟩, hc10, h⟩ := ob h
            have hS := zX11_newRow  hS hc10
            exact zX11_copied_b40 (fun _ _ _ _ _ _ _ _ _ _ _ _ a b => ih _ _ _ _ _ _ _ _ _ _ _ _ a b) hS h
        · cases h
          exact hS
theorem zX11_copy_b44 {σ0 : Shp} {I0 : Nat → Nat → Int32} {R0 : Nat → Nat → Option Nat} {σ : Shp} {I : Nat → Nat → Int32} {J : Nat → Nat → Int64} {R : Nat → Nat → Option Nat} {s0 : Nat} {s1 : Int32} {s2 : Option Nat} {σ9 : Shp} {I9 : Nat → Nat → Int32} {J9 : Nat → Nat → Int64} {R9 : Nat → Nat → Option Nat} {i9 : Int32} (hS : Sk2 σ0 I0 R0 σ I R) (h : gX11_copy_b44 σ I J R s0 s1 s2 = some (σ9, I9, J9, R9, i9)) : Sk2 σ0 I0 R0 σ9 I9 R9 := by
  unfold gX11_copy_b44 at h
  obtain ⟨g1, h⟩ := gd h
  obtain ⟨g2, h⟩ := gd h
  obtain ⟨g3, h⟩ := gd h
  let R13 := u2 R s0 (Int32.toNatClampNeg s1) s2
  have hS := hS.setR (a := s0) (k := (Int32.toNatClampNeg s1)) (v := s2) (by first | exact Or.inl (by assumption) | exact Or.inr (by assumption))
  cases h
  exact hS
theorem zX11_copy {σ0 : Shp} {I0 : Nat → Nat → Int32} {R0 : Nat → Nat → Option Nat} {σ : Shp} {I : Nat → Nat → Int32} {J : Nat → Nat → Int64} {R : Nat → Nat → Option Nat} {x1 : Int32} {x2 : Int32} {x3 : Int32} {σ9 : Shp} {I9 : Nat → Nat → Int32} {J9 : Nat → Nat → Int64} {R9 : Nat → Nat → Option Nat} {i9 : Int32} (hS : Sk2 σ0 I0 R0 σ I R) (h : gX11_copy σ I J R x1 x2 x3 = some (σ9, I9, J9, R9, i9)) : Sk2 σ0 I0 R0 σ9 I9 R9 := by
  unfold gX11_copy at h
  rcases itc h with ⟨c, h⟩ | ⟨c, h⟩
  · cases h
    exact hS
  · rcases itc h with ⟨c, h⟩ | ⟨c, h⟩
    · cases h
      exact hS
    · obtain ⟨r1, hc1, h⟩ := ob h
      rcases itc h with ⟨c, h⟩ | ⟨c, h⟩
      · obtain ⟨g2, h⟩ := gd h
        obtain ⟨⟨σ4, I5, J6, R7, r8⟩, hc3, h⟩ := ob h
        have hS := zX11_copied  _ _ _ _ _ _ _ _ _ _ _ _ _ hS hc3
        exact zX11_copy_b44  hS h
      · cases h
        exact hS
theorem zX11_size {σ0 : Shp} {I0 : Nat → Nat → Int32} {R0 : Nat → Nat → Option Nat} {σ : Shp} {I : Nat → Nat → Int32} {R : Nat → Nat → Option Nat} {x1 : Int32} {x2 : Int32} {I9 : Nat → Nat → Int32} {i9 : Int32} (hS : Sk2 σ0 I0 R0 σ I R) (h : gX11_size σ I R x1 x2 = some (I9, i9)) : Sk2 σ0 I0 R0 σ I9 R := by
  unfold gX11_size at h
  rcases itc h with ⟨c, h⟩ | ⟨c, h⟩
  · cases h
    exact hS
  · rcases itc h with ⟨c, h⟩ | ⟨c, h⟩
    · cases h
      exact hS
    · rcases itc h with ⟨c, h⟩ | ⟨c, h⟩
      · obtain ⟨g1, h⟩ := gd h
        let v2 := (R 6 (Int32.toNatClampNeg x1))
        rcases onl_c h with ⟨ea2, h⟩ | ⟨a3, ha2, h⟩
        · obtain ⟨⟨I4, r5⟩, hc3, h⟩ := ob h
          have hS := zX11_fail  hS hc3
          cases h
          exact hS
        · obtain ⟨r7, hc4, h⟩ := ob h
          rcases itc h with ⟨c, h⟩ | ⟨c, h⟩
          · obtain ⟨g5, h⟩ := gd h
            rcases itc h with ⟨c, h⟩ | ⟨c, h⟩
            · obtain ⟨⟨I20, r21⟩, hc6, h⟩ := ob h
              have hS := zX11_fail  hS hc6
              cases h
              exact hS
            · rcases itc h with ⟨c, h⟩ | ⟨c, h⟩
              · obtain ⟨r18, hc7, h⟩ := ob h
                cases h
                exact hS
              · obtain ⟨r16, hc8, h⟩ := ob h
                cases h
                exact hS
          · rcases itc h with ⟨c, h⟩ | ⟨c, h⟩
            · obtain ⟨g9, h⟩ := gd h
              obtain ⟨r13, hc10, h⟩ := ob h
              cases h
              exact hS
            · obtain ⟨g11, h⟩ := gd h
              obtain ⟨r10, hc12, h⟩ := ob h
              cases h
              exact hS
      · cases h
        exact hS
theorem zX11_plant_b207 {σ0 : Shp} {I0 : Nat → Nat → Int32} {R0 : Nat → Nat → Option Nat} {σ : Shp} {I : Nat → Nat → Int32} {R : Nat → Nat → Option Nat} {x1 : Int32} {x2 : Int32} {x3 : Int32} {x4 : Int32} {x7 : Option Nat} {σ9 : Shp} {I9 : Nat → Nat → Int32} {R9 : Nat → Nat → Option Nat} {i9 : Int32} (hS : Sk2 σ0 I0 R0 σ I R) (h : gX11_plant_b207 σ I R x1 x2 x3 x4 x7 = some (σ9, I9, R9, i9)) : Sk2 σ0 I0 R0 σ9 I9 R9 := by
  unfold gX11_plant_b207 at h
  obtain ⟨a9, hc1, h⟩ := ob h
  obtain ⟨g2, h⟩ := gd h
  let I11 := u2 I a9 3 x2
  have hS := hS.setI (a := a9) (k := 3) (v := x2) (hS.ne (by assumption))
  let I12 := u2 I11 a9 5 x3
  have hS := hS.setI (a := a9) (k := 5) (v := x3) (hS.ne (by assumption))
  let I13 := u2 I12 a9 6 x4
  have hS := hS.setI (a := a9) (k := 6) (v := x4) (hS.ne (by assumption))
  let I14 := u2 I13 a9 4 (I13 4 15)
  have hS := hS.setI (a := a9) (k := 4) (v := (I13 4 15)) (hS.ne (by assumption))
  let I15 := u2 I14 4 15 ((I14 4 15) + (1 : Int32))
  have hS := hS.setI (a := 4) (k := 15) (v := ((I14 4 15) + (1 : Int32))) ⟨by decide, by decide⟩
  let I16 := u2 I15 4 12 ((I15 4 12) + (1 : Int32))
  have hS := hS.setI (a := 4) (k := 12) (v := ((I15 4 12) + (1 : Int32))) ⟨by decide, by decide⟩
  obtain ⟨g3, h⟩ := gd h
  let R18 := u2 R 6 (Int32.toNatClampNeg x1) (some a9)
  have hS := hS.setR (a := 6) (k := (Int32.toNatClampNeg x1)) (v := (some a9)) (Or.inl (kq6 hS.1))
  cases h
  exact hS
theorem zX11_plant_b75 {σ0 : Shp} {I0 : Nat → Nat → Int32} {R0 : Nat → Nat → Option Nat} {σ : Shp} {I : Nat → Nat → Int32} {R : Nat → Nat → Option Nat} {x1 : Int32} {x2 : Int32} {x3 : Int32} {x4 : Int32} {x5 : Int32} {x6 : Int32} {s0 : Nat} {s1 : Nat} {s2 : Int32} {s3 : Nat} {s4 : Nat} {σ9 : Shp} {I9 : Nat → Nat → Int32} {R9 : Nat → Nat → Option Nat} {i9 : Int32} (hS : Sk2 σ0 I0 R0 σ I R) (h : gX11_plant_b75 σ I R x1 x2 x3 x4 x5 x6 s0 s1 s2 s3 s4 = some (σ9, I9, R9, i9)) : Sk2 σ0 I0 R0 σ9 I9 R9 := by
  unfold gX11_plant_b75 at h
  obtain ⟨g1, h⟩ := gd h
  obtain ⟨⟨I6, R7⟩, hc2, h⟩ := ob h
  have hS := zX10_init  hS hc2
  rcases itc h with ⟨c, h⟩ | ⟨c, h⟩
  · rcases itc h with ⟨c, h⟩ | ⟨c, h⟩
    · exact zX11_plant_b207  hS h
    · rcases itc h with ⟨c, h⟩ | ⟨c, h⟩
      · exact zX11_plant_b207  hS h
      · obtain ⟨g3, h⟩ := gd h
        obtain ⟨r20, hc4, h⟩ := ob h
        rcases itc h with ⟨c, h⟩ | ⟨c, h⟩
        · obtain ⟨⟨I22, r23⟩, hc5, h⟩ := ob h
          have hS := zX11_fail  hS hc5
          cases h
          exact hS
        · obtain ⟨g6, h⟩ := gd h
          obtain ⟨r26, hc7, h⟩ := ob h
          rcases itc h with ⟨c, h⟩ | ⟨c, h⟩
          · obtain ⟨⟨I44, r45⟩, hc8, h⟩ := ob h
            have hS := zX11_fail  hS hc8
            cases h
            exact hS
          · obtain ⟨r28, hc9, h⟩ := ob h
            obtain ⟨r30, hc10, h⟩ := ob h
            obtain ⟨g11, h⟩ := gd h
            let I33 := u2 I6 s0 7 ((1 : Int32) + (fXM_maxI r28 r30))
            have hS := hS.setI (a := s0) (k := 7) (v := ((1 : Int32) + (fXM_maxI r28 r30))) (hS.ne (by assumption))
            rcases itc h with ⟨c, h⟩ | ⟨c, h⟩
            · obtain ⟨a34, hc12, h⟩ := ob h
              obtain ⟨g13, h⟩ := gd h
              obtain ⟨g14, h⟩ := gd h
              obtain ⟨g15, h⟩ := gd h
              let R38 := u2 R7 a34 (Int32.toNatClampNeg (0 : Int32)) (R7 6 (Int32.toNatClampNeg x5))
              have hS := hS.setR (a := a34) (k := (Int32.toNatClampNeg (0 : Int32))) (v := (R7 6 (Int32.toNatClampNeg x5))) (by first | exact Or.inl (by assumption) | exact Or.inr (by assumption))
              obtain ⟨a39, hc16, h⟩ := ob h
              obtain ⟨g17, h⟩ := gd h
              obtain ⟨g18, h⟩ := gd h
              obtain ⟨g19, h⟩ := gd h
              let R43 := u2 R38 a39 (Int32.toNatClampNeg (1 : Int32)) (R38 6 (Int32.toNatClampNeg x6))
              have hS := hS.setR (a := a39) (k := (Int32.toNatClampNeg (1 : Int32))) (v := (R38 6 (Int32.toNatClampNeg x6))) (by first | exact Or.inl (by assumption) | exact Or.inr (by assumption))
              exact zX11_plant_b207  hS h
            · cases h
              exact hS
  · exact zX11_plant_b207  hS h
theorem zX11_plant_b56 {σ0 : Shp} {I0 : Nat → Nat → Int32} {R0 : Nat → Nat → Option Nat} {σ : Shp} {I : Nat → Nat → Int32} {R : Nat → Nat → Option Nat} {x1 : Int32} {x2 : Int32} {x3 : Int32} {x4 : Int32} {x5 : Int32} {x6 : Int32} {s0 : Nat} {σ9 : Shp} {I9 : Nat → Nat → Int32} {R9 : Nat → Nat → Option Nat} {i9 : Int32} (hS : Sk2 σ0 I0 R0 σ I R) (h : gX11_plant_b56 σ I R x1 x2 x3 x4 x5 x6 s0 = some (σ9, I9, R9, i9)) : Sk2 σ0 I0 R0 σ9 I9 R9 := by
  unfold gX11_plant_b56 at h
  rcases itc h with ⟨c, h⟩ | ⟨c, h⟩
  · let σ47 := mkA σ 26 (Int32.toNatClampNeg (2 : Int32))
    have hS := hS.mkA (t := 26) (n := (Int32.toNatClampNeg (2 : Int32)))
    exact zX11_plant_b75  hS h
  · let σ4 := mkA σ 26 (Int32.toNatClampNeg (0 : Int32))
    have hS := hS.mkA (t := 26) (n := (Int32.toNatClampNeg (0 : Int32)))
    exact zX11_plant_b75  hS h
theorem zX11_plant {σ0 : Shp} {I0 : Nat → Nat → Int32} {R0 : Nat → Nat → Option Nat} {σ : Shp} {I : Nat → Nat → Int32} {R : Nat → Nat → Option Nat} {x1 : Int32} {x2 : Int32} {x3 : Int32} {x4 : Int32} {x5 : Int32} {x6 : Int32} {σ9 : Shp} {I9 : Nat → Nat → Int32} {R9 : Nat → Nat → Option Nat} {i9 : Int32} (hS : Sk2 σ0 I0 R0 σ I R) (h : gX11_plant σ I R x1 x2 x3 x4 x5 x6 = some (σ9, I9, R9, i9)) : Sk2 σ0 I0 R0 σ9 I9 R9 := by
  unfold gX11_plant at h
  rcases itc h with ⟨c, h⟩ | ⟨c, h⟩
  · cases h
    exact hS
  · rcases itc h with ⟨c, h⟩ | ⟨c, h⟩
    · cases h
      exact hS
    · rcases itc h with ⟨c, h⟩ | ⟨c, h⟩
      · rcases itc h with ⟨c, h⟩ | ⟨c, h⟩
        · rcases itc h with ⟨c, h⟩ | ⟨c, h⟩
          · cases h
            exact hS
          · rcases itc h with ⟨c, h⟩ | ⟨c, h⟩
            · cases h
              exact hS
            · obtain ⟨r48, hc1, h⟩ := ob h
              rcases itc h with ⟨c, h⟩ | ⟨c, h⟩
              · let σ50 := mkO σ 11 9
                have hS := hS.mkO (t := 11) (n := 9)
                exact zX11_plant_b56  hS h
              · cases h
                exact hS
        · obtain ⟨r1, hc2, h⟩ := ob h
          rcases itc h with ⟨c, h⟩ | ⟨c, h⟩
          · let σ3 := mkO σ 11 9
            have hS := hS.mkO (t := 11) (n := 9)
            exact zX11_plant_b56  hS h
          · cases h
            exact hS
      · cases h
        exact hS
theorem zX11_tray_b30 {σ0 : Shp} {I0 : Nat → Nat → Int32} {R0 : Nat → Nat → Option Nat} {σ : Shp} {I : Nat → Nat → Int32} {R : Nat → Nat → Option Nat} {s0 : Int32} {σ9 : Shp} {I9 : Nat → Nat → Int32} {R9 : Nat → Nat → Option Nat} {i9 : Int32} (hS : Sk2 σ0 I0 R0 σ I R) (h : gX11_tray_b30 σ I R s0 = some (σ9, I9, R9, i9)) : Sk2 σ0 I0 R0 σ9 I9 R9 := by
  unfold gX11_tray_b30 at h
  cases h
  exact hS
theorem zX11_tray {σ0 : Shp} {I0 : Nat → Nat → Int32} {R0 : Nat → Nat → Option Nat} {σ : Shp} {I : Nat → Nat → Int32} {R : Nat → Nat → Option Nat} {x1 : Int32} {x2 : Int32} {x3 : Int32} {σ9 : Shp} {I9 : Nat → Nat → Int32} {R9 : Nat → Nat → Option Nat} {i9 : Int32} (hS : Sk2 σ0 I0 R0 σ I R) (h : gX11_tray σ I R x1 x2 x3 = some (σ9, I9, R9, i9)) : Sk2 σ0 I0 R0 σ9 I9 R9 := by
  unfold gX11_tray at h
  rcases itc h with ⟨c, h⟩ | ⟨c, h⟩
  · cases h
    exact hS
  · rcases itc h with ⟨c, h⟩ | ⟨c, h⟩
    · cases h
      exact hS
    · rcases itc h with ⟨c, h⟩ | ⟨c, h⟩
      · obtain ⟨⟨σ1, I2, R3, r4⟩, hc1, h⟩ := ob h
        have hS := zX11_intoBin  hS hc1
        exact zX11_tray_b30  hS h
      · cases h
        exact hS
theorem zX11_card_b24 {σ0 : Shp} {I0 : Nat → Nat → Int32} {R0 : Nat → Nat → Option Nat} {σ : Shp} {I : Nat → Nat → Int32} {R : Nat → Nat → Option Nat} {x1 : Int32} {s0 : Option Nat} {σ9 : Shp} {I9 : Nat → Nat → Int32} {R9 : Nat → Nat → Option Nat} {i9 : Int32} (hS : Sk2 σ0 I0 R0 σ I R) (h : gX11_card_b24 σ I R x1 s0 = some (σ9, I9, R9, i9)) : Sk2 σ0 I0 R0 σ9 I9 R9 := by
  unfold gX11_card_b24 at h
  obtain ⟨g1, h⟩ := gd h
  obtain ⟨g2, h⟩ := gd h
  let R10 := u2 R 6 (Int32.toNatClampNeg x1) s0
  have hS := hS.setR (a := 6) (k := (Int32.toNatClampNeg x1)) (v := s0) (Or.inl (kq6 hS.1))
  obtain ⟨a11, hc3, h⟩ := ob h
  obtain ⟨g4, h⟩ := gd h
  cases h
  exact hS
theorem zX11_card {σ0 : Shp} {I0 : Nat → Nat → Int32} {R0 : Nat → Nat → Option Nat} {σ : Shp} {I : Nat → Nat → Int32} {R : Nat → Nat → Option Nat} {x1 : Int32} {σ9 : Shp} {I9 : Nat → Nat → Int32} {R9 : Nat → Nat → Option Nat} {i9 : Int32} (hS : Sk2 σ0 I0 R0 σ I R) (h : gX11_card σ I R x1 = some (σ9, I9, R9, i9)) : Sk2 σ0 I0 R0 σ9 I9 R9 := by
  unfold gX11_card at h
  rcases itc h with ⟨c, h⟩ | ⟨c, h⟩
  · cases h
    exact hS
  · obtain ⟨r1, hc1, h⟩ := ob h
    rcases itc h with ⟨c, h⟩ | ⟨c, h⟩
    · obtain ⟨⟨σ3, I4, R5, r6⟩, hc2, h⟩ := ob h
      have hS := zX11_newCard  hS hc2
      exact zX11_card_b24  hS h
    · cases h
      exact hS
theorem zX11_field {σ0 : Shp} {I0 : Nat → Nat → Int32} {R0 : Nat → Nat → Option Nat} {σ : Shp} {I : Nat → Nat → Int32} {J : Nat → Nat → Int64} {R : Nat → Nat → Option Nat} {x1 : Int32} {x2 : Int32} {I9 : Nat → Nat → Int32} {j9 : Int64} (hS : Sk2 σ0 I0 R0 σ I R) (h : gX11_field σ I J R x1 x2 = some (I9, j9)) : Sk2 σ0 I0 R0 σ I9 R := by
  unfold gX11_field at h
  rcases itc h with ⟨c, h⟩ | ⟨c, h⟩
  · cases h
    exact hS
  · rcases itc h with ⟨c, h⟩ | ⟨c, h⟩
    · cases h
      exact hS
    · obtain ⟨g1, h⟩ := gd h
      let v2 := (R 6 (Int32.toNatClampNeg x1))
      obtain ⟨r3, hc2, h⟩ := ob h
      rcases itc h with ⟨c, h⟩ | ⟨c, h⟩
      · rcases onl_c h with ⟨ea3, h⟩ | ⟨a8, ha3, h⟩
        · obtain ⟨⟨I9, r10⟩, hc4, h⟩ := ob h
          have hS := zX11_fail  hS hc4
          cases h
          exact hS
        · obtain ⟨g5, h⟩ := gd h
          obtain ⟨a13, hc6, h⟩ := ob h
          obtain ⟨g7, h⟩ := gd h
          obtain ⟨g8, h⟩ := gd h
          cases h
          exact hS
      · obtain ⟨⟨I5, r6⟩, hc9, h⟩ := ob h
        have hS := zX11_fail  hS hc9
        cases h
        exact hS
theorem zX11_setField {σ0 : Shp} {I0 : Nat → Nat → Int32} {R0 : Nat → Nat → Option Nat} {σ : Shp} {I : Nat → Nat → Int32} {J : Nat → Nat → Int64} {R : Nat → Nat → Option Nat} {x1 : Int32} {x2 : Int32} {x3 : Int64} {I9 : Nat → Nat → Int32} {J9 : Nat → Nat → Int64} {i9 : Int32} (hS : Sk2 σ0 I0 R0 σ I R) (h : gX11_setField σ I J R x1 x2 x3 = some (I9, J9, i9)) : Sk2 σ0 I0 R0 σ I9 R := by
  unfold gX11_setField at h
  rcases itc h with ⟨c, h⟩ | ⟨c, h⟩
  · cases h
    exact hS
  · rcases itc h with ⟨c, h⟩ | ⟨c, h⟩
    · cases h
      exact hS
    · obtain ⟨g1, h⟩ := gd h
      let v2 := (R 6 (Int32.toNatClampNeg x1))
      obtain ⟨r3, hc2, h⟩ := ob h
      rcases itc h with ⟨c, h⟩ | ⟨c, h⟩
      · rcases onl_c h with ⟨ea3, h⟩ | ⟨a8, ha3, h⟩
        · obtain ⟨⟨I9, r10⟩, hc4, h⟩ := ob h
          have hS := zX11_fail  hS hc4
          cases h
          exact hS
        · obtain ⟨g5, h⟩ := gd h
          obtain ⟨a13, hc6, h⟩ := ob h
          obtain ⟨g7, h⟩ := gd h
          obtain ⟨g8, h⟩ := gd h
          let J16 := u2 J a13 (Int32.toNatClampNeg x2) (fX11_cellOf x2 x3)
          cases h
          exact hS
      · obtain ⟨⟨I5, r6⟩, hc9, h⟩ := ob h
        have hS := zX11_fail  hS hc9
        cases h
        exact hS
theorem zX11_lead_b61 {σ0 : Shp} {I0 : Nat → Nat → Int32} {R0 : Nat → Nat → Option Nat} {σ : Shp} {I : Nat → Nat → Int32} {R : Nat → Nat → Option Nat} {x2 : Int32} {x3 : Int32} {x4 : Option Nat} {s0 : Option Nat} {s1 : Int32} {I9 : Nat → Nat → Int32} {R9 : Nat → Nat → Option Nat} {i9 : Int32} (hS : Sk2 σ0 I0 R0 σ I R) (h : gX11_lead_b61 σ I R x2 x3 x4 s0 s1 = some (I9, R9, i9)) : Sk2 σ0 I0 R0 σ I9 R9 := by
  unfold gX11_lead_b61 at h
  obtain ⟨r9, hc1, h⟩ := ob h
  rcases itc h with ⟨c, h⟩ | ⟨c, h⟩
  · obtain ⟨⟨I22, r23⟩, hc2, h⟩ := ob h
    have hS := zX11_fail  hS hc2
    cases h
    exact hS
  · rcases onl_c h with ⟨ea3, h⟩ | ⟨a11, ha3, h⟩
    · obtain ⟨⟨I12, r13⟩, hc4, h⟩ := ob h
      have hS := zX11_fail  hS hc4
      cases h
      exact hS
    · obtain ⟨g5, h⟩ := gd h
      obtain ⟨a16, hc6, h⟩ := ob h
      obtain ⟨g7, h⟩ := gd h
      obtain ⟨g8, h⟩ := gd h
      obtain ⟨g9, h⟩ := gd h
      obtain ⟨g10, h⟩ := gd h
      let R21 := u2 R a16 (Int32.toNatClampNeg x2) (R 6 (Int32.toNatClampNeg x3))
      have hS := hS.setR (a := a16) (k := (Int32.toNatClampNeg x2)) (v := (R 6 (Int32.toNatClampNeg x3))) (by first | exact Or.inl (by assumption) | exact Or.inr (by assumption))
      cases h
      exact hS
theorem zX11_lead {σ0 : Shp} {I0 : Nat → Nat → Int32} {R0 : Nat → Nat → Option Nat} {σ : Shp} {I : Nat → Nat → Int32} {R : Nat → Nat → Option Nat} {x1 : Int32} {x2 : Int32} {x3 : Int32} {I9 : Nat → Nat → Int32} {R9 : Nat → Nat → Option Nat} {i9 : Int32} (hS : Sk2 σ0 I0 R0 σ I R) (h : gX11_lead σ I R x1 x2 x3 = some (I9, R9, i9)) : Sk2 σ0 I0 R0 σ I9 R9 := by
  unfold gX11_lead at h
  rcases itc h with ⟨c, h⟩ | ⟨c, h⟩
  · cases h
    exact hS
  · rcases itc h with ⟨c, h⟩ | ⟨c, h⟩
    · cases h
      exact hS
    · rcases itc h with ⟨c, h⟩ | ⟨c, h⟩
      · cases h
        exact hS
      · rcases itc h with ⟨c, h⟩ | ⟨c, h⟩
        · obtain ⟨g1, h⟩ := gd h
          let v2 := (R 6 (Int32.toNatClampNeg x1))
          obtain ⟨r3, hc2, h⟩ := ob h
          rcases itc h with ⟨c, h⟩ | ⟨c, h⟩
          · obtain ⟨⟨I5, r6⟩, hc3, h⟩ := ob h
            have hS := zX11_fail  hS hc3
            cases h
            exact hS
          · obtain ⟨g4, h⟩ := gd h
            rcases itc h with ⟨c, h⟩ | ⟨c, h⟩
            · exact zX11_lead_b61  hS h
            · exact zX11_lead_b61  hS h
        · cases h
          exact hS
theorem zX11_follow {σ0 : Shp} {I0 : Nat → Nat → Int32} {R0 : Nat → Nat → Option Nat} {σ : Shp} {I : Nat → Nat → Int32} {R : Nat → Nat → Option Nat} {x1 : Int32} {x2 : Int32} {x3 : Int32} {I9 : Nat → Nat → Int32} {R9 : Nat → Nat → Option Nat} {i9 : Int32} (hS : Sk2 σ0 I0 R0 σ I R) (h : gX11_follow σ I R x1 x2 x3 = some (I9, R9, i9)) : Sk2 σ0 I0 R0 σ I9 R9 := by
  unfold gX11_follow at h
  rcases itc h with ⟨c, h⟩ | ⟨c, h⟩
  · cases h
    exact hS
  · rcases itc h with ⟨c, h⟩ | ⟨c, h⟩
    · cases h
      exact hS
    · rcases itc h with ⟨c, h⟩ | ⟨c, h⟩
      · cases h
        exact hS
      · rcases itc h with ⟨c, h⟩ | ⟨c, h⟩
        · obtain ⟨g1, h⟩ := gd h
          let v2 := (R 6 (Int32.toNatClampNeg x2))
          obtain ⟨r3, hc2, h⟩ := ob h
          rcases itc h with ⟨c, h⟩ | ⟨c, h⟩
          · rcases onl_c h with ⟨ea3, h⟩ | ⟨a8, ha3, h⟩
            · obtain ⟨⟨I9, r10⟩, hc4, h⟩ := ob h
              have hS := zX11_fail  hS hc4
              cases h
              exact hS
            · obtain ⟨g5, h⟩ := gd h
              obtain ⟨a13, hc6, h⟩ := ob h
              obtain ⟨g7, h⟩ := gd h
              obtain ⟨g8, h⟩ := gd h
              obtain ⟨g9, h⟩ := gd h
              obtain ⟨g10, h⟩ := gd h
              let R18 := u2 R 6 (Int32.toNatClampNeg x1) (R a13 (Int32.toNatClampNeg x3))
              have hS := hS.setR (a := 6) (k := (Int32.toNatClampNeg x1)) (v := (R a13 (Int32.toNatClampNeg x3))) (Or.inl (kq6 hS.1))
              cases h
              exact hS
          · obtain ⟨⟨I5, r6⟩, hc11, h⟩ := ob h
            have hS := zX11_fail  hS hc11
            cases h
            exact hS
        · cases h
          exact hS
theorem zX11_led_b122 {σ0 : Shp} {I0 : Nat → Nat → Int32} {R0 : Nat → Nat → Option Nat} {σ : Shp} {R : Nat → Nat → Option Nat} {I : Nat → Nat → Int32} {x2 : Int32} {x5 : Option Nat} {x6 : Option Nat} {x7 : Int32} {I9 : Nat → Nat → Int32} {i9 : Int32} (hS : Sk2 σ0 I0 R0 σ I R) (h : gX11_led_b122 σ R I x2 x5 x6 x7 = some (I9, i9)) : Sk2 σ0 I0 R0 σ I9 R := by
  unfold gX11_led_b122 at h
  rcases itc h with ⟨c, h⟩ | ⟨c, h⟩
  · cases h
    exact hS
  · rcases itc h with ⟨c, h⟩ | ⟨c, h⟩
    · obtain ⟨a15, hc1, h⟩ := ob h
      obtain ⟨g2, h⟩ := gd h
      cases h
      exact hS
    · rcases onl_c h with ⟨ea3, h⟩ | ⟨a13, ha3, h⟩
      · cases h
        exact hS
      · obtain ⟨g4, h⟩ := gd h
        cases h
        exact hS
theorem zX11_led_l69 {σ0 : Shp} {I0 : Nat → Nat → Int32} {R0 : Nat → Nat → Option Nat} {σ : Shp} {R : Nat → Nat → Option Nat} {I9 : Nat → Nat → Int32} {i9 : Int32} : ∀ (n : Nat) (I : Nat → Nat → Int32) (x2 : Int32) (x5 : Option Nat) (x6 : Option Nat) (x7 : Int32), Sk2 σ0 I0 R0 σ I R → gX11_led_l69 σ R n I x2 x5 x6 x7 = some (I9, i9) → Sk2 σ0 I0 R0 σ I9 R := by
  intro n
  induction n with
  | zero =>
    intro I x2 x5 x6 x7 hS h
    have h : none = some _ := h
    cases h
  | succ n ih =>
    intro I x2 x5 x6 x7 hS h
    rw [gX11_led_l69] at h
    rcases itc h with ⟨c, h⟩ | ⟨c, h⟩
    · exact zX11_led_b122  hS h
    · rcases onl_c h with ⟨ea1, h⟩ | ⟨a17, ha1, h⟩
      · exact zX11_led_b122  hS h
      · obtain ⟨g2, h⟩ := gd h
        rcases itc h with ⟨c, h⟩ | ⟨c, h⟩
        · exact zX11_led_b122  hS h
        · let I19 := u2 I a17 8 (I 4 19)
          have hS := hS.setI (a := a17) (k := 8) (v := (I 4 19)) (hS.ne (by assumption))
          obtain ⟨a20, hc3, h⟩ := ob h
          obtain ⟨g4, h⟩ := gd h
          obtain ⟨g5, h⟩ := gd h
          let v23 := (R a20 (Int32.toNatClampNeg (0 : Int32)))
          let v24 := x7 + (1 : Int32)
          exact ih _ _ _ _ _ hS h
theorem zX11_led {σ0 : Shp} {I0 : Nat → Nat → Int32} {R0 : Nat → Nat → Option Nat} {σ : Shp} {I : Nat → Nat → Int32} {R : Nat → Nat → Option Nat} {x1 : Int32} {x2 : Int32} {I9 : Nat → Nat → Int32} {i9 : Int32} (hS : Sk2 σ0 I0 R0 σ I R) (h : gX11_led σ I R x1 x2 = some (I9, i9)) : Sk2 σ0 I0 R0 σ I9 R := by
  unfold gX11_led at h
  rcases itc h with ⟨c, h⟩ | ⟨c, h⟩
  · cases h
    exact hS
  · rcases itc h with ⟨c, h⟩ | ⟨c, h⟩
    · cases h
      exact hS
    · rcases itc h with ⟨c, h⟩ | ⟨c, h⟩
      · obtain ⟨g1, h⟩ := gd h
        let v2 := (R 6 (Int32.toNatClampNeg x1))
        obtain ⟨r3, hc2, h⟩ := ob h
        rcases itc h with ⟨c, h⟩ | ⟨c, h⟩
        · rcases onl_c h with ⟨ea3, h⟩ | ⟨a8, ha3, h⟩
          · obtain ⟨⟨I9, r10⟩, hc4, h⟩ := ob h
            have hS := zX11_fail  hS hc4
            cases h
            exact hS
          · let I12 := u2 I 4 19 ((I 4 19) + (1 : Int32))
            have hS := hS.setI (a := 4) (k := 19) (v := ((I 4 19) + (1 : Int32))) ⟨by decide, by decide⟩
            exact zX11_led_l69  _ _ _ _ _ _ hS h
        · obtain ⟨⟨I5, r6⟩, hc5, h⟩ := ob h
          have hS := zX11_fail  hS hc5
          cases h
          exact hS
      · cases h
        exact hS
theorem zX11_shares_b133 {σ0 : Shp} {I0 : Nat → Nat → Int32} {R0 : Nat → Nat → Option Nat} {σ : Shp} {I : Nat → Nat → Int32} {J : Nat → Nat → Int64} {R : Nat → Nat → Option Nat} {x2 : Int32} {x3 : Int32} {x6 : Int32} {s0 : Option Nat} {σ9 : Shp} {I9 : Nat → Nat → Int32} {J9 : Nat → Nat → Int64} {R9 : Nat → Nat → Option Nat} {i9 : Int32} (hS : Sk2 σ0 I0 R0 σ I R) (h : gX11_shares_b133 σ I J R x2 x3 x6 s0 = some (σ9, I9, J9, R9, i9)) : Sk2 σ0 I0 R0 σ9 I9 R9 := by
  unfold gX11_shares_b133 at h
  obtain ⟨a25, hc1, h⟩ := ob h
  obtain ⟨g2, h⟩ := gd h
  obtain ⟨a27, hc3, h⟩ := ob h
  obtain ⟨J28, hc4, h⟩ := ob h
  obtain ⟨g5, h⟩ := gd h
  let R31 := u2 R 6 (Int32.toNatClampNeg x3) (some a25)
  have hS := hS.setR (a := 6) (k := (Int32.toNatClampNeg x3)) (v := (some a25)) (Or.inl (kq6 hS.1))
  cases h
  exact hS
theorem zX11_shares_l98 {σ0 : Shp} {I0 : Nat → Nat → Int32} {R0 : Nat → Nat → Option Nat} {σ9 : Shp} {I9 : Nat → Nat → Int32} {J9 : Nat → Nat → Int64} {R9 : Nat → Nat → Option Nat} {i9 : Int32} : ∀ (n : Nat) (σ : Shp) (I : Nat → Nat → Int32) (J : Nat → Nat → Int64) (R : Nat → Nat → Option Nat) (x2 : Int32) (x3 : Int32) (x4 : Option Nat) (x6 : Int32) (x7 : Int32), Sk2 σ0 I0 R0 σ I R → gX11_shares_l98 n σ I J R x2 x3 x4 x6 x7 = some (σ9, I9, J9, R9, i9) → Sk2 σ0 I0 R0 σ9 I9 R9 := by
  intro n
  induction n with
  | zero =>
    intro σ I J R x2 x3 x4 x6 x7 hS h
    have h : none = some _ := h
    cases h
  | succ n ih =>
    intro σ I J R x2 x3 x4 x6 x7 hS h
    rw [gX11_shares_l98] at h
    rcases itc h with ⟨c, h⟩ | ⟨c, h⟩
    · obtain ⟨⟨σ20, I21, R22, r23⟩, hc1, h⟩ := ob h
      have hS := zX11_newRow  hS hc1
      exact zX11_shares_b133  hS h
    · obtain ⟨a32, hc2, h⟩ := ob h
      obtain ⟨g3, h⟩ := gd h
      obtain ⟨a34, hc4, h⟩ := ob h
      obtain ⟨g5, h⟩ := gd h
      obtain ⟨g6, h⟩ := gd h
      obtain ⟨g7, h⟩ := gd h
      let J38 := u2 J 113 (Int32.toNatClampNeg x7) (J a34 (Int32.toNatClampNeg x7))
      let v39 := x7 + (1 : Int32)
      exact ih _ _ _ _ _ _ _ _ _ hS h
theorem zX11_shares {σ0 : Shp} {I0 : Nat → Nat → Int32} {R0 : Nat → Nat → Option Nat} {σ : Shp} {I : Nat → Nat → Int32} {J : Nat → Nat → Int64} {R : Nat → Nat → Option Nat} {x1 : Int32} {x2 : Int32} {x3 : Int32} {σ9 : Shp} {I9 : Nat → Nat → Int32} {J9 : Nat → Nat → Int64} {R9 : Nat → Nat → Option Nat} {i9 : Int32} (hS : Sk2 σ0 I0 R0 σ I R) (h : gX11_shares σ I J R x1 x2 x3 = some (σ9, I9, J9, R9, i9)) : Sk2 σ0 I0 R0 σ9 I9 R9 := by
  unfold gX11_shares at h
  rcases itc h with ⟨c, h⟩ | ⟨c, h⟩
  · cases h
    exact hS
  · rcases itc h with ⟨c, h⟩ | ⟨c, h⟩
    · cases h
      exact hS
    · rcases itc h with ⟨c, h⟩ | ⟨c, h⟩
      · cases h
        exact hS
      · rcases itc h with ⟨c, h⟩ | ⟨c, h⟩
        · obtain ⟨g1, h⟩ := gd h
          let v2 := (R 6 (Int32.toNatClampNeg x1))
          obtain ⟨r3, hc2, h⟩ := ob h
          rcases itc h with ⟨c, h⟩ | ⟨c, h⟩
          · rcases onl_c h with ⟨ea3, h⟩ | ⟨a8, ha3, h⟩
            · obtain ⟨⟨I9, r10⟩, hc4, h⟩ := ob h
              have hS := zX11_fail  hS hc4
              cases h
              exact hS
            · obtain ⟨g5, h⟩ := gd h
              obtain ⟨a13, hc6, h⟩ := ob h
              obtain ⟨g7, h⟩ := gd h
              let v15 := (fXM_minI (Int32.ofNat (lnx σ a13)) (40 : Int32))
              obtain ⟨r16, hc8, h⟩ := ob h
              rcases itc h with ⟨c, h⟩ | ⟨c, h⟩
              · cases h
                exact hS
              · obtain ⟨r18, hc9, h⟩ := ob h
                rcases itc h with ⟨c, h⟩ | ⟨c, h⟩
                · exact zX11_shares_l98  _ _ _ _ _ _ _ _ _ _ hS h
                · cases h
                  exact hS
          · obtain ⟨⟨I5, r6⟩, hc10, h⟩ := ob h
            have hS := zX11_fail  hS hc10
            cases h
            exact hS
        · cases h
          exact hS
theorem zX11_compare_b95 {σ0 : Shp} {I0 : Nat → Nat → Int32} {R0 : Nat → Nat → Option Nat} {σ : Shp} {J : Nat → Nat → Int64} {R : Nat → Nat → Option Nat} {I : Nat → Nat → Int32} {x1 : Int32} {x3 : Int32} {x5 : Int32} {x6 : Option Nat} {x7 : Option Nat} {x8 : Int32} {I9 : Nat → Nat → Int32} {i9 : Int32} (hS : Sk2 σ0 I0 R0 σ I R) (h : gX11_compare_b95 σ J R I x1 x3 x5 x6 x7 x8 = some (I9, i9)) : Sk2 σ0 I0 R0 σ I9 R := by
  unfold gX11_compare_b95 at h
  rcases itc h with ⟨c, h⟩ | ⟨c, h⟩
  · rcases onl_c h with ⟨ea1, h⟩ | ⟨a17, ha1, h⟩
    · obtain ⟨⟨I18, r19⟩, hc2, h⟩ := ob h
      have hS := zX11_fail  hS hc2
      cases h
      exact hS
    · rcases onl_c h with ⟨ea3, h⟩ | ⟨a21, ha3, h⟩
      · obtain ⟨⟨I22, r23⟩, hc4, h⟩ := ob h
        have hS := zX11_fail  hS hc4
        cases h
        exact hS
      · obtain ⟨g5, h⟩ := gd h
        obtain ⟨a26, hc6, h⟩ := ob h
        obtain ⟨g7, h⟩ := gd h
        obtain ⟨g8, h⟩ := gd h
        obtain ⟨g9, h⟩ := gd h
        obtain ⟨a30, hc10, h⟩ := ob h
        obtain ⟨g11, h⟩ := gd h
        obtain ⟨g12, h⟩ := gd h
        cases h
        exact hS
  · obtain ⟨⟨I14, r15⟩, hc13, h⟩ := ob h
    have hS := zX11_fail  hS hc13
    cases h
    exact hS
theorem zX11_compare_b12 {σ0 : Shp} {I0 : Nat → Nat → Int32} {R0 : Nat → Nat → Option Nat} {σ : Shp} {J : Nat → Nat → Int64} {R : Nat → Nat → Option Nat} {I : Nat → Nat → Int32} {x1 : Int32} {x2 : Int32} {x3 : Int32} {x4 : Int32} {x5 : Int32} {I9 : Nat → Nat → Int32} {i9 : Int32} (hS : Sk2 σ0 I0 R0 σ I R) (h : gX11_compare_b12 σ J R I x1 x2 x3 x4 x5 = some (I9, i9)) : Sk2 σ0 I0 R0 σ I9 R := by
  unfold gX11_compare_b12 at h
  rcases itc h with ⟨c, h⟩ | ⟨c, h⟩
  · cases h
    exact hS
  · rcases itc h with ⟨c, h⟩ | ⟨c, h⟩
    · cases h
      exact hS
    · obtain ⟨g1, h⟩ := gd h
      let v2 := (R 6 (Int32.toNatClampNeg x2))
      obtain ⟨g2, h⟩ := gd h
      let v4 := (R 6 (Int32.toNatClampNeg x4))
      obtain ⟨r5, hc3, h⟩ := ob h
      rcases itc h with ⟨c, h⟩ | ⟨c, h⟩
      · obtain ⟨⟨I7, r8⟩, hc4, h⟩ := ob h
        have hS := zX11_fail  hS hc4
        cases h
        exact hS
      · obtain ⟨r10, hc5, h⟩ := ob h
        rcases itc h with ⟨c, h⟩ | ⟨c, h⟩
        · obtain ⟨⟨I35, r36⟩, hc6, h⟩ := ob h
          have hS := zX11_fail  hS hc6
          cases h
          exact hS
        · obtain ⟨r12, hc7, h⟩ := ob h
          rcases itc h with ⟨c, h⟩ | ⟨c, h⟩
          · obtain ⟨r33, hc8, h⟩ := ob h
            exact zX11_compare_b95  hS h
          · exact zX11_compare_b95  hS h
theorem zX11_compare {σ0 : Shp} {I0 : Nat → Nat → Int32} {R0 : Nat → Nat → Option Nat} {σ : Shp} {I : Nat → Nat → Int32} {J : Nat → Nat → Int64} {R : Nat → Nat → Option Nat} {x1 : Int32} {x2 : Int32} {x3 : Int32} {x4 : Int32} {x5 : Int32} {I9 : Nat → Nat → Int32} {i9 : Int32} (hS : Sk2 σ0 I0 R0 σ I R) (h : gX11_compare σ I J R x1 x2 x3 x4 x5 = some (I9, i9)) : Sk2 σ0 I0 R0 σ I9 R := by
  unfold gX11_compare at h
  rcases itc h with ⟨c, h⟩ | ⟨c, h⟩
  · exact zX11_compare_b12  hS h
  · rcases itc h with ⟨c, h⟩ | ⟨c, h⟩
    · exact zX11_compare_b12  hS h
    · cases h
      exact hS
theorem zX11_real_b12 {σ0 : Shp} {I0 : Nat → Nat → Int32} {R0 : Nat → Nat → Option Nat} {σ : Shp} {R : Nat → Nat → Option Nat} {I : Nat → Nat → Int32} {J : Nat → Nat → Int64} {x1 : Int32} {x2 : Int32} {x3 : Int32} {I9 : Nat → Nat → Int32} {J9 : Nat → Nat → Int64} {j9 : Int64} (hS : Sk2 σ0 I0 R0 σ I R) (h : gX11_real_b12 σ R I J x1 x2 x3 = some (I9, J9, j9)) : Sk2 σ0 I0 R0 σ I9 R := by
  unfold gX11_real_b12 at h
  rcases itc h with ⟨c, h⟩ | ⟨c, h⟩
  · cases h
    exact hS
  · rcases itc h with ⟨c, h⟩ | ⟨c, h⟩
    · cases h
      exact hS
    · rcases itc h with ⟨c, h⟩ | ⟨c, h⟩
      · obtain ⟨g1, h⟩ := gd h
        let v2 := (R 6 (Int32.toNatClampNeg x2))
        obtain ⟨r3, hc2, h⟩ := ob h
        rcases itc h with ⟨c, h⟩ | ⟨c, h⟩
        · rcases onl_c h with ⟨ea3, h⟩ | ⟨a8, ha3, h⟩
          · obtain ⟨⟨I9, r10⟩, hc4, h⟩ := ob h
            have hS := zX11_fail  hS hc4
            cases h
            exact hS
          · obtain ⟨⟨J12, r13⟩, hc5, h⟩ := ob h
            rcases itc h with ⟨c, h⟩ | ⟨c, h⟩
            · cases h
              exact hS
            · rcases itc h with ⟨c, h⟩ | ⟨c, h⟩
              · obtain ⟨r22, hc6, h⟩ := ob h
                cases h
                exact hS
              · obtain ⟨J15, hc7, h⟩ := ob h
                rcases itc h with ⟨c, h⟩ | ⟨c, h⟩
                · obtain ⟨g8, h⟩ := gd h
                  cases h
                  exact hS
                · rcases itc h with ⟨c, h⟩ | ⟨c, h⟩
                  · let v19 := (r13 - (1 : Int32))
                    obtain ⟨g9, h⟩ := gd h
                    cases h
                    exact hS
                  · let v17 := ((r13 - (1 : Int32)) / (2 : Int32))
                    obtain ⟨g10, h⟩ := gd h
                    cases h
                    exact hS
        · obtain ⟨⟨I5, r6⟩, hc11, h⟩ := ob h
          have hS := zX11_fail  hS hc11
          cases h
          exact hS
      · cases h
        exact hS
theorem zX11_real {σ0 : Shp} {I0 : Nat → Nat → Int32} {R0 : Nat → Nat → Option Nat} {σ : Shp} {I : Nat → Nat → Int32} {J : Nat → Nat → Int64} {R : Nat → Nat → Option Nat} {x1 : Int32} {x2 : Int32} {x3 : Int32} {I9 : Nat → Nat → Int32} {J9 : Nat → Nat → Int64} {j9 : Int64} (hS : Sk2 σ0 I0 R0 σ I R) (h : gX11_real σ I J R x1 x2 x3 = some (I9, J9, j9)) : Sk2 σ0 I0 R0 σ I9 R := by
  unfold gX11_real at h
  rcases itc h with ⟨c, h⟩ | ⟨c, h⟩
  · exact zX11_real_b12  hS h
  · rcases itc h with ⟨c, h⟩ | ⟨c, h⟩
    · exact zX11_real_b12  hS h
    · cases h
      exact hS
theorem zX11_wholeMean_l62 {σ0 : Shp} {I0 : Nat → Nat → Int32} {R0 : Nat → Nat → Option Nat} {σ : Shp} {J : Nat → Nat → Int64} {R : Nat → Nat → Option Nat} {I9 : Nat → Nat → Int32} {i9 : Int32} : ∀ (n : Nat) (I : Nat → Nat → Int32) (x2 : Option Nat) (x4 : Int32) (x5 : Int64) (x7 : Int32), Sk2 σ0 I0 R0 σ I R → gX11_wholeMean_l62 σ J R n I x2 x4 x5 x7 = some (I9, i9) → Sk2 σ0 I0 R0 σ I9 R := by
  intro n
  induction n with
  | zero =>
    intro I x2 x4 x5 x7 hS h
    have h : none = some _ := h
    cases h
  | succ n ih =>
    intro I x2 x4 x5 x7 hS h
    rw [gX11_wholeMean_l62] at h
    rcases itc h with ⟨c, h⟩ | ⟨c, h⟩
    · obtain ⟨g1, h⟩ := gd h
      let I17 := u2 I 4 18 (Int64.toInt32 (x5 / (Int32.toInt64 x4)))
      have hS := hS.setI (a := 4) (k := 18) (v := (Int64.toInt32 (x5 / (Int32.toInt64 x4)))) ⟨by decide, by decide⟩
      cases h
      exact hS
    · obtain ⟨a18, hc2, h⟩ := ob h
      obtain ⟨g3, h⟩ := gd h
      obtain ⟨a20, hc4, h⟩ := ob h
      obtain ⟨g5, h⟩ := gd h
      obtain ⟨g6, h⟩ := gd h
      let v23 := (x5 + (J a20 (Int32.toNatClampNeg x7)))
      let v24 := x7 + (1 : Int32)
      exact ih _ _ _ _ _ hS h
theorem zX11_wholeMean {σ0 : Shp} {I0 : Nat → Nat → Int32} {R0 : Nat → Nat → Option Nat} {σ : Shp} {I : Nat → Nat → Int32} {J : Nat → Nat → Int64} {R : Nat → Nat → Option Nat} {x1 : Int32} {I9 : Nat → Nat → Int32} {i9 : Int32} (hS : Sk2 σ0 I0 R0 σ I R) (h : gX11_wholeMean σ I J R x1 = some (I9, i9)) : Sk2 σ0 I0 R0 σ I9 R := by
  unfold gX11_wholeMean at h
  rcases itc h with ⟨c, h⟩ | ⟨c, h⟩
  · cases h
    exact hS
  · obtain ⟨g1, h⟩ := gd h
    let v2 := (R 6 (Int32.toNatClampNeg x1))
    obtain ⟨r3, hc2, h⟩ := ob h
    rcases itc h with ⟨c, h⟩ | ⟨c, h⟩
    · rcases onl_c h with ⟨ea3, h⟩ | ⟨a8, ha3, h⟩
      · obtain ⟨⟨I9, r10⟩, hc4, h⟩ := ob h
        have hS := zX11_fail  hS hc4
        cases h
        exact hS
      · obtain ⟨g5, h⟩ := gd h
        obtain ⟨a13, hc6, h⟩ := ob h
        obtain ⟨g7, h⟩ := gd h
        let v15 := (Int32.ofNat (lnx σ a13))
        rcases itc h with ⟨c, h⟩ | ⟨c, h⟩
        · obtain ⟨⟨I25, r26⟩, hc8, h⟩ := ob h
          have hS := zX11_fail  hS hc8
          cases h
          exact hS
        · exact zX11_wholeMean_l62  _ _ _ _ _ _ hS h
    · obtain ⟨⟨I5, r6⟩, hc9, h⟩ := ob h
      have hS := zX11_fail  hS hc9
      cases h
      exact hS
