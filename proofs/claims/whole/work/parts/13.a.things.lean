/-! ===== the things: a ghost table tells, for the number t of a thing, 0 its code, 1 its form, 2 its size, 3 where it starts, 5 and 6 what it leads to, 7 its kind, 8 its depth; 4 the places; 9 the bins; 10 how many things, cells, places ===== -/
def cC (f c : Nat) : Nat := if f ≤ 7 ∨ f = 17 then c + 1 else 0
def cP (f c : Nat) : Nat := if f ≤ 7 ∨ f = 17 then c + 2 else c + 1
def cW (f : Nat) : Nat := if f ≤ 7 ∨ f = 17 then 3 else 2
def nC (f z : Nat) : Nat := if f ≤ 7 then z else if f = 17 then 8 else 0
def nP (f z k : Nat) : Nat := if f ≤ 7 then 0 else if f ≤ 15 then z else if f = 17 then 2 else if k = 2 then 2 else 0
def pn (G : Nat → Nat → Nat) (t : Nat) : Option Nat := if t = 0 then none else some (G 0 t)
def plFor (f g : Nat) : Prop := (f = 8 → g = 3) ∧ (f = 9 → g = 4) ∧ (f = 10 → g = 7) ∧ (f = 11 → g = 9) ∧ (12 ≤ f → g = 16)
/-- counts -/
def T0 (G : Nat → Nat → Nat) (I : Nat → Nat → Int32) : Prop := I 114 0 = Int32.ofInt (G 10 0) ∧ I 114 7 = Int32.ofInt (G 10 1) ∧ I 114 9 = Int32.ofInt (G 10 2) ∧ G 10 0 ≤ 4050 ∧ G 10 1 ≤ 40 * G 10 0 ∧ G 10 2 ≤ 10 * G 10 0
/-- bins -/
def T1 (G : Nat → Nat → Nat) (I : Nat → Nat → Int32) (R : Nat → Nat → Option Nat) : Prop := ∀ b : Nat, b < 16 → I 115 b = Int32.ofInt (G 9 b) ∧ G 9 b ≤ G 10 0 ∧ R 6 b = pn G (G 9 b)
/-- shape of a thing -/
def TA (G : Nat → Nat → Nat) (σ : Shp) (R : Nat → Nat → Option Nat) (t : Nat) : Prop :=
  kdx σ (G 0 t) = 11 ∧ R (G 0 t) 1 = some (cC (G 1 t) (G 0 t)) ∧ R (G 0 t) 2 = some (cP (G 1 t) (G 0 t)) ∧ kdx σ (cC (G 1 t) (G 0 t)) = 21 ∧ kdx σ (cP (G 1 t) (G 0 t)) = 26 ∧ lnx σ (cC (G 1 t) (G 0 t)) = nC (G 1 t) (G 2 t) ∧ lnx σ (cP (G 1 t) (G 0 t)) = nP (G 1 t) (G 2 t) (G 7 t)
/-- numbers of a thing -/
def TB (G : Nat → Nat → Nat) (I : Nat → Nat → Int32) (t : Nat) : Prop :=
  I (G 0 t) 0 = Int32.ofInt (G 1 t) ∧ I 116 t = Int32.ofInt (G 1 t) ∧ I 117 t = Int32.ofInt (G 2 t) ∧ (G 1 t ≠ 16 → I 118 t = Int32.ofInt (G 3 t)) ∧ I (G 0 t) 3 = Int32.ofInt (G 7 t) ∧ I 122 t = Int32.ofInt (G 7 t) ∧ I (G 0 t) 4 = I 121 t ∧ I (G 0 t) 5 = I 123 t ∧ I (G 0 t) 6 = I 124 t ∧ I (G 0 t) 7 = Int32.ofInt (G 8 t) ∧ I 127 t = Int32.ofInt (G 8 t) ∧ I (G 0 t) 8 = I 133 t
/-- cells of a thing -/
def TC (G : Nat → Nat → Nat) (J : Nat → Nat → Int64) (t : Nat) : Prop := ∀ k : Nat, k < nC (G 1 t) (G 2 t) → J (cC (G 1 t) (G 0 t)) k = J 119 (G 3 t + k)
/-- places of a thing -/
def TD (G : Nat → Nat → Nat) (I : Nat → Nat → Int32) (R : Nat → Nat → Option Nat) (t : Nat) : Prop := 8 ≤ G 1 t → G 1 t ≤ 15 → ∀ k : Nat, k < G 2 t → R (cP (G 1 t) (G 0 t)) k = pn G (G 4 (G 3 t + k)) ∧ I 120 (G 3 t + k) = Int32.ofInt (G 4 (G 3 t + k)) ∧ G 4 (G 3 t + k) ≤ G 10 0 ∧ (G 4 (G 3 t + k) ≠ 0 → plFor (G 1 t) (G 1 (G 4 (G 3 t + k))))
/-- what a plant or a card leads to -/
def TE (G : Nat → Nat → Nat) (I : Nat → Nat → Int32) (R : Nat → Nat → Option Nat) (t : Nat) : Prop :=
  (G 1 t = 17 ∨ (G 1 t = 16 ∧ G 7 t = 2) → R (cP (G 1 t) (G 0 t)) 0 = pn G (G 5 t) ∧ R (cP (G 1 t) (G 0 t)) 1 = pn G (G 6 t)) ∧ I 125 t = Int32.ofInt (G 5 t) ∧ I 126 t = Int32.ofInt (G 6 t) ∧ G 5 t ≤ G 10 0 ∧ G 6 t ≤ G 10 0 ∧
  (G 1 t = 17 → (G 5 t ≠ 0 → G 1 (G 5 t) = 17) ∧ (G 6 t ≠ 0 → G 1 (G 6 t) = 16)) ∧
  (G 1 t = 16 → G 7 t = 2 → 1 ≤ G 8 t ∧ (G 5 t ≠ 0 → G 1 (G 5 t) = 16 ∧ G 8 (G 5 t) < G 8 t) ∧ (G 6 t ≠ 0 → G 1 (G 6 t) = 16 ∧ G 8 (G 6 t) < G 8 t))
/-- of the ghost table alone -/
def TS (G : Nat → Nat → Nat) (σ : Shp) : Prop :=
  (∀ t : Nat, 1 ≤ t → t ≤ G 10 0 → 202 ≤ G 0 t ∧ G 0 t + cW (G 1 t) ≤ nxx σ + 4 ∧ G 1 t ≤ 17 ∧ G 7 t ≤ 5 ∧ G 8 t ≤ 4 ∧ (G 1 t ≤ 7 → G 2 t ≤ 40) ∧ (8 ≤ G 1 t → G 2 t ≤ 10) ∧ (G 1 t = 11 → G 2 t ≤ 4) ∧ (16 ≤ G 1 t → G 2 t = 0) ∧ (G 1 t ≤ 7 ∨ G 1 t = 17 → G 3 t + nC (G 1 t) (G 2 t) ≤ G 10 1) ∧ (8 ≤ G 1 t → G 1 t ≤ 15 → G 3 t + G 2 t ≤ G 10 2)) ∧
  (∀ t u : Nat, 1 ≤ t → t < u → u ≤ G 10 0 → G 0 t + cW (G 1 t) ≤ G 0 u ∧ (G 1 t ≤ 7 ∨ G 1 t = 17 → G 1 u ≤ 7 ∨ G 1 u = 17 → G 3 t + nC (G 1 t) (G 2 t) ≤ G 3 u) ∧ (8 ≤ G 1 t → G 1 t ≤ 15 → 8 ≤ G 1 u → G 1 u ≤ 15 → G 3 t + G 2 t ≤ G 3 u))
/-- what is not made yet -/
def TF (G : Nat → Nat → Nat) (σ : Shp) (I : Nat → Nat → Int32) (J : Nat → Nat → Int64) (R : Nat → Nat → Option Nat) : Prop :=
  (∀ t : Nat, (t = 0 ∨ G 10 0 < t) → t < 4100 → I 121 t = 0 ∧ I 122 t = 0 ∧ I 123 t = 0 ∧ I 124 t = 0 ∧ I 125 t = 0 ∧ I 126 t = 0 ∧ I 127 t = 0 ∧ (t ≠ 0 → I 133 t = 0)) ∧
  (∀ k : Nat, G 10 1 ≤ k → k < 164000 → J 119 k = 0) ∧ (∀ k : Nat, G 10 2 ≤ k → k < 41000 → I 120 k = 0) ∧
  (∀ a : Nat, nxx σ + 4 ≤ a → a < 1000000 → kdx σ a = 0 ∧ ∀ k : Nat, I a k = 0 ∧ J a k = 0 ∧ R a k = none)
def TG (G : Nat → Nat → Nat) (σ : Shp) (I : Nat → Nat → Int32) (J : Nat → Nat → Int64) (R : Nat → Nat → Option Nat) : Prop :=
  T0 G I ∧ T1 G I R ∧ (∀ t : Nat, 1 ≤ t → t ≤ G 10 0 → TA G σ R t) ∧ (∀ t : Nat, 1 ≤ t → t ≤ G 10 0 → TB G I t) ∧ (∀ t : Nat, 1 ≤ t → t ≤ G 10 0 → TC G J t) ∧ (∀ t : Nat, 1 ≤ t → t ≤ G 10 0 → TD G I R t) ∧ (∀ t : Nat, 1 ≤ t → t ≤ G 10 0 → TE G I R t) ∧ TS G σ ∧ TF G σ I J R
def GThing (σ : Shp) (I : Nat → Nat → Int32) (J : Nat → Nat → Int64) (R : Nat → Nat → Option Nat) : Prop := ∃ G : Nat → Nat → Nat, TG G σ I J R
def KThI : List (Nat × Nat) := [(115, 119), (120, 128), (133, 134), (1000000, 1000001), (1000007, 1000008), (1000009, 1000010)]
theorem TG.t0 {G : Nat → Nat → Nat} {σ : Shp} {I : Nat → Nat → Int32} {J : Nat → Nat → Int64} {R : Nat → Nat → Option Nat} (h : TG G σ I J R) : T0 G I := h.1
theorem TG.t1 {G : Nat → Nat → Nat} {σ : Shp} {I : Nat → Nat → Int32} {J : Nat → Nat → Int64} {R : Nat → Nat → Option Nat} (h : TG G σ I J R) : T1 G I R := h.2.1
theorem TG.ta {G : Nat → Nat → Nat} {σ : Shp} {I : Nat → Nat → Int32} {J : Nat → Nat → Int64} {R : Nat → Nat → Option Nat} (h : TG G σ I J R) : ∀ t : Nat, 1 ≤ t → t ≤ G 10 0 → TA G σ R t := h.2.2.1
theorem TG.tb {G : Nat → Nat → Nat} {σ : Shp} {I : Nat → Nat → Int32} {J : Nat → Nat → Int64} {R : Nat → Nat → Option Nat} (h : TG G σ I J R) : ∀ t : Nat, 1 ≤ t → t ≤ G 10 0 → TB G I t := h.2.2.2.1
theorem TG.tc {G : Nat → Nat → Nat} {σ : Shp} {I : Nat → Nat → Int32} {J : Nat → Nat → Int64} {R : Nat → Nat → Option Nat} (h : TG G σ I J R) : ∀ t : Nat, 1 ≤ t → t ≤ G 10 0 → TC G J t := h.2.2.2.2.1
theorem TG.td {G : Nat → Nat → Nat} {σ : Shp} {I : Nat → Nat → Int32} {J : Nat → Nat → Int64} {R : Nat → Nat → Option Nat} (h : TG G σ I J R) : ∀ t : Nat, 1 ≤ t → t ≤ G 10 0 → TD G I R t := h.2.2.2.2.2.1
theorem TG.te {G : Nat → Nat → Nat} {σ : Shp} {I : Nat → Nat → Int32} {J : Nat → Nat → Int64} {R : Nat → Nat → Option Nat} (h : TG G σ I J R) : ∀ t : Nat, 1 ≤ t → t ≤ G 10 0 → TE G I R t := h.2.2.2.2.2.2.1
theorem TG.ts {G : Nat → Nat → Nat} {σ : Shp} {I : Nat → Nat → Int32} {J : Nat → Nat → Int64} {R : Nat → Nat → Option Nat} (h : TG G σ I J R) : TS G σ := h.2.2.2.2.2.2.2.1
theorem TG.tf {G : Nat → Nat → Nat} {σ : Shp} {I : Nat → Nat → Int32} {J : Nat → Nat → Int64} {R : Nat → Nat → Option Nat} (h : TG G σ I J R) : TF G σ I J R := h.2.2.2.2.2.2.2.2
theorem pn_0 {G : Nat → Nat → Nat} : pn G 0 = none := rfl
theorem pn_1 {G : Nat → Nat → Nat} {t : Nat} (h : 1 ≤ t) : pn G t = some (G 0 t) := if_neg (by omega)
/-- what a change of other cells leaves -/
theorem TG.kp {G : Nat → Nat → Nat} {σ : Shp} {I I' : Nat → Nat → Int32} {J J' : Nat → Nat → Int64} {R R' : Nat → Nat → Option Nat} (h : TG G σ I J R) (kI : Kp KThI I I') (dI : ∀ a, 202 ≤ a → a < 1000000 → kdx σ a = 11 → I' a = I a) (fI : ∀ a, nxx σ + 4 ≤ a → a < 1000000 → I' a = I a) (kJ : J' 119 = J 119) (dJ : ∀ a, 202 ≤ a → a < 1000000 → J' a = J a) (kR : R' 6 = R 6) (dR : ∀ a, 202 ≤ a → a < 1000000 → R' a = R a) (hn : 198 ≤ nxx σ ∧ nxx σ ≤ 900000) : TG G σ I' J' R' := by
  have cCd : ∀ t, 1 ≤ t → t ≤ G 10 0 → nC (G 1 t) (G 2 t) ≠ 0 → 202 ≤ cC (G 1 t) (G 0 t) ∧ cC (G 1 t) (G 0 t) < 1000000 := by
    intro t h1 h2 h3
    have := (h.ts.1 t h1 h2).1
    have q0 := (h.ts.1 t h1 h2).2.1
    unfold cC
    unfold cW at q0
    split
    · rename_i q
      rw [if_pos q] at q0
      omega
    · rename_i q
      unfold nC at h3
      split at h3
      · omega
      · split at h3
        · omega
        · omega
  have cPd : ∀ t, 1 ≤ t → t ≤ G 10 0 → 202 ≤ cP (G 1 t) (G 0 t) ∧ cP (G 1 t) (G 0 t) < 1000000 := by
    intro t h1 h2
    have := (h.ts.1 t h1 h2).1
    have q0 := (h.ts.1 t h1 h2).2.1
    unfold cP
    unfold cW at q0
    split
    · rename_i q
      rw [if_pos q] at q0
      omega
    · rename_i q
      rw [if_neg q] at q0
      omega
  have cGd : ∀ t, 1 ≤ t → t ≤ G 10 0 → 202 ≤ G 0 t ∧ G 0 t < 1000000 := fun t h1 h2 => ⟨(h.ts.1 t h1 h2).1, by
    have q0 := (h.ts.1 t h1 h2).2.1
    unfold cW at q0
    split at q0 <;> omega⟩
  refine ⟨?_, fun b hb => ?_, fun t h1 h2 => ?_, fun t h1 h2 => ?_, fun t h1 h2 => ?_, fun t h1 h2 => ?_, fun t h1 h2 => ?_, h.ts, ?_⟩
  · obtain ⟨a, b, c, d⟩ := h.t0
    exact ⟨by rw [kI 114 0 rfl]; exact a, by rw [kI 114 7 rfl]; exact b, by rw [kI 114 9 rfl]; exact c, d⟩
  · obtain ⟨a, b, c⟩ := h.t1 b hb
    exact ⟨by rw [kI 115 _ rfl]; exact a, b, by rw [kR]; exact c⟩
  · obtain ⟨a, b, c, d⟩ := h.ta t h1 h2
    exact ⟨a, by rw [dR _ (cGd t h1 h2).1 (cGd t h1 h2).2]; exact b, by rw [dR _ (cGd t h1 h2).1 (cGd t h1 h2).2]; exact c, d⟩
  · obtain ⟨a1, a2, a3, a4, a5, a6, a7, a8, a9, a10, a11, a12⟩ := h.tb t h1 h2
    have k := dI _ (cGd t h1 h2).1 (cGd t h1 h2).2 (h.ta t h1 h2).1
    refine ⟨by rw [k]; exact a1, by rw [kI 116 _ rfl]; exact a2, by rw [kI 117 _ rfl]; exact a3, fun q => by rw [kI 118 _ rfl]; exact a4 q, by rw [k]; exact a5, by rw [kI 122 _ rfl]; exact a6, by rw [k, kI 121 _ rfl]; exact a7, by rw [k, kI 123 _ rfl]; exact a8, by rw [k, kI 124 _ rfl]; exact a9, by rw [k]; exact a10, by rw [kI 127 _ rfl]; exact a11, by rw [k, kI 133 _ rfl]; exact a12⟩
  · intro k hk
    rw [kJ, dJ _ (cCd t h1 h2 (by omega)).1 (cCd t h1 h2 (by omega)).2]
    exact h.tc t h1 h2 k hk
  · intro q1 q2 k hk
    obtain ⟨a, b, c, d⟩ := h.td t h1 h2 q1 q2 k hk
    exact ⟨by rw [dR _ (cPd t h1 h2).1 (cPd t h1 h2).2]; exact a, by rw [kI 120 _ rfl]; exact b, c, d⟩
  · obtain ⟨a, b, c, d⟩ := h.te t h1 h2
    exact ⟨fun q => by rw [dR _ (cPd t h1 h2).1 (cPd t h1 h2).2]; exact a q, by rw [kI 125 _ rfl]; exact b, by rw [kI 126 _ rfl]; exact c, d⟩
  · obtain ⟨a, b, c, d⟩ := h.tf
    refine ⟨fun t h1 h2 => ?_, fun k h1 h2 => by rw [kJ]; exact b k h1 h2, fun k h1 h2 => by rw [kI 120 _ rfl]; exact c k h1 h2, fun q hq hq9 => ?_⟩
    · rw [kI 121 _ rfl, kI 122 _ rfl, kI 123 _ rfl, kI 124 _ rfl, kI 125 _ rfl, kI 126 _ rfl, kI 127 _ rfl, kI 133 _ rfl]
      exact a t h1 h2
    · obtain ⟨d1, d2⟩ := d q hq hq9
      refine ⟨d1, fun k => ?_⟩
      rw [fI q hq hq9, dJ q (by omega) hq9, dR q (by omega) hq9]; exact d2 k
theorem TG.bin {G : Nat → Nat → Nat} {σ : Shp} {I : Nat → Nat → Int32} {J : Nat → Nat → Int64} {R : Nat → Nat → Option Nat} (h : TG G σ I J R) {b : Int} (hb : 0 ≤ b ∧ b ≤ 15) : (G 9 b.toNat = 0 ∧ I 115 b.toNat = Int32.ofInt 0 ∧ R 6 b.toNat = none) ∨ ∃ t : Nat, 1 ≤ t ∧ t ≤ G 10 0 ∧ t ≤ 4050 ∧ G 9 b.toNat = t ∧ I 115 b.toNat = Int32.ofInt (t : Int) ∧ R 6 b.toNat = some (G 0 t) := by
  obtain ⟨a, c, d⟩ := h.t1 b.toNat (by omega)
  have := h.t0.2.2.2.1
  by_cases q : G 9 b.toNat = 0
  · rw [q] at a d
    exact Or.inl ⟨q, a, d⟩
  · rw [pn_1 (by omega)] at d
    exact Or.inr ⟨G 9 b.toNat, by omega, c, by omega, rfl, a, d⟩
/-- what the calls on things may write -/
def WT : List (Nat × Nat) := [(6, 7), (115, 129), (133, 134), (202, 1000000), (1000000, 1000003), (1000007, 1000008), (1000009, 1000010), (1000018, 1000019), (1000019, 1000020), (1000020, 1000021), (1000022, 1000023), (1000025, 1000026), (1000032, 1000033), (2000012, 2000020)]
def TOut (σ : Shp) (I I' : Nat → Nat → Int32) (J J' : Nat → Nat → Int64) (R R' : Nat → Nat → Option Nat) : Prop := GScal I' ∧ GThing σ I' J' R' ∧ Ag WT I I' ∧ Ag WT J J' ∧ Ag WT R R'
theorem Ag.far {α : Type} {W : List (Nat × Nat)} {f g : Nat → Nat → α} (h : Ag W f g) (d : disW [(202, 1000000)] W = true) (a : Nat) (h1 : 202 ≤ a) (h2 : a < 1000000) : g a = f a := by
  funext k
  refine h a k ?_
  rw [key_o (by omega) (by omega)]
  exact disW_no d (inW_iff.mpr ⟨(202, 1000000), List.mem_singleton.mpr rfl, h1, h2⟩)
theorem Ag.at1 {α : Type} {W : List (Nat × Nat)} {f g : Nat → Nat → α} (h : Ag W f g) (c : Nat) (q1 : c ≠ 114) (q2 : c ≠ 4) (d : inW W c = false) : g c = f c := by
  funext k
  refine h c k ?_
  rw [key_o q1 q2]
  exact d
/-- a change of numbers apart from the things -/
theorem TG.ag {G : Nat → Nat → Nat} {σ : Shp} {W : List (Nat × Nat)} {I I' : Nat → Nat → Int32} {J J' : Nat → Nat → Int64} {R R' : Nat → Nat → Option Nat} (h : TG G σ I J R) (hn : 198 ≤ nxx σ ∧ nxx σ ≤ 900000) (a : Ag W I I') (b : Ag W J J') (c : Ag W R R') (d1 : disW [(202, 1000000)] W = true) (d2 : disW KThI W = true) (d3 : inW W 119 = false) (d4 : inW W 6 = false) : TG G σ I' J' R' :=
  h.kp (a.kp d2) (fun q h1 h2 _ => a.far d1 q h1 h2) (fun q h1 h2 => a.far d1 q (by omega) h2) (b.at1 119 (by decide) (by decide) d3) (fun q h1 h2 => b.far d1 q h1 h2) (c.at1 6 (by decide) (by decide) d4) (fun q h1 h2 => c.far d1 q h1 h2) hn
