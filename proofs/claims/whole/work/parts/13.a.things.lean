/-! ===== the things: a ghost table G tells, for the number t of a thing, 0 its code, 1 its form, 2 its size, 3 where it starts, 5 and 6 what it leads to, 7 its kind, 8 its depth; 4 the places; 9 the bins; 10 how many things, cells, places. C: the cells. N: for t, 4 its number, 5 and 6 its two numbers, 8 the latest walk ===== -/
def cC (f c : Nat) : Nat := if f ≤ 7 ∨ f = 17 then c + 1 else 0
def cP (f c : Nat) : Nat := if f ≤ 7 ∨ f = 17 then c + 2 else c + 1
def cW (f : Nat) : Nat := if f ≤ 7 ∨ f = 17 then 3 else 2
def nC (f z : Nat) : Nat := if f ≤ 7 then z else if f = 17 then 8 else 0
def nP (f z k : Nat) : Nat := if f ≤ 7 then 0 else if f ≤ 15 then z else if f = 17 then 2 else if k = 2 then 2 else 0
def pn (G : Nat → Nat → Nat) (t : Nat) : Option Nat := if t = 0 then none else some (G 0 t)
def plFor (f g : Nat) : Prop := (f = 8 → g = 3) ∧ (f = 9 → g = 4) ∧ (f = 10 → g = 7) ∧ (f = 11 → g = 9) ∧ (12 ≤ f → g = 16)
/-- the model's part -/
def TMt (G : Nat → Nat → Nat) (N : Nat → Nat → Int32) (I : Nat → Nat → Int32) (t : Nat) : Prop := I 116 t = Int32.ofInt (G 1 t) ∧ I 117 t = Int32.ofInt (G 2 t) ∧ I 118 t = Int32.ofInt (G 3 t) ∧ I 121 t = N 4 t ∧ I 122 t = Int32.ofInt (G 7 t) ∧ I 123 t = N 5 t ∧ I 124 t = N 6 t ∧ I 125 t = Int32.ofInt (G 5 t) ∧ I 126 t = Int32.ofInt (G 6 t) ∧ I 127 t = Int32.ofInt (G 8 t) ∧ I 133 t = N 8 t
def TMo (G : Nat → Nat → Nat) (C : Nat → Int64) (N : Nat → Nat → Int32) (I : Nat → Nat → Int32) (J : Nat → Nat → Int64) : Prop :=
  (I 114 0 = Int32.ofInt (G 10 0) ∧ I 114 7 = Int32.ofInt (G 10 1) ∧ I 114 9 = Int32.ofInt (G 10 2)) ∧ (∀ b : Nat, b < 16 → I 115 b = Int32.ofInt (G 9 b)) ∧ (∀ t : Nat, t < 4100 → TMt G N I t) ∧ (∀ k : Nat, k < 164000 → J 119 k = C k) ∧ (∀ k : Nat, k < 41000 → I 120 k = Int32.ofInt (G 4 k))
/-- the class's part: a thing -/
def TA (G : Nat → Nat → Nat) (σ : Shp) (R : Nat → Nat → Option Nat) (t : Nat) : Prop :=
  kdx σ (G 0 t) = 11 ∧ R (G 0 t) 1 = some (cC (G 1 t) (G 0 t)) ∧ R (G 0 t) 2 = some (cP (G 1 t) (G 0 t)) ∧ kdx σ (cC (G 1 t) (G 0 t)) = 21 ∧ kdx σ (cP (G 1 t) (G 0 t)) = 26 ∧ lnx σ (cC (G 1 t) (G 0 t)) = nC (G 1 t) (G 2 t) ∧ lnx σ (cP (G 1 t) (G 0 t)) = nP (G 1 t) (G 2 t) (G 7 t)
def TB (G : Nat → Nat → Nat) (N : Nat → Nat → Int32) (I : Nat → Nat → Int32) (t : Nat) : Prop :=
  I (G 0 t) 0 = Int32.ofInt (G 1 t) ∧ I (G 0 t) 3 = Int32.ofInt (G 7 t) ∧ I (G 0 t) 4 = N 4 t ∧ I (G 0 t) 5 = N 5 t ∧ I (G 0 t) 6 = N 6 t ∧ I (G 0 t) 7 = Int32.ofInt (G 8 t) ∧ I (G 0 t) 8 = N 8 t
def TC (G : Nat → Nat → Nat) (C : Nat → Int64) (J : Nat → Nat → Int64) (t : Nat) : Prop := ∀ k : Nat, k < nC (G 1 t) (G 2 t) → J (cC (G 1 t) (G 0 t)) k = C (G 3 t + k)
def TD (G : Nat → Nat → Nat) (R : Nat → Nat → Option Nat) (t : Nat) : Prop := 8 ≤ G 1 t → G 1 t ≤ 15 → ∀ k : Nat, k < G 2 t → R (cP (G 1 t) (G 0 t)) k = pn G (G 4 (G 3 t + k))
def TE (G : Nat → Nat → Nat) (R : Nat → Nat → Option Nat) (t : Nat) : Prop := (G 1 t = 17 ∨ (G 1 t = 16 ∧ G 7 t = 2)) → R (cP (G 1 t) (G 0 t)) 0 = pn G (G 5 t) ∧ R (cP (G 1 t) (G 0 t)) 1 = pn G (G 6 t)
/-- codes of things: in order, apart, and made -/
def TK (G : Nat → Nat → Nat) (σ : Shp) : Prop := (∀ t : Nat, 1 ≤ t → t ≤ G 10 0 → 202 ≤ G 0 t ∧ G 0 t + cW (G 1 t) ≤ nxx σ + 4) ∧ (∀ t u : Nat, 1 ≤ t → t < u → u ≤ G 10 0 → G 0 t + cW (G 1 t) ≤ G 0 u)
/-- cells of the memory that are not made yet -/
def TF (σ : Shp) (I : Nat → Nat → Int32) (J : Nat → Nat → Int64) (R : Nat → Nat → Option Nat) : Prop := ∀ a : Nat, nxx σ + 4 ≤ a → a < 1000000 → kdx σ a = 0 ∧ ∀ k : Nat, I a k = 0 ∧ J a k = 0 ∧ R a k = none
def TCl (G : Nat → Nat → Nat) (C : Nat → Int64) (N : Nat → Nat → Int32) (σ : Shp) (I : Nat → Nat → Int32) (J : Nat → Nat → Int64) (R : Nat → Nat → Option Nat) : Prop :=
  I 4 12 = Int32.ofInt (G 10 0) ∧ (∀ b : Nat, b < 16 → R 6 b = pn G (G 9 b)) ∧ (∀ t : Nat, 1 ≤ t → t ≤ G 10 0 → TA G σ R t ∧ TB G N I t ∧ TC G C J t ∧ TD G R t ∧ TE G R t) ∧ TK G σ ∧ TF σ I J R
/-- of the ghosts alone -/
def TSt (G : Nat → Nat → Nat) (t : Nat) : Prop :=
  G 1 t ≤ 17 ∧ G 7 t ≤ 5 ∧ G 8 t ≤ 4 ∧ (G 1 t ≤ 7 → G 2 t ≤ 40) ∧ (8 ≤ G 1 t → G 2 t ≤ 10) ∧ (G 1 t = 11 → G 2 t ≤ 4) ∧ (16 ≤ G 1 t → G 2 t = 0) ∧ (G 1 t ≤ 7 ∨ G 1 t = 17 → G 3 t + nC (G 1 t) (G 2 t) ≤ G 10 1) ∧ (8 ≤ G 1 t → G 1 t ≤ 15 → G 3 t + G 2 t ≤ G 10 2) ∧
  (8 ≤ G 1 t → G 1 t ≤ 15 → ∀ k : Nat, k < G 2 t → G 4 (G 3 t + k) ≤ G 10 0 ∧ (G 4 (G 3 t + k) ≠ 0 → plFor (G 1 t) (G 1 (G 4 (G 3 t + k))))) ∧
  G 5 t ≤ G 10 0 ∧ G 6 t ≤ G 10 0 ∧ (G 1 t = 17 → (G 5 t ≠ 0 → G 1 (G 5 t) = 17) ∧ (G 6 t ≠ 0 → G 1 (G 6 t) = 16)) ∧
  (G 1 t = 16 → G 7 t = 2 → 1 ≤ G 8 t ∧ (G 5 t ≠ 0 → G 1 (G 5 t) = 16 ∧ G 8 (G 5 t) < G 8 t) ∧ (G 6 t ≠ 0 → G 1 (G 6 t) = 16 ∧ G 8 (G 6 t) < G 8 t))
def TSg (G : Nat → Nat → Nat) (C : Nat → Int64) (N : Nat → Nat → Int32) : Prop :=
  (G 10 0 ≤ 4050 ∧ G 10 1 ≤ 40 * G 10 0 ∧ G 10 2 ≤ 10 * G 10 0) ∧ (∀ b : Nat, b < 16 → G 9 b ≤ G 10 0) ∧ (∀ t : Nat, 1 ≤ t → t ≤ G 10 0 → TSt G t) ∧
  (∀ t u : Nat, 1 ≤ t → t < u → u ≤ G 10 0 → (G 1 t ≤ 7 ∨ G 1 t = 17 → G 1 u ≤ 7 ∨ G 1 u = 17 → G 3 t + nC (G 1 t) (G 2 t) ≤ G 3 u) ∧ (8 ≤ G 1 t → G 1 t ≤ 15 → 8 ≤ G 1 u → G 1 u ≤ 15 → G 3 t + G 2 t ≤ G 3 u)) ∧
  (∀ t : Nat, (t = 0 ∨ G 10 0 < t) → G 5 t = 0 ∧ G 6 t = 0 ∧ G 7 t = 0 ∧ G 8 t = 0 ∧ N 4 t = 0 ∧ N 5 t = 0 ∧ N 6 t = 0 ∧ (t ≠ 0 → N 8 t = 0)) ∧ (∀ k : Nat, G 10 1 ≤ k → C k = 0) ∧ (∀ k : Nat, G 10 2 ≤ k → G 4 k = 0) ∧ (∀ t : Nat, 1 ≤ t → t ≤ G 10 0 → G 1 t = 4 ∨ G 1 t = 6 → ∀ k : Nat, k < G 2 t → Int32.toInt64 (Int64.toInt32 (C (G 3 t + k))) = C (G 3 t + k))
def GThing (σ : Shp) (I : Nat → Nat → Int32) (J : Nat → Nat → Int64) (R : Nat → Nat → Option Nat) : Prop := ∃ (G : Nat → Nat → Nat) (C : Nat → Int64) (N : Nat → Nat → Int32), TSg G C N ∧ TCl G C N σ I J R ∧ TMo G C N I J
def KThM : List (Nat × Nat) := [(115, 119), (119, 120), (120, 128), (133, 134), (1000000, 1000001), (1000007, 1000008), (1000009, 1000010)]
theorem TMo.kp {G : Nat → Nat → Nat} {C : Nat → Int64} {N : Nat → Nat → Int32} {I I' : Nat → Nat → Int32} {J J' : Nat → Nat → Int64} (h : TMo G C N I J) (k : Kp KThM I I') (l : Kp KThM J J') : TMo G C N I' J' := by
  obtain ⟨⟨a1, a2, a3⟩, b, c, d, e⟩ := h
  refine ⟨⟨by rw [k 114 0 rfl]; exact a1, by rw [k 114 7 rfl]; exact a2, by rw [k 114 9 rfl]; exact a3⟩, fun x hx => by rw [k 115 x rfl]; exact b x hx, fun t ht => ?_, fun x hx => by rw [l 119 x rfl]; exact d x hx, fun x hx => by rw [k 120 x rfl]; exact e x hx⟩
  unfold TMt
  rw [k 116 t rfl, k 117 t rfl, k 118 t rfl, k 121 t rfl, k 122 t rfl, k 123 t rfl, k 124 t rfl, k 125 t rfl, k 126 t rfl, k 127 t rfl, k 133 t rfl]
  exact c t ht
theorem cC_of {f z c k : Nat} (h : k < nC f z) : cC f c = c + 1 ∧ (f ≤ 7 ∨ f = 17) := by
  unfold nC at h
  unfold cC
  split at h
  · exact ⟨if_pos (by omega), by omega⟩
  · split at h
    · exact ⟨if_pos (by omega), by omega⟩
    · omega
theorem cW_of {f : Nat} (h : f ≤ 7 ∨ f = 17) : cW f = 3 := if_pos h
theorem cW_ge (f : Nat) : 2 ≤ cW f := by unfold cW; split <;> omega
theorem cP_le (f c : Nat) : c + 1 ≤ cP f c ∧ cP f c + 1 ≤ c + cW f := by
  unfold cP cW
  by_cases h : f ≤ 7 ∨ f = 17
  · rw [if_pos h, if_pos h]; omega
  · rw [if_neg h, if_neg h]; omega
theorem pn_0 {G : Nat → Nat → Nat} : pn G 0 = none := rfl
theorem pn_1 {G : Nat → Nat → Nat} {t : Nat} (h : 1 ≤ t) : pn G t = some (G 0 t) := if_neg (by omega)
/-- the class's part under a change of other cells -/
theorem TCl.kp {G : Nat → Nat → Nat} {C : Nat → Int64} {N : Nat → Nat → Int32} {σ : Shp} {I I' : Nat → Nat → Int32} {J J' : Nat → Nat → Int64} {R R' : Nat → Nat → Option Nat} (h : TCl G C N σ I J R) (hn : 198 ≤ nxx σ ∧ nxx σ ≤ 900000) (k0 : I' 4 12 = I 4 12) (dI : ∀ a, 202 ≤ a → a < 1000000 → kdx σ a = 11 → I' a = I a) (fI : ∀ a, nxx σ + 4 ≤ a → a < 1000000 → I' a = I a) (dJ : ∀ a, 202 ≤ a → a < 1000000 → J' a = J a) (kR : R' 6 = R 6) (dR : ∀ a, 202 ≤ a → a < 1000000 → R' a = R a) : TCl G C N σ I' J' R' := by
  obtain ⟨h0, h1, h2, h3, h4⟩ := h
  refine ⟨by rw [k0]; exact h0, fun b hb => by rw [kR]; exact h1 b hb, fun t t1 t2 => ?_, h3, fun a ha1 ha2 => ?_⟩
  · obtain ⟨a, b, c, d, e⟩ := h2 t t1 t2
    have q := h3.1 t t1 t2
    have w := cW_ge (G 1 t)
    have cp := cP_le (G 1 t) (G 0 t)
    have e0 : R' (G 0 t) = R (G 0 t) := dR _ (by omega) (by omega)
    have ep : R' (cP (G 1 t) (G 0 t)) = R (cP (G 1 t) (G 0 t)) := dR _ (by omega) (by omega)
    have ei : I' (G 0 t) = I (G 0 t) := dI _ (by omega) (by omega) a.1
    refine ⟨?_, ?_, fun k hk => ?_, ?_, ?_⟩
    · unfold TA; rw [e0]; exact a
    · unfold TB; rw [ei]; exact b
    · have hc := cC_of (c := G 0 t) hk
      have w3 := cW_of hc.2
      rw [dJ _ (by omega) (by omega)]
      exact c k hk
    · unfold TD; rw [ep]; exact d
    · unfold TE; rw [ep]; exact e
  · obtain ⟨d1, d2⟩ := h4 a ha1 ha2
    refine ⟨d1, fun k => ?_⟩
    rw [fI a ha1 ha2, dJ a (by omega) ha2, dR a (by omega) ha2]
    exact d2 k
theorem Ag.far {α : Type} {W : List (Nat × Nat)} {f g : Nat → Nat → α} (h : Ag W f g) (d : disW [(202, 1000000)] W = true) (a : Nat) (h1 : 202 ≤ a) (h2 : a < 1000000) : g a = f a := by
  funext k
  refine h a k ?_
  rw [key_o (by omega) (by omega)]
  exact disW_no d (inW_iff.mpr ⟨(202, 1000000), List.mem_singleton.mpr rfl, h1, h2⟩)
theorem Ag.at1 {α : Type} {W : List (Nat × Nat)} {f g : Nat → Nat → α} (h : Ag W f g) (c : Nat) (q1 : c ≠ 114) (q2 : c ≠ 4) (d : inW W c = false) : g c = f c := by
  funext k
  refine h c k ?_
  rw [key_o q1 q2]
  exact d
theorem TCl.ag {G : Nat → Nat → Nat} {C : Nat → Int64} {N : Nat → Nat → Int32} {σ : Shp} {W : List (Nat × Nat)} {I I' : Nat → Nat → Int32} {J J' : Nat → Nat → Int64} {R R' : Nat → Nat → Option Nat} (h : TCl G C N σ I J R) (hn : 198 ≤ nxx σ ∧ nxx σ ≤ 900000) (a : Ag W I I') (b : Ag W J J') (c : Ag W R R') (d : disW [(6, 7), (202, 1000000), (2000012, 2000013)] W = true) : TCl G C N σ I' J' R' := by
  have d1 : disW [(202, 1000000)] W = true := by
    have := List.all_eq_true.mp d (202, 1000000) (by decide)
    show List.all [((202 : Nat), (1000000 : Nat))] _ = true
    rw [List.all_cons, this]; rfl
  refine h.kp hn (a 4 12 (disW_no d rfl)) (fun q h1 h2 _ => a.far d1 q h1 h2) (fun q h1 h2 => a.far d1 q (by omega) h2) (fun q h1 h2 => b.far d1 q h1 h2) (c.at1 6 (by decide) (by decide) (disW_no d rfl)) (fun q h1 h2 => c.far d1 q h1 h2)
/-- what the calls on things may write -/
def WT : List (Nat × Nat) := [(6, 7), (115, 129), (133, 134), (202, 1000000), (1000000, 1000003), (1000007, 1000008), (1000009, 1000010), (1000018, 1000019), (1000019, 1000020), (1000020, 1000021), (1000022, 1000023), (1000025, 1000026), (1000032, 1000033), (2000012, 2000020)]
def TOut (σ : Shp) (I I' : Nat → Nat → Int32) (J J' : Nat → Nat → Int64) (R R' : Nat → Nat → Option Nat) : Prop := GScal I' ∧ GThing σ I' J' R' ∧ Ag WT I I' ∧ Ag WT J J' ∧ Ag WT R R'
/-- a bin on both sides -/
theorem th_bin {G : Nat → Nat → Nat} {C : Nat → Int64} {N : Nat → Nat → Int32} {σ : Shp} {I : Nat → Nat → Int32} {J : Nat → Nat → Int64} {R : Nat → Nat → Option Nat} (hg : TSg G C N) (hc : TCl G C N σ I J R) (hm : TMo G C N I J) {b : Int} (hb : 0 ≤ b ∧ b ≤ 15) : (G 9 b.toNat = 0 ∧ I 115 b.toNat = Int32.ofInt 0 ∧ R 6 b.toNat = none) ∨ ∃ t : Nat, 1 ≤ t ∧ t ≤ G 10 0 ∧ t ≤ 4050 ∧ G 9 b.toNat = t ∧ I 115 b.toNat = Int32.ofInt (t : Int) ∧ R 6 b.toNat = some (G 0 t) := by
  have a := hm.2.1 b.toNat (by omega)
  have c := hg.2.1 b.toNat (by omega)
  have d := hc.2.1 b.toNat (by omega)
  have := hg.1.1
  by_cases q : G 9 b.toNat = 0
  · rw [q] at a d
    exact Or.inl ⟨q, a, d⟩
  · rw [pn_1 (by omega)] at d
    exact Or.inr ⟨G 9 b.toNat, by omega, c, by omega, rfl, a, d⟩
/-- a row on both sides -/
theorem th_row {G : Nat → Nat → Nat} {C : Nat → Int64} {N : Nat → Nat → Int32} {σ : Shp} {I : Nat → Nat → Int32} {J : Nat → Nat → Int64} {R : Nat → Nat → Option Nat} (hg : TSg G C N) (hc : TCl G C N σ I J R) (hm : TMo G C N I J) {t : Nat} (t1 : 1 ≤ t) (t2 : t ≤ G 10 0) (q : G 1 t ≤ 7) : lnx σ (G 0 t + 1) = G 2 t ∧ kdx σ (G 0 t + 1) = 21 ∧ R (G 0 t) 1 = some (G 0 t + 1) ∧ G 3 t + G 2 t ≤ 162000 ∧ G 2 t ≤ 40 ∧ nC (G 1 t) (G 2 t) = G 2 t ∧ ∀ k, k < G 2 t → J (G 0 t + 1) k = C (G 3 t + k) ∧ J 119 (G 3 t + k) = C (G 3 t + k) := by
  obtain ⟨⟨a1, a2, a3, a4, a5, a6, a7⟩, -, c, -, -⟩ := hc.2.2.1 t t1 t2
  have ec : nC (G 1 t) (G 2 t) = G 2 t := if_pos q
  have ed : cC (G 1 t) (G 0 t) = G 0 t + 1 := if_pos (Or.inl q)
  have hs := hg.2.2.1 t t1 t2
  have h10 := hs.2.2.2.2.2.2.2.1 (Or.inl q)
  have h0 := hg.1
  unfold TC at c
  rw [ec, ed] at c
  rw [ec] at h10 a6
  rw [ed] at a2 a4 a6
  have b0 : G 3 t + G 2 t ≤ 162000 := by omega
  exact ⟨a6, a4, a2, b0, hs.2.2.2.1 q, ec, fun k hk => ⟨c k hk, hm.2.2.2.1 _ (by omega)⟩⟩
