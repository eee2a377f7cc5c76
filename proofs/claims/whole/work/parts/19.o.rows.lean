/-! ===== work: what the rows are ===== -/
def NN (Q : Nat → Nat → Int) (k a b e r c : Nat) : Int :=
  match k, r with
  | 0, r => Q r c
  | 1, 0 => Q 0 c
  | 1, r + 1 => m2 (Q 0) (Q (r + 1)) a c
  | 2, 0 => m2 (Q 0) (Q 1) c b
  | 2, 1 => m2 (Q 0) (Q 1) a c
  | 2, _ + 2 => m3 (Q 0) (Q 1) (Q 2) a b c
  | _ + 3, 0 => m3 (Q 0) (Q 1) (Q 2) c b e
  | _ + 3, 1 => m3 (Q 0) (Q 1) (Q 2) a c e
  | _ + 3, _ + 2 => m3 (Q 0) (Q 1) (Q 2) a b c
def dD (Q : Nat → Nat → Int) (k a b e : Nat) : Int :=
  match k with
  | 0 => 1
  | 1 => Q 0 a
  | 2 => m2 (Q 0) (Q 1) a b
  | _ + 3 => m3 (Q 0) (Q 1) (Q 2) a b e
theorem m2s {A B : Nat → Int} (hA : RwB A) (hB : RwB B) {a b : Nat} (ha : a < 4) (hb : b < 4) : (m2 A B a b).natAbs ≤ 19602 := m2_b (X := 99) (Y := 99) (hA.1 a ha) (hB.1 a ha) (hA.1 b hb) (hB.1 b hb)
theorem m2l {A B : Nat → Int} (hA : RwB A) (hB : RwB B) {a c : Nat} (ha : a < 4) (hc : c < 8) : (m2 A B a c).natAbs ≤ 197802 ∧ (m2 A B c a).natAbs ≤ 197802 := ⟨m2_b (X := 99) (Y := 999) (hA.1 a ha) (hB.1 a ha) (hA.2 c hc) (hB.2 c hc), m2_b (X := 999) (Y := 99) (hA.2 c hc) (hB.2 c hc) (hA.1 a ha) (hB.1 a ha)⟩
theorem m3s {A B C : Nat → Int} (hA : RwB A) (hB : RwB B) (hC : RwB C) {a b c : Nat} (ha : a < 4) (hb : b < 4) (hc : c < 4) : (m3 A B C a b c).natAbs ≤ 5821794 := m3_b (X := 99) (Y := 99) (Z := 99) ⟨hA.1 a ha, hB.1 a ha, hC.1 a ha⟩ ⟨hA.1 b hb, hB.1 b hb, hC.1 b hb⟩ ⟨hA.1 c hc, hB.1 c hc, hC.1 c hc⟩
theorem m3l {A B C : Nat → Int} (hA : RwB A) (hB : RwB B) (hC : RwB C) {a b c : Nat} (ha : a < 4) (hb : b < 4) (hc : c < 8) : (m3 A B C a b c).natAbs ≤ 58747194 ∧ (m3 A B C a c b).natAbs ≤ 58747194 ∧ (m3 A B C c a b).natAbs ≤ 58747194 := ⟨m3_b (X := 99) (Y := 99) (Z := 999) ⟨hA.1 a ha, hB.1 a ha, hC.1 a ha⟩ ⟨hA.1 b hb, hB.1 b hb, hC.1 b hb⟩ ⟨hA.2 c hc, hB.2 c hc, hC.2 c hc⟩, m3_b (X := 99) (Y := 999) (Z := 99) ⟨hA.1 a ha, hB.1 a ha, hC.1 a ha⟩ ⟨hA.2 c hc, hB.2 c hc, hC.2 c hc⟩ ⟨hA.1 b hb, hB.1 b hb, hC.1 b hb⟩, m3_b (X := 999) (Y := 99) (Z := 99) ⟨hA.2 c hc, hB.2 c hc, hC.2 c hc⟩ ⟨hA.1 a ha, hB.1 a ha, hC.1 a ha⟩ ⟨hA.1 b hb, hB.1 b hb, hC.1 b hb⟩⟩
/-- what a step needs, and what it gives -/
def StN (Q : Nat → Nat → Int) (k a b e q : Nat) (N' : Nat → Nat → Int) (d' : Int) : Prop := StB (NN Q k a b e) (dD Q k a b e) k q ∧ (∀ r c, r < 3 → c < 8 → r ≠ k → NN Q k a b e r c * NN Q k a b e k q - NN Q k a b e r q * NN Q k a b e k c = dD Q k a b e * N' r c) ∧ (∀ c, c < 8 → N' k c = NN Q k a b e k c) ∧ NN Q k a b e k q = d'
theorem r3 {r : Nat} (h : r < 3) : r = 0 ∨ r = 1 ∨ r = 2 := by omega
theorem stn0 {Q : Nat → Nat → Int} (h : ∀ r, r < 3 → RwB (Q r)) {a b e q : Nat} (hq : q < 4) : StN Q 0 a b e q (NN Q 1 q b e) (dD Q 1 q b e) := by
  have h0 := h 0 (by decide)
  have h1 := h 1 (by decide)
  have h2 := h 2 (by decide)
  refine ⟨⟨fun r c hr hc _ => ?_, fun r hr _ => ?_, by show (1 : Int).natAbs ≤ 20000; decide, fun c hc => ?_, ?_⟩, fun r c hr hc hn => ?_, fun c hc => rfl, rfl⟩
  · have := (h r hr).2 c hc
    show (Q r c).natAbs ≤ 200000
    omega
  · have := (h r hr).1 q hq
    show (Q r q).natAbs ≤ 20000
    omega
  · have := h0.2 c hc
    show (Q 0 c).natAbs ≤ 60000000
    omega
  · have := h0.1 q hq
    show (Q 0 q).natAbs ≤ 6000000
    omega
  · rcases r3 hr with rfl | rfl | rfl
    · exact absurd rfl hn
    · show Q 1 c * Q 0 q - Q 1 q * Q 0 c = 1 * m2 (Q 0) (Q 1) q c
      unfold m2
      grind
    · show Q 2 c * Q 0 q - Q 2 q * Q 0 c = 1 * m2 (Q 0) (Q 2) q c
      unfold m2
      grind
theorem stn1 {Q : Nat → Nat → Int} (h : ∀ r, r < 3 → RwB (Q r)) {a b e q : Nat} (ha : a < 4) (hq : q < 4) : StN Q 1 a b e q (NN Q 2 a q e) (dD Q 2 a q e) := by
  have h0 := h 0 (by decide)
  have h1 := h 1 (by decide)
  have h2 := h 2 (by decide)
  refine ⟨⟨fun r c hr hc hn => ?_, fun r hr hn => ?_, ?_, fun c hc => ?_, ?_⟩, fun r c hr hc hn => ?_, fun c hc => rfl, rfl⟩
  · rcases r3 hr with rfl | rfl | rfl
    · have := h0.2 c hc
      show (Q 0 c).natAbs ≤ 200000
      omega
    · exact absurd rfl hn
    · have := (m2l h0 h2 ha hc).1
      show (m2 (Q 0) (Q 2) a c).natAbs ≤ 200000
      omega
  · rcases r3 hr with rfl | rfl | rfl
    · have := h0.1 q hq
      show (Q 0 q).natAbs ≤ 20000
      omega
    · exact absurd rfl hn
    · have := m2s h0 h2 ha hq
      show (m2 (Q 0) (Q 2) a q).natAbs ≤ 20000
      omega
  · have := h0.1 a ha
    show (Q 0 a).natAbs ≤ 20000
    omega
  · have := (m2l h0 h1 ha hc).1
    show (m2 (Q 0) (Q 1) a c).natAbs ≤ 60000000
    omega
  · have := m2s h0 h1 ha hq
    show (m2 (Q 0) (Q 1) a q).natAbs ≤ 6000000
    omega
  · rcases r3 hr with rfl | rfl | rfl
    · exact s12a (Q 0) (Q 1) a q c
    · exact absurd rfl hn
    · exact s12b (Q 0) (Q 1) (Q 2) a q c
theorem stn2 {Q : Nat → Nat → Int} (h : ∀ r, r < 3 → RwB (Q r)) {a b e q : Nat} (ha : a < 4) (hb : b < 4) (hq : q < 4) : StN Q 2 a b e q (NN Q 3 a b q) (dD Q 3 a b q) := by
  have h0 := h 0 (by decide)
  have h1 := h 1 (by decide)
  have h2 := h 2 (by decide)
  refine ⟨⟨fun r c hr hc hn => ?_, fun r hr hn => ?_, ?_, fun c hc => ?_, ?_⟩, fun r c hr hc hn => ?_, fun c hc => rfl, rfl⟩
  · rcases r3 hr with rfl | rfl | rfl
    · have := (m2l h0 h1 hb hc).2
      show (m2 (Q 0) (Q 1) c b).natAbs ≤ 200000
      omega
    · have := (m2l h0 h1 ha hc).1
      show (m2 (Q 0) (Q 1) a c).natAbs ≤ 200000
      omega
    · exact absurd rfl hn
  · rcases r3 hr with rfl | rfl | rfl
    · have := m2s h0 h1 hq hb
      show (m2 (Q 0) (Q 1) q b).natAbs ≤ 20000
      omega
    · have := m2s h0 h1 ha hq
      show (m2 (Q 0) (Q 1) a q).natAbs ≤ 20000
      omega
    · exact absurd rfl hn
  · have := m2s h0 h1 ha hb
    show (m2 (Q 0) (Q 1) a b).natAbs ≤ 20000
    omega
  · have := (m3l h0 h1 h2 ha hb hc).1
    show (m3 (Q 0) (Q 1) (Q 2) a b c).natAbs ≤ 60000000
    omega
  · have := m3s h0 h1 h2 ha hb hq
    show (m3 (Q 0) (Q 1) (Q 2) a b q).natAbs ≤ 6000000
    omega
  · rcases r3 hr with rfl | rfl | rfl
    · exact s23a (Q 0) (Q 1) (Q 2) a b q c
    · exact s23b (Q 0) (Q 1) (Q 2) a b q c
    · exact absurd rfl hn
/-- all entries' bounds -/
theorem nn_b {Q : Nat → Nat → Int} (h : ∀ r, r < 3 → RwB (Q r)) {k a b e r c : Nat} (hk : k ≤ 3) (ha : 0 < k → a < 4) (hb : 1 < k → b < 4) (he : 2 < k → e < 4) (hr : r < 3) (hc : c < 8) : (NN Q k a b e r c).natAbs ≤ 58747194 ∧ (dD Q k a b e).natAbs ≤ 5821794 ∧ (k < 3 → (dD Q k a b e).natAbs ≤ 19602) := by
  have h0 := h 0 (by decide)
  have h1 := h 1 (by decide)
  have h2 := h 2 (by decide)
  obtain rfl | rfl | rfl | rfl : k = 0 ∨ k = 1 ∨ k = 2 ∨ k = 3 := by omega
  · have := (h r hr).2 c hc
    refine ⟨?_, by show (1 : Int).natAbs ≤ _; decide, fun _ => by show (1 : Int).natAbs ≤ _; decide⟩
    show (Q r c).natAbs ≤ _
    omega
  · have ha := ha (by decide)
    have := h0.1 a ha
    refine ⟨?_, by show (Q 0 a).natAbs ≤ _; omega, fun _ => by show (Q 0 a).natAbs ≤ _; omega⟩
    rcases r3 hr with rfl | rfl | rfl
    · have := h0.2 c hc
      show (Q 0 c).natAbs ≤ _
      omega
    · have := (m2l h0 h1 ha hc).1
      show (m2 (Q 0) (Q 1) a c).natAbs ≤ _
      omega
    · have := (m2l h0 h2 ha hc).1
      show (m2 (Q 0) (Q 2) a c).natAbs ≤ _
      omega
  · have ha := ha (by decide)
    have hb := hb (by decide)
    have := m2s h0 h1 ha hb
    refine ⟨?_, by show (m2 (Q 0) (Q 1) a b).natAbs ≤ _; omega, fun _ => by show (m2 (Q 0) (Q 1) a b).natAbs ≤ _; omega⟩
    rcases r3 hr with rfl | rfl | rfl
    · have := (m2l h0 h1 hb hc).2
      show (m2 (Q 0) (Q 1) c b).natAbs ≤ _
      omega
    · have := (m2l h0 h1 ha hc).1
      show (m2 (Q 0) (Q 1) a c).natAbs ≤ _
      omega
    · exact (m3l h0 h1 h2 ha hb hc).1
  · have ha := ha (by decide)
    have hb := hb (by decide)
    have he := he (by decide)
    refine ⟨?_, m3s h0 h1 h2 ha hb he, fun x => absurd x (by decide)⟩
    rcases r3 hr with rfl | rfl | rfl
    · exact (m3l h0 h1 h2 hb he hc).2.2
    · exact (m3l h0 h1 h2 ha he hc).2.1
    · exact (m3l h0 h1 h2 ha hb hc).1
