def KDT : List Nat := [21, 0, 0, 0, 12, 8, 26, 1, 20, 7, 20, 20, 20, 20, 20, 20, 20, 9, 21, 20, 20, 26, 20, 21, 27, 20, 5, 10, 28, 20, 20, 20, 28, 20, 20, 20, 20, 20, 20, 24, 24, 20, 28, 20, 20, 20, 20, 20, 20, 20, 20, 20, 21, 25, 21, 21, 21, 29, 21, 21, 21, 20, 28, 20, 20, 20, 28, 20, 20, 20, 20, 3, 28, 20, 20, 20, 20, 20, 20, 29, 21, 21, 21, 29, 21, 21, 21, 20, 21, 21, 21, 6, 29, 21, 21, 28, 20, 20, 28, 20, 20, 28, 20, 20, 21, 21, 21, 21, 2, 20, 20, 20, 21, 21, 13, 20, 22, 22, 20, 21, 23, 20, 22, 20, 20, 23, 23, 22, 21, 20, 20, 20, 20, 20, 20, 20, 20, 20, 20, 21, 20, 20, 20, 20, 20, 20, 20, 20, 20, 20, 20, 20, 20, 20, 20, 21, 20, 20, 20, 20, 24, 24, 20, 20, 20, 21, 21, 24, 20, 20, 20, 20, 24, 21, 20, 21, 21, 20, 20, 20, 21, 20, 20, 20, 21, 21, 21, 25, 20, 21, 21, 20, 21, 21, 21, 21, 20, 20, 20, 21, 20, 20]
def LNT : List Nat := [0, 0, 0, 0, 0, 0, 16, 0, 128, 0, 4, 160, 160, 160, 160, 160, 40, 0, 6, 3, 3, 640, 640, 640, 160, 6, 0, 0, 3, 8, 8, 8, 3, 8, 8, 8, 3, 3, 3, 3, 3, 3, 9, 5, 5, 5, 5, 5, 5, 5, 5, 5, 9, 9, 9, 3, 9, 3, 11, 11, 11, 5, 3, 6, 6, 6, 3, 6, 6, 6, 3, 0, 6, 3, 3, 3, 3, 3, 3, 3, 8, 8, 8, 3, 8, 8, 8, 3, 4, 4, 3, 0, 2, 4, 4, 2, 4, 4, 2, 4, 4, 2, 4, 4, 3, 3, 3, 4, 0, 1280, 64, 20, 40, 40, 0, 16, 4100, 4100, 4100, 164000, 41000, 4100, 4100, 4100, 4100, 4100, 4100, 4100, 40, 200, 8, 8, 8, 4100, 4, 160, 160, 160, 160, 6, 3, 3, 44, 400, 400, 400, 400, 400, 400, 400, 400, 400, 400, 400, 2000, 2000, 3, 24, 24, 3, 3, 3, 3, 3, 3, 9, 9, 9, 9, 9, 9, 9, 9, 3, 5, 3, 3, 3, 3, 3, 18, 3, 18, 18, 40, 40, 40, 40, 18, 24, 24, 3, 4, 4, 3, 8, 8, 8, 8, 8, 1280, 64]
def RFT : List (Nat × Nat × Nat) := [(4, 0, 5), (4, 1, 6), (4, 2, 7), (4, 3, 9), (4, 4, 17), (4, 5, 26), (4, 6, 27), (4, 7, 71), (4, 8, 91), (4, 9, 108), (4, 10, 112), (4, 11, 113), (5, 0, 6), (5, 1, 7), (5, 2, 9), (5, 3, 17), (5, 4, 24), (5, 5, 25), (7, 0, 8), (9, 0, 10), (9, 1, 11), (9, 2, 12), (9, 3, 13), (9, 4, 14), (9, 5, 15), (9, 6, 16), (17, 0, 18), (17, 1, 19), (17, 2, 20), (17, 3, 21), (17, 4, 22), (17, 5, 23), (26, 0, 27), (26, 1, 42), (26, 2, 52), (26, 3, 53), (26, 4, 54), (26, 5, 55), (26, 6, 56), (26, 8, 57), (26, 9, 61), (26, 10, 62), (26, 11, 66), (26, 12, 70), (27, 0, 28), (27, 1, 32), (27, 2, 36), (27, 3, 37), (27, 4, 38), (27, 5, 39), (27, 6, 40), (27, 7, 41), (28, 0, 29), (28, 1, 30), (28, 2, 31), (32, 0, 33), (32, 1, 34), (32, 2, 35), (42, 0, 43), (42, 1, 44), (42, 2, 45), (42, 3, 46), (42, 4, 47), (42, 5, 48), (42, 6, 49), (42, 7, 50), (42, 8, 51), (57, 0, 58), (57, 1, 59), (57, 2, 60), (62, 0, 63), (62, 1, 64), (62, 2, 65), (66, 0, 67), (66, 1, 68), (66, 2, 69), (71, 0, 72), (71, 1, 79), (71, 2, 83), (71, 3, 87), (71, 4, 88), (71, 5, 89), (71, 6, 90), (72, 0, 73), (72, 1, 74), (72, 2, 75), (72, 3, 76), (72, 4, 77), (72, 5, 78), (79, 0, 80), (79, 1, 81), (79, 2, 82), (83, 0, 84), (83, 1, 85), (83, 2, 86), (91, 0, 92), (91, 1, 95), (91, 2, 98), (91, 3, 101), (91, 4, 104), (91, 5, 105), (91, 6, 106), (91, 7, 107), (92, 0, 93), (92, 1, 94), (95, 0, 96), (95, 1, 97), (98, 0, 99), (98, 1, 100), (101, 0, 102), (101, 1, 103), (108, 0, 109), (108, 1, 110), (108, 2, 111), (114, 3, 115), (114, 4, 116), (114, 5, 117), (114, 6, 118), (114, 8, 119), (114, 10, 120), (114, 11, 121), (114, 12, 122), (114, 13, 123), (114, 14, 124), (114, 15, 125), (114, 16, 126), (114, 17, 127), (114, 21, 128), (114, 23, 129), (114, 26, 130), (114, 27, 131), (114, 28, 132), (114, 31, 133), (114, 33, 134), (114, 34, 135), (114, 35, 136), (114, 36, 137), (114, 37, 138), (114, 38, 139), (114, 39, 140), (114, 40, 141), (114, 41, 142), (114, 43, 143), (114, 44, 144), (114, 45, 145), (114, 46, 146), (114, 47, 147), (114, 48, 148), (114, 49, 149), (114, 50, 150), (114, 51, 151), (114, 52, 152), (114, 53, 153), (114, 55, 154), (114, 56, 155), (114, 75, 156), (114, 76, 157), (114, 77, 158), (114, 78, 159), (114, 79, 160), (114, 80, 161), (114, 81, 162), (114, 82, 163), (114, 84, 164), (114, 86, 165), (114, 87, 166), (114, 88, 167), (114, 89, 168), (114, 90, 169), (114, 91, 170), (114, 92, 171), (114, 93, 172), (114, 95, 173), (114, 96, 174), (114, 97, 175), (114, 98, 176), (114, 99, 177), (114, 100, 178), (114, 101, 179), (114, 102, 180), (114, 103, 181), (114, 104, 182), (114, 105, 183), (114, 106, 184), (114, 107, 185), (114, 108, 186), (114, 109, 187), (114, 110, 188), (114, 111, 189), (114, 112, 190), (114, 113, 191), (114, 117, 192), (114, 118, 193), (114, 119, 194), (114, 120, 195), (114, 121, 196), (114, 122, 197), (114, 123, 198), (114, 124, 199), (114, 127, 200), (114, 128, 201)]
/-! ===== the skeleton: what the constructors made, and what is said under it ===== -/
def Skel (σ : Shp) (R : Nat → Nat → Option Nat) : Prop := 198 ≤ nxx σ ∧ (∀ a, a < 202 → kdx σ a = KDT.getD a 0) ∧ (∀ a, a < 202 → lnx σ a = LNT.getD a 0) ∧ (∀ t ∈ RFT, R t.1 t.2.1 = some t.2.2)
theorem RFT_ok : ∀ t ∈ RFT, t.1 < 202 ∧ KDT.getD t.1 0 ≠ 26 ∧ KDT.getD t.1 0 ≠ 27 ∧ KDT.getD t.1 0 ≠ 11 ∧ KDT.getD t.1 0 ≠ 4 := by decide +kernel
theorem Skel.k {σ : Shp} {R : Nat → Nat → Option Nat} (h : Skel σ R) (a t : Nat) (ha : a < 202) (e : KDT.getD a 0 = t) : kdx σ a = t := (h.2.1 a ha).trans e
theorem Skel.l {σ : Shp} {R : Nat → Nat → Option Nat} (h : Skel σ R) (a t : Nat) (ha : a < 202) (e : LNT.getD a 0 = t) : lnx σ a = t := (h.2.2.1 a ha).trans e
theorem Skel.r {σ : Shp} {R : Nat → Nat → Option Nat} (h : Skel σ R) (a k c i : Nat) (e : RFT[i]? = some (a, k, c)) : R a k = some c := h.2.2.2 (a, k, c) (List.mem_of_getElem? e)
theorem Skel.setR {σ : Shp} {R : Nat → Nat → Option Nat} (h : Skel σ R) {a k : Nat} {v : Option Nat} (hk : kdx σ a = 26 ∨ kdx σ a = 27 ∨ kdx σ a = 11 ∨ kdx σ a = 4) : Skel σ (u2 R a k v) := by
  refine ⟨h.1, h.2.1, h.2.2.1, fun t ht => ?_⟩
  have o := RFT_ok t ht
  have e := h.2.1 t.1 o.1
  have : ¬ (t.1 = a ∧ t.2.1 = k) := by
    rintro ⟨q, -⟩
    subst q
    rw [e] at hk
    rcases hk with q | q | q | q
    · exact o.2.1 q
    · exact o.2.2.1 q
    · exact o.2.2.2.1 q
    · exact o.2.2.2.2 q
  show (if t.1 = a ∧ t.2.1 = k then v else R t.1 t.2.1) = _
  rw [if_neg this]
  exact h.2.2.2 t ht
theorem Skel.mkO {σ : Shp} {R : Nat → Nat → Option Nat} (h : Skel σ R) {t n : Nat} : Skel (mkO σ t n) R := by
  have h1 := h.1
  refine ⟨Nat.le_succ_of_le h.1, fun a ha => ?_, h.2.2.1, h.2.2.2⟩
  show (if a = nxx σ + 4 then t else kdx σ a) = _
  rw [if_neg (by omega)]
  exact h.2.1 a ha
theorem Skel.mkA {σ : Shp} {R : Nat → Nat → Option Nat} (h : Skel σ R) {t n : Nat} : Skel (mkA σ t n) R := by
  have h1 := h.1
  refine ⟨Nat.le_succ_of_le h.1, fun a ha => ?_, fun a ha => ?_, h.2.2.2⟩
  · show (if a = nxx σ + 4 then t else kdx σ a) = _
    rw [if_neg (by omega)]
    exact h.2.1 a ha
  · show (if a = nxx σ + 4 then n else lnx σ a) = _
    rw [if_neg (by omega)]
    exact h.2.2.1 a ha
theorem bg {α : Type} {c : Prop} [Decidable c] {A B : Option α} (k : c → A = B) : (if c then A else none) = (if c then B else none) := by
  by_cases h : c
  · rw [if_pos h, if_pos h]; exact k h
  · rw [if_neg h, if_neg h]
theorem sg {α : Type} {c : Prop} [Decidable c] {A B : Option α} (h : c) (k : A = B) : (if c then A else none) = B := by rw [if_pos h]; exact k
theorem bgr {α : Type} {c d : Prop} [Decidable c] [Decidable d] {A B : Option α} (e : c = d) (k : d → A = B) : (if c then A else none) = (if d then B else none) := by
  by_cases h : d
  · rw [if_pos h, if_pos (e ▸ h)]; exact k h
  · rw [if_neg h, if_neg (fun q => h (e ▸ q))]
theorem bb {α β : Type} {e : Option α} {A B : α → Option β} (k : ∀ a, e = some a → A a = B a) : e.bind A = e.bind B := by
  cases e with
  | none => rfl
  | some a => exact k a rfl
theorem sb {α β : Type} {e : Option α} {a : α} {A : α → Option β} {B : Option β} (h : e = some a) (k : A a = B) : e.bind A = B := by subst h; exact k
theorem bc {α β : Type} {e f : Option α} {A B : α → Option β} (h : e = f) (k : ∀ a, f = some a → A a = B a) : e.bind A = f.bind B := by subst h; exact bb k
theorem bi {α : Type} {c : Prop} [Decidable c] {A A' B B' : α} (k : c → A = A') (l : ¬ c → B = B') : (if c then A else B) = (if c then A' else B') := by
  by_cases h : c
  · rw [if_pos h, if_pos h]; exact k h
  · rw [if_neg h, if_neg h]; exact l h
theorem bo {α : Type} {e : Option Nat} {A A' : α} {B B' : Nat → α} (k : e = none → A = A') (l : ∀ a, e = some a → B a = B' a) : onl e A B = onl e A' B' := by
  cases e with
  | none => exact k rfl
  | some a => exact l a rfl
theorem rowi {x : Int32} {n : Nat} (h : ¬ (x < 0 ∨ n ≤ Int32.toNatClampNeg x)) : Int32.toNatClampNeg x < n := Nat.lt_of_not_le fun q => h (Or.inr q)
theorem Skel.kr {σ : Shp} {R : Nat → Nat → Option Nat} (h : Skel σ R) {b n t i : Nat} (hi : i < n) (hb : b + n < 202) (e : ∀ j, j < n → KDT.getD (b + 1 + j) 0 = t) : kdx σ (b + 1 + i) = t := (h.2.1 _ (by omega)).trans (e i hi)
theorem Skel.lr {σ : Shp} {R : Nat → Nat → Option Nat} (h : Skel σ R) {b n t i : Nat} (hi : i < n) (hb : b + n < 202) (e : ∀ j, j < n → LNT.getD (b + 1 + j) 0 = t) : lnx σ (b + 1 + i) = t := (h.2.2.1 _ (by omega)).trans (e i hi)
theorem Skel.rr {σ : Shp} {R : Nat → Nat → Option Nat} (h : Skel σ R) {b n i : Nat} (hi : i < n) (e : ∀ j, j < n → (b, j, b + 1 + j) ∈ RFT) : R b i = some (b + 1 + i) := h.2.2.2 _ (e i hi)
theorem kq10 {σ : Shp} {R : Nat → Nat → Option Nat} (hS : Skel σ R) : kdx σ 10 = 20 := hS.k 10 20 (by decide) rfl
theorem kq101 {σ : Shp} {R : Nat → Nat → Option Nat} (hS : Skel σ R) : kdx σ 101 = 28 := hS.k 101 28 (by decide) rfl
theorem kq104 {σ : Shp} {R : Nat → Nat → Option Nat} (hS : Skel σ R) : kdx σ 104 = 21 := hS.k 104 21 (by decide) rfl
theorem kq105 {σ : Shp} {R : Nat → Nat → Option Nat} (hS : Skel σ R) : kdx σ 105 = 21 := hS.k 105 21 (by decide) rfl
theorem kq107 {σ : Shp} {R : Nat → Nat → Option Nat} (hS : Skel σ R) : kdx σ 107 = 21 := hS.k 107 21 (by decide) rfl
theorem kq108 {σ : Shp} {R : Nat → Nat → Option Nat} (hS : Skel σ R) : kdx σ 108 = 2 := hS.k 108 2 (by decide) rfl
theorem kq109 {σ : Shp} {R : Nat → Nat → Option Nat} (hS : Skel σ R) : kdx σ 109 = 20 := hS.k 109 20 (by decide) rfl
theorem kq11 {σ : Shp} {R : Nat → Nat → Option Nat} (hS : Skel σ R) : kdx σ 11 = 20 := hS.k 11 20 (by decide) rfl
theorem kq110 {σ : Shp} {R : Nat → Nat → Option Nat} (hS : Skel σ R) : kdx σ 110 = 20 := hS.k 110 20 (by decide) rfl
theorem kq111 {σ : Shp} {R : Nat → Nat → Option Nat} (hS : Skel σ R) : kdx σ 111 = 20 := hS.k 111 20 (by decide) rfl
theorem kq112 {σ : Shp} {R : Nat → Nat → Option Nat} (hS : Skel σ R) : kdx σ 112 = 21 := hS.k 112 21 (by decide) rfl
theorem kq113 {σ : Shp} {R : Nat → Nat → Option Nat} (hS : Skel σ R) : kdx σ 113 = 21 := hS.k 113 21 (by decide) rfl
theorem kq114 {σ : Shp} {R : Nat → Nat → Option Nat} (hS : Skel σ R) : kdx σ 114 = 13 := hS.k 114 13 (by decide) rfl
theorem kq115 {σ : Shp} {R : Nat → Nat → Option Nat} (hS : Skel σ R) : kdx σ 115 = 20 := hS.k 115 20 (by decide) rfl
theorem kq116 {σ : Shp} {R : Nat → Nat → Option Nat} (hS : Skel σ R) : kdx σ 116 = 22 := hS.k 116 22 (by decide) rfl
theorem kq117 {σ : Shp} {R : Nat → Nat → Option Nat} (hS : Skel σ R) : kdx σ 117 = 22 := hS.k 117 22 (by decide) rfl
theorem kq118 {σ : Shp} {R : Nat → Nat → Option Nat} (hS : Skel σ R) : kdx σ 118 = 20 := hS.k 118 20 (by decide) rfl
theorem kq119 {σ : Shp} {R : Nat → Nat → Option Nat} (hS : Skel σ R) : kdx σ 119 = 21 := hS.k 119 21 (by decide) rfl
theorem kq12 {σ : Shp} {R : Nat → Nat → Option Nat} (hS : Skel σ R) : kdx σ 12 = 20 := hS.k 12 20 (by decide) rfl
theorem kq120 {σ : Shp} {R : Nat → Nat → Option Nat} (hS : Skel σ R) : kdx σ 120 = 23 := hS.k 120 23 (by decide) rfl
theorem kq121 {σ : Shp} {R : Nat → Nat → Option Nat} (hS : Skel σ R) : kdx σ 121 = 20 := hS.k 121 20 (by decide) rfl
theorem kq122 {σ : Shp} {R : Nat → Nat → Option Nat} (hS : Skel σ R) : kdx σ 122 = 22 := hS.k 122 22 (by decide) rfl
theorem kq123 {σ : Shp} {R : Nat → Nat → Option Nat} (hS : Skel σ R) : kdx σ 123 = 20 := hS.k 123 20 (by decide) rfl
theorem kq124 {σ : Shp} {R : Nat → Nat → Option Nat} (hS : Skel σ R) : kdx σ 124 = 20 := hS.k 124 20 (by decide) rfl
theorem kq125 {σ : Shp} {R : Nat → Nat → Option Nat} (hS : Skel σ R) : kdx σ 125 = 23 := hS.k 125 23 (by decide) rfl
theorem kq126 {σ : Shp} {R : Nat → Nat → Option Nat} (hS : Skel σ R) : kdx σ 126 = 23 := hS.k 126 23 (by decide) rfl
theorem kq127 {σ : Shp} {R : Nat → Nat → Option Nat} (hS : Skel σ R) : kdx σ 127 = 22 := hS.k 127 22 (by decide) rfl
theorem kq128 {σ : Shp} {R : Nat → Nat → Option Nat} (hS : Skel σ R) : kdx σ 128 = 21 := hS.k 128 21 (by decide) rfl
theorem kq129 {σ : Shp} {R : Nat → Nat → Option Nat} (hS : Skel σ R) : kdx σ 129 = 20 := hS.k 129 20 (by decide) rfl
theorem kq13 {σ : Shp} {R : Nat → Nat → Option Nat} (hS : Skel σ R) : kdx σ 13 = 20 := hS.k 13 20 (by decide) rfl
theorem kq130 {σ : Shp} {R : Nat → Nat → Option Nat} (hS : Skel σ R) : kdx σ 130 = 20 := hS.k 130 20 (by decide) rfl
theorem kq131 {σ : Shp} {R : Nat → Nat → Option Nat} (hS : Skel σ R) : kdx σ 131 = 20 := hS.k 131 20 (by decide) rfl
theorem kq132 {σ : Shp} {R : Nat → Nat → Option Nat} (hS : Skel σ R) : kdx σ 132 = 20 := hS.k 132 20 (by decide) rfl
theorem kq133 {σ : Shp} {R : Nat → Nat → Option Nat} (hS : Skel σ R) : kdx σ 133 = 20 := hS.k 133 20 (by decide) rfl
theorem kq134 {σ : Shp} {R : Nat → Nat → Option Nat} (hS : Skel σ R) : kdx σ 134 = 20 := hS.k 134 20 (by decide) rfl
theorem kq135 {σ : Shp} {R : Nat → Nat → Option Nat} (hS : Skel σ R) : kdx σ 135 = 20 := hS.k 135 20 (by decide) rfl
theorem kq136 {σ : Shp} {R : Nat → Nat → Option Nat} (hS : Skel σ R) : kdx σ 136 = 20 := hS.k 136 20 (by decide) rfl
theorem kq137 {σ : Shp} {R : Nat → Nat → Option Nat} (hS : Skel σ R) : kdx σ 137 = 20 := hS.k 137 20 (by decide) rfl
theorem kq138 {σ : Shp} {R : Nat → Nat → Option Nat} (hS : Skel σ R) : kdx σ 138 = 20 := hS.k 138 20 (by decide) rfl
theorem kq139 {σ : Shp} {R : Nat → Nat → Option Nat} (hS : Skel σ R) : kdx σ 139 = 21 := hS.k 139 21 (by decide) rfl
theorem kq14 {σ : Shp} {R : Nat → Nat → Option Nat} (hS : Skel σ R) : kdx σ 14 = 20 := hS.k 14 20 (by decide) rfl
theorem kq140 {σ : Shp} {R : Nat → Nat → Option Nat} (hS : Skel σ R) : kdx σ 140 = 20 := hS.k 140 20 (by decide) rfl
theorem kq141 {σ : Shp} {R : Nat → Nat → Option Nat} (hS : Skel σ R) : kdx σ 141 = 20 := hS.k 141 20 (by decide) rfl
theorem kq142 {σ : Shp} {R : Nat → Nat → Option Nat} (hS : Skel σ R) : kdx σ 142 = 20 := hS.k 142 20 (by decide) rfl
theorem kq143 {σ : Shp} {R : Nat → Nat → Option Nat} (hS : Skel σ R) : kdx σ 143 = 20 := hS.k 143 20 (by decide) rfl
theorem kq144 {σ : Shp} {R : Nat → Nat → Option Nat} (hS : Skel σ R) : kdx σ 144 = 20 := hS.k 144 20 (by decide) rfl
theorem kq145 {σ : Shp} {R : Nat → Nat → Option Nat} (hS : Skel σ R) : kdx σ 145 = 20 := hS.k 145 20 (by decide) rfl
theorem kq146 {σ : Shp} {R : Nat → Nat → Option Nat} (hS : Skel σ R) : kdx σ 146 = 20 := hS.k 146 20 (by decide) rfl
theorem kq147 {σ : Shp} {R : Nat → Nat → Option Nat} (hS : Skel σ R) : kdx σ 147 = 20 := hS.k 147 20 (by decide) rfl
theorem kq148 {σ : Shp} {R : Nat → Nat → Option Nat} (hS : Skel σ R) : kdx σ 148 = 20 := hS.k 148 20 (by decide) rfl
theorem kq149 {σ : Shp} {R : Nat → Nat → Option Nat} (hS : Skel σ R) : kdx σ 149 = 20 := hS.k 149 20 (by decide) rfl
theorem kq15 {σ : Shp} {R : Nat → Nat → Option Nat} (hS : Skel σ R) : kdx σ 15 = 20 := hS.k 15 20 (by decide) rfl
theorem kq150 {σ : Shp} {R : Nat → Nat → Option Nat} (hS : Skel σ R) : kdx σ 150 = 20 := hS.k 150 20 (by decide) rfl
theorem kq151 {σ : Shp} {R : Nat → Nat → Option Nat} (hS : Skel σ R) : kdx σ 151 = 20 := hS.k 151 20 (by decide) rfl
theorem kq152 {σ : Shp} {R : Nat → Nat → Option Nat} (hS : Skel σ R) : kdx σ 152 = 20 := hS.k 152 20 (by decide) rfl
theorem kq153 {σ : Shp} {R : Nat → Nat → Option Nat} (hS : Skel σ R) : kdx σ 153 = 20 := hS.k 153 20 (by decide) rfl
theorem kq154 {σ : Shp} {R : Nat → Nat → Option Nat} (hS : Skel σ R) : kdx σ 154 = 20 := hS.k 154 20 (by decide) rfl
theorem kq155 {σ : Shp} {R : Nat → Nat → Option Nat} (hS : Skel σ R) : kdx σ 155 = 21 := hS.k 155 21 (by decide) rfl
theorem kq156 {σ : Shp} {R : Nat → Nat → Option Nat} (hS : Skel σ R) : kdx σ 156 = 20 := hS.k 156 20 (by decide) rfl
theorem kq157 {σ : Shp} {R : Nat → Nat → Option Nat} (hS : Skel σ R) : kdx σ 157 = 20 := hS.k 157 20 (by decide) rfl
theorem kq158 {σ : Shp} {R : Nat → Nat → Option Nat} (hS : Skel σ R) : kdx σ 158 = 20 := hS.k 158 20 (by decide) rfl
theorem kq159 {σ : Shp} {R : Nat → Nat → Option Nat} (hS : Skel σ R) : kdx σ 159 = 20 := hS.k 159 20 (by decide) rfl
theorem kq16 {σ : Shp} {R : Nat → Nat → Option Nat} (hS : Skel σ R) : kdx σ 16 = 20 := hS.k 16 20 (by decide) rfl
theorem kq160 {σ : Shp} {R : Nat → Nat → Option Nat} (hS : Skel σ R) : kdx σ 160 = 24 := hS.k 160 24 (by decide) rfl
theorem kq161 {σ : Shp} {R : Nat → Nat → Option Nat} (hS : Skel σ R) : kdx σ 161 = 24 := hS.k 161 24 (by decide) rfl
theorem kq162 {σ : Shp} {R : Nat → Nat → Option Nat} (hS : Skel σ R) : kdx σ 162 = 20 := hS.k 162 20 (by decide) rfl
theorem kq163 {σ : Shp} {R : Nat → Nat → Option Nat} (hS : Skel σ R) : kdx σ 163 = 20 := hS.k 163 20 (by decide) rfl
theorem kq164 {σ : Shp} {R : Nat → Nat → Option Nat} (hS : Skel σ R) : kdx σ 164 = 20 := hS.k 164 20 (by decide) rfl
theorem kq165 {σ : Shp} {R : Nat → Nat → Option Nat} (hS : Skel σ R) : kdx σ 165 = 21 := hS.k 165 21 (by decide) rfl
theorem kq166 {σ : Shp} {R : Nat → Nat → Option Nat} (hS : Skel σ R) : kdx σ 166 = 21 := hS.k 166 21 (by decide) rfl
theorem kq167 {σ : Shp} {R : Nat → Nat → Option Nat} (hS : Skel σ R) : kdx σ 167 = 24 := hS.k 167 24 (by decide) rfl
theorem kq168 {σ : Shp} {R : Nat → Nat → Option Nat} (hS : Skel σ R) : kdx σ 168 = 20 := hS.k 168 20 (by decide) rfl
theorem kq169 {σ : Shp} {R : Nat → Nat → Option Nat} (hS : Skel σ R) : kdx σ 169 = 20 := hS.k 169 20 (by decide) rfl
theorem kq17 {σ : Shp} {R : Nat → Nat → Option Nat} (hS : Skel σ R) : kdx σ 17 = 9 := hS.k 17 9 (by decide) rfl
theorem kq170 {σ : Shp} {R : Nat → Nat → Option Nat} (hS : Skel σ R) : kdx σ 170 = 20 := hS.k 170 20 (by decide) rfl
theorem kq171 {σ : Shp} {R : Nat → Nat → Option Nat} (hS : Skel σ R) : kdx σ 171 = 20 := hS.k 171 20 (by decide) rfl
theorem kq172 {σ : Shp} {R : Nat → Nat → Option Nat} (hS : Skel σ R) : kdx σ 172 = 24 := hS.k 172 24 (by decide) rfl
theorem kq173 {σ : Shp} {R : Nat → Nat → Option Nat} (hS : Skel σ R) : kdx σ 173 = 21 := hS.k 173 21 (by decide) rfl
theorem kq174 {σ : Shp} {R : Nat → Nat → Option Nat} (hS : Skel σ R) : kdx σ 174 = 20 := hS.k 174 20 (by decide) rfl
theorem kq175 {σ : Shp} {R : Nat → Nat → Option Nat} (hS : Skel σ R) : kdx σ 175 = 21 := hS.k 175 21 (by decide) rfl
theorem kq176 {σ : Shp} {R : Nat → Nat → Option Nat} (hS : Skel σ R) : kdx σ 176 = 21 := hS.k 176 21 (by decide) rfl
theorem kq177 {σ : Shp} {R : Nat → Nat → Option Nat} (hS : Skel σ R) : kdx σ 177 = 20 := hS.k 177 20 (by decide) rfl
theorem kq178 {σ : Shp} {R : Nat → Nat → Option Nat} (hS : Skel σ R) : kdx σ 178 = 20 := hS.k 178 20 (by decide) rfl
theorem kq179 {σ : Shp} {R : Nat → Nat → Option Nat} (hS : Skel σ R) : kdx σ 179 = 20 := hS.k 179 20 (by decide) rfl
theorem kq18 {σ : Shp} {R : Nat → Nat → Option Nat} (hS : Skel σ R) : kdx σ 18 = 21 := hS.k 18 21 (by decide) rfl
theorem kq180 {σ : Shp} {R : Nat → Nat → Option Nat} (hS : Skel σ R) : kdx σ 180 = 21 := hS.k 180 21 (by decide) rfl
theorem kq181 {σ : Shp} {R : Nat → Nat → Option Nat} (hS : Skel σ R) : kdx σ 181 = 20 := hS.k 181 20 (by decide) rfl
theorem kq182 {σ : Shp} {R : Nat → Nat → Option Nat} (hS : Skel σ R) : kdx σ 182 = 20 := hS.k 182 20 (by decide) rfl
theorem kq183 {σ : Shp} {R : Nat → Nat → Option Nat} (hS : Skel σ R) : kdx σ 183 = 20 := hS.k 183 20 (by decide) rfl
theorem kq184 {σ : Shp} {R : Nat → Nat → Option Nat} (hS : Skel σ R) : kdx σ 184 = 21 := hS.k 184 21 (by decide) rfl
theorem kq185 {σ : Shp} {R : Nat → Nat → Option Nat} (hS : Skel σ R) : kdx σ 185 = 21 := hS.k 185 21 (by decide) rfl
theorem kq186 {σ : Shp} {R : Nat → Nat → Option Nat} (hS : Skel σ R) : kdx σ 186 = 21 := hS.k 186 21 (by decide) rfl
theorem kq187 {σ : Shp} {R : Nat → Nat → Option Nat} (hS : Skel σ R) : kdx σ 187 = 25 := hS.k 187 25 (by decide) rfl
theorem kq188 {σ : Shp} {R : Nat → Nat → Option Nat} (hS : Skel σ R) : kdx σ 188 = 20 := hS.k 188 20 (by decide) rfl
theorem kq189 {σ : Shp} {R : Nat → Nat → Option Nat} (hS : Skel σ R) : kdx σ 189 = 21 := hS.k 189 21 (by decide) rfl
theorem kq19 {σ : Shp} {R : Nat → Nat → Option Nat} (hS : Skel σ R) : kdx σ 19 = 20 := hS.k 19 20 (by decide) rfl
theorem kq190 {σ : Shp} {R : Nat → Nat → Option Nat} (hS : Skel σ R) : kdx σ 190 = 21 := hS.k 190 21 (by decide) rfl
theorem kq191 {σ : Shp} {R : Nat → Nat → Option Nat} (hS : Skel σ R) : kdx σ 191 = 20 := hS.k 191 20 (by decide) rfl
theorem kq192 {σ : Shp} {R : Nat → Nat → Option Nat} (hS : Skel σ R) : kdx σ 192 = 21 := hS.k 192 21 (by decide) rfl
theorem kq193 {σ : Shp} {R : Nat → Nat → Option Nat} (hS : Skel σ R) : kdx σ 193 = 21 := hS.k 193 21 (by decide) rfl
theorem kq194 {σ : Shp} {R : Nat → Nat → Option Nat} (hS : Skel σ R) : kdx σ 194 = 21 := hS.k 194 21 (by decide) rfl
theorem kq195 {σ : Shp} {R : Nat → Nat → Option Nat} (hS : Skel σ R) : kdx σ 195 = 21 := hS.k 195 21 (by decide) rfl
theorem kq196 {σ : Shp} {R : Nat → Nat → Option Nat} (hS : Skel σ R) : kdx σ 196 = 20 := hS.k 196 20 (by decide) rfl
theorem kq197 {σ : Shp} {R : Nat → Nat → Option Nat} (hS : Skel σ R) : kdx σ 197 = 20 := hS.k 197 20 (by decide) rfl
theorem kq198 {σ : Shp} {R : Nat → Nat → Option Nat} (hS : Skel σ R) : kdx σ 198 = 20 := hS.k 198 20 (by decide) rfl
theorem kq199 {σ : Shp} {R : Nat → Nat → Option Nat} (hS : Skel σ R) : kdx σ 199 = 21 := hS.k 199 21 (by decide) rfl
theorem kq20 {σ : Shp} {R : Nat → Nat → Option Nat} (hS : Skel σ R) : kdx σ 20 = 20 := hS.k 20 20 (by decide) rfl
theorem kq200 {σ : Shp} {R : Nat → Nat → Option Nat} (hS : Skel σ R) : kdx σ 200 = 20 := hS.k 200 20 (by decide) rfl
theorem kq201 {σ : Shp} {R : Nat → Nat → Option Nat} (hS : Skel σ R) : kdx σ 201 = 20 := hS.k 201 20 (by decide) rfl
theorem kq21 {σ : Shp} {R : Nat → Nat → Option Nat} (hS : Skel σ R) : kdx σ 21 = 26 := hS.k 21 26 (by decide) rfl
theorem kq22 {σ : Shp} {R : Nat → Nat → Option Nat} (hS : Skel σ R) : kdx σ 22 = 20 := hS.k 22 20 (by decide) rfl
theorem kq23 {σ : Shp} {R : Nat → Nat → Option Nat} (hS : Skel σ R) : kdx σ 23 = 21 := hS.k 23 21 (by decide) rfl
theorem kq24 {σ : Shp} {R : Nat → Nat → Option Nat} (hS : Skel σ R) : kdx σ 24 = 27 := hS.k 24 27 (by decide) rfl
theorem kq25 {σ : Shp} {R : Nat → Nat → Option Nat} (hS : Skel σ R) : kdx σ 25 = 20 := hS.k 25 20 (by decide) rfl
theorem kq26 {σ : Shp} {R : Nat → Nat → Option Nat} (hS : Skel σ R) : kdx σ 26 = 5 := hS.k 26 5 (by decide) rfl
theorem kq27 {σ : Shp} {R : Nat → Nat → Option Nat} (hS : Skel σ R) : kdx σ 27 = 10 := hS.k 27 10 (by decide) rfl
theorem kq28 {σ : Shp} {R : Nat → Nat → Option Nat} (hS : Skel σ R) : kdx σ 28 = 28 := hS.k 28 28 (by decide) rfl
theorem kq32 {σ : Shp} {R : Nat → Nat → Option Nat} (hS : Skel σ R) : kdx σ 32 = 28 := hS.k 32 28 (by decide) rfl
theorem kq36 {σ : Shp} {R : Nat → Nat → Option Nat} (hS : Skel σ R) : kdx σ 36 = 20 := hS.k 36 20 (by decide) rfl
theorem kq37 {σ : Shp} {R : Nat → Nat → Option Nat} (hS : Skel σ R) : kdx σ 37 = 20 := hS.k 37 20 (by decide) rfl
theorem kq38 {σ : Shp} {R : Nat → Nat → Option Nat} (hS : Skel σ R) : kdx σ 38 = 20 := hS.k 38 20 (by decide) rfl
theorem kq39 {σ : Shp} {R : Nat → Nat → Option Nat} (hS : Skel σ R) : kdx σ 39 = 24 := hS.k 39 24 (by decide) rfl
theorem kq4 {σ : Shp} {R : Nat → Nat → Option Nat} (hS : Skel σ R) : kdx σ 4 = 12 := hS.k 4 12 (by decide) rfl
theorem kq40 {σ : Shp} {R : Nat → Nat → Option Nat} (hS : Skel σ R) : kdx σ 40 = 24 := hS.k 40 24 (by decide) rfl
theorem kq41 {σ : Shp} {R : Nat → Nat → Option Nat} (hS : Skel σ R) : kdx σ 41 = 20 := hS.k 41 20 (by decide) rfl
theorem kq42 {σ : Shp} {R : Nat → Nat → Option Nat} (hS : Skel σ R) : kdx σ 42 = 28 := hS.k 42 28 (by decide) rfl
theorem kq5 {σ : Shp} {R : Nat → Nat → Option Nat} (hS : Skel σ R) : kdx σ 5 = 8 := hS.k 5 8 (by decide) rfl
theorem kq52 {σ : Shp} {R : Nat → Nat → Option Nat} (hS : Skel σ R) : kdx σ 52 = 21 := hS.k 52 21 (by decide) rfl
theorem kq53 {σ : Shp} {R : Nat → Nat → Option Nat} (hS : Skel σ R) : kdx σ 53 = 25 := hS.k 53 25 (by decide) rfl
theorem kq54 {σ : Shp} {R : Nat → Nat → Option Nat} (hS : Skel σ R) : kdx σ 54 = 21 := hS.k 54 21 (by decide) rfl
theorem kq55 {σ : Shp} {R : Nat → Nat → Option Nat} (hS : Skel σ R) : kdx σ 55 = 21 := hS.k 55 21 (by decide) rfl
theorem kq56 {σ : Shp} {R : Nat → Nat → Option Nat} (hS : Skel σ R) : kdx σ 56 = 21 := hS.k 56 21 (by decide) rfl
theorem kq57 {σ : Shp} {R : Nat → Nat → Option Nat} (hS : Skel σ R) : kdx σ 57 = 29 := hS.k 57 29 (by decide) rfl
theorem kq6 {σ : Shp} {R : Nat → Nat → Option Nat} (hS : Skel σ R) : kdx σ 6 = 26 := hS.k 6 26 (by decide) rfl
theorem kq61 {σ : Shp} {R : Nat → Nat → Option Nat} (hS : Skel σ R) : kdx σ 61 = 20 := hS.k 61 20 (by decide) rfl
theorem kq62 {σ : Shp} {R : Nat → Nat → Option Nat} (hS : Skel σ R) : kdx σ 62 = 28 := hS.k 62 28 (by decide) rfl
theorem kq66 {σ : Shp} {R : Nat → Nat → Option Nat} (hS : Skel σ R) : kdx σ 66 = 28 := hS.k 66 28 (by decide) rfl
theorem kq7 {σ : Shp} {R : Nat → Nat → Option Nat} (hS : Skel σ R) : kdx σ 7 = 1 := hS.k 7 1 (by decide) rfl
theorem kq70 {σ : Shp} {R : Nat → Nat → Option Nat} (hS : Skel σ R) : kdx σ 70 = 20 := hS.k 70 20 (by decide) rfl
theorem kq71 {σ : Shp} {R : Nat → Nat → Option Nat} (hS : Skel σ R) : kdx σ 71 = 3 := hS.k 71 3 (by decide) rfl
theorem kq72 {σ : Shp} {R : Nat → Nat → Option Nat} (hS : Skel σ R) : kdx σ 72 = 28 := hS.k 72 28 (by decide) rfl
theorem kq79 {σ : Shp} {R : Nat → Nat → Option Nat} (hS : Skel σ R) : kdx σ 79 = 29 := hS.k 79 29 (by decide) rfl
theorem kq8 {σ : Shp} {R : Nat → Nat → Option Nat} (hS : Skel σ R) : kdx σ 8 = 20 := hS.k 8 20 (by decide) rfl
theorem kq83 {σ : Shp} {R : Nat → Nat → Option Nat} (hS : Skel σ R) : kdx σ 83 = 29 := hS.k 83 29 (by decide) rfl
theorem kq87 {σ : Shp} {R : Nat → Nat → Option Nat} (hS : Skel σ R) : kdx σ 87 = 20 := hS.k 87 20 (by decide) rfl
theorem kq88 {σ : Shp} {R : Nat → Nat → Option Nat} (hS : Skel σ R) : kdx σ 88 = 21 := hS.k 88 21 (by decide) rfl
theorem kq89 {σ : Shp} {R : Nat → Nat → Option Nat} (hS : Skel σ R) : kdx σ 89 = 21 := hS.k 89 21 (by decide) rfl
theorem kq9 {σ : Shp} {R : Nat → Nat → Option Nat} (hS : Skel σ R) : kdx σ 9 = 7 := hS.k 9 7 (by decide) rfl
theorem kq90 {σ : Shp} {R : Nat → Nat → Option Nat} (hS : Skel σ R) : kdx σ 90 = 21 := hS.k 90 21 (by decide) rfl
theorem kq91 {σ : Shp} {R : Nat → Nat → Option Nat} (hS : Skel σ R) : kdx σ 91 = 6 := hS.k 91 6 (by decide) rfl
theorem kq92 {σ : Shp} {R : Nat → Nat → Option Nat} (hS : Skel σ R) : kdx σ 92 = 29 := hS.k 92 29 (by decide) rfl
theorem kq95 {σ : Shp} {R : Nat → Nat → Option Nat} (hS : Skel σ R) : kdx σ 95 = 28 := hS.k 95 28 (by decide) rfl
theorem kq98 {σ : Shp} {R : Nat → Nat → Option Nat} (hS : Skel σ R) : kdx σ 98 = 28 := hS.k 98 28 (by decide) rfl
theorem kr101 {σ : Shp} {R : Nat → Nat → Option Nat} (hS : Skel σ R) {x : Int32} (h : ¬ (x < 0 ∨ 2 ≤ Int32.toNatClampNeg x)) : kdx σ (102 + Int32.toNatClampNeg x) = 20 := hS.kr (b := 101) (rowi h) (by decide) (by decide)
theorem kr28 {σ : Shp} {R : Nat → Nat → Option Nat} (hS : Skel σ R) {x : Int32} (h : ¬ (x < 0 ∨ 3 ≤ Int32.toNatClampNeg x)) : kdx σ (29 + Int32.toNatClampNeg x) = 20 := hS.kr (b := 28) (rowi h) (by decide) (by decide)
theorem kr32 {σ : Shp} {R : Nat → Nat → Option Nat} (hS : Skel σ R) {x : Int32} (h : ¬ (x < 0 ∨ 3 ≤ Int32.toNatClampNeg x)) : kdx σ (33 + Int32.toNatClampNeg x) = 20 := hS.kr (b := 32) (rowi h) (by decide) (by decide)
theorem kr42 {σ : Shp} {R : Nat → Nat → Option Nat} (hS : Skel σ R) {x : Int32} (h : ¬ (x < 0 ∨ 9 ≤ Int32.toNatClampNeg x)) : kdx σ (43 + Int32.toNatClampNeg x) = 20 := hS.kr (b := 42) (rowi h) (by decide) (by decide)
theorem kr57 {σ : Shp} {R : Nat → Nat → Option Nat} (hS : Skel σ R) {x : Int32} (h : ¬ (x < 0 ∨ 3 ≤ Int32.toNatClampNeg x)) : kdx σ (58 + Int32.toNatClampNeg x) = 21 := hS.kr (b := 57) (rowi h) (by decide) (by decide)
theorem kr62 {σ : Shp} {R : Nat → Nat → Option Nat} (hS : Skel σ R) {x : Int32} (h : ¬ (x < 0 ∨ 3 ≤ Int32.toNatClampNeg x)) : kdx σ (63 + Int32.toNatClampNeg x) = 20 := hS.kr (b := 62) (rowi h) (by decide) (by decide)
theorem kr66 {σ : Shp} {R : Nat → Nat → Option Nat} (hS : Skel σ R) {x : Int32} (h : ¬ (x < 0 ∨ 3 ≤ Int32.toNatClampNeg x)) : kdx σ (67 + Int32.toNatClampNeg x) = 20 := hS.kr (b := 66) (rowi h) (by decide) (by decide)
theorem kr72 {σ : Shp} {R : Nat → Nat → Option Nat} (hS : Skel σ R) {x : Int32} (h : ¬ (x < 0 ∨ 6 ≤ Int32.toNatClampNeg x)) : kdx σ (73 + Int32.toNatClampNeg x) = 20 := hS.kr (b := 72) (rowi h) (by decide) (by decide)
theorem kr79 {σ : Shp} {R : Nat → Nat → Option Nat} (hS : Skel σ R) {x : Int32} (h : ¬ (x < 0 ∨ 3 ≤ Int32.toNatClampNeg x)) : kdx σ (80 + Int32.toNatClampNeg x) = 21 := hS.kr (b := 79) (rowi h) (by decide) (by decide)
theorem kr83 {σ : Shp} {R : Nat → Nat → Option Nat} (hS : Skel σ R) {x : Int32} (h : ¬ (x < 0 ∨ 3 ≤ Int32.toNatClampNeg x)) : kdx σ (84 + Int32.toNatClampNeg x) = 21 := hS.kr (b := 83) (rowi h) (by decide) (by decide)
theorem kr92 {σ : Shp} {R : Nat → Nat → Option Nat} (hS : Skel σ R) {x : Int32} (h : ¬ (x < 0 ∨ 2 ≤ Int32.toNatClampNeg x)) : kdx σ (93 + Int32.toNatClampNeg x) = 21 := hS.kr (b := 92) (rowi h) (by decide) (by decide)
theorem kr95 {σ : Shp} {R : Nat → Nat → Option Nat} (hS : Skel σ R) {x : Int32} (h : ¬ (x < 0 ∨ 2 ≤ Int32.toNatClampNeg x)) : kdx σ (96 + Int32.toNatClampNeg x) = 20 := hS.kr (b := 95) (rowi h) (by decide) (by decide)
theorem kr98 {σ : Shp} {R : Nat → Nat → Option Nat} (hS : Skel σ R) {x : Int32} (h : ¬ (x < 0 ∨ 2 ≤ Int32.toNatClampNeg x)) : kdx σ (99 + Int32.toNatClampNeg x) = 20 := hS.kr (b := 98) (rowi h) (by decide) (by decide)
theorem lq10 {σ : Shp} {R : Nat → Nat → Option Nat} (hS : Skel σ R) : lnx σ 10 = 4 := hS.l 10 4 (by decide) rfl
theorem lq101 {σ : Shp} {R : Nat → Nat → Option Nat} (hS : Skel σ R) : lnx σ 101 = 2 := hS.l 101 2 (by decide) rfl
theorem lq104 {σ : Shp} {R : Nat → Nat → Option Nat} (hS : Skel σ R) : lnx σ 104 = 3 := hS.l 104 3 (by decide) rfl
theorem lq105 {σ : Shp} {R : Nat → Nat → Option Nat} (hS : Skel σ R) : lnx σ 105 = 3 := hS.l 105 3 (by decide) rfl
theorem lq107 {σ : Shp} {R : Nat → Nat → Option Nat} (hS : Skel σ R) : lnx σ 107 = 4 := hS.l 107 4 (by decide) rfl
theorem lq109 {σ : Shp} {R : Nat → Nat → Option Nat} (hS : Skel σ R) : lnx σ 109 = 1280 := hS.l 109 1280 (by decide) rfl
theorem lq11 {σ : Shp} {R : Nat → Nat → Option Nat} (hS : Skel σ R) : lnx σ 11 = 160 := hS.l 11 160 (by decide) rfl
theorem lq110 {σ : Shp} {R : Nat → Nat → Option Nat} (hS : Skel σ R) : lnx σ 110 = 64 := hS.l 110 64 (by decide) rfl
theorem lq111 {σ : Shp} {R : Nat → Nat → Option Nat} (hS : Skel σ R) : lnx σ 111 = 20 := hS.l 111 20 (by decide) rfl
theorem lq112 {σ : Shp} {R : Nat → Nat → Option Nat} (hS : Skel σ R) : lnx σ 112 = 40 := hS.l 112 40 (by decide) rfl
theorem lq113 {σ : Shp} {R : Nat → Nat → Option Nat} (hS : Skel σ R) : lnx σ 113 = 40 := hS.l 113 40 (by decide) rfl
theorem lq115 {σ : Shp} {R : Nat → Nat → Option Nat} (hS : Skel σ R) : lnx σ 115 = 16 := hS.l 115 16 (by decide) rfl
theorem lq116 {σ : Shp} {R : Nat → Nat → Option Nat} (hS : Skel σ R) : lnx σ 116 = 4100 := hS.l 116 4100 (by decide) rfl
theorem lq117 {σ : Shp} {R : Nat → Nat → Option Nat} (hS : Skel σ R) : lnx σ 117 = 4100 := hS.l 117 4100 (by decide) rfl
theorem lq118 {σ : Shp} {R : Nat → Nat → Option Nat} (hS : Skel σ R) : lnx σ 118 = 4100 := hS.l 118 4100 (by decide) rfl
theorem lq119 {σ : Shp} {R : Nat → Nat → Option Nat} (hS : Skel σ R) : lnx σ 119 = 164000 := hS.l 119 164000 (by decide) rfl
theorem lq12 {σ : Shp} {R : Nat → Nat → Option Nat} (hS : Skel σ R) : lnx σ 12 = 160 := hS.l 12 160 (by decide) rfl
theorem lq120 {σ : Shp} {R : Nat → Nat → Option Nat} (hS : Skel σ R) : lnx σ 120 = 41000 := hS.l 120 41000 (by decide) rfl
theorem lq121 {σ : Shp} {R : Nat → Nat → Option Nat} (hS : Skel σ R) : lnx σ 121 = 4100 := hS.l 121 4100 (by decide) rfl
theorem lq122 {σ : Shp} {R : Nat → Nat → Option Nat} (hS : Skel σ R) : lnx σ 122 = 4100 := hS.l 122 4100 (by decide) rfl
theorem lq123 {σ : Shp} {R : Nat → Nat → Option Nat} (hS : Skel σ R) : lnx σ 123 = 4100 := hS.l 123 4100 (by decide) rfl
theorem lq124 {σ : Shp} {R : Nat → Nat → Option Nat} (hS : Skel σ R) : lnx σ 124 = 4100 := hS.l 124 4100 (by decide) rfl
theorem lq125 {σ : Shp} {R : Nat → Nat → Option Nat} (hS : Skel σ R) : lnx σ 125 = 4100 := hS.l 125 4100 (by decide) rfl
theorem lq126 {σ : Shp} {R : Nat → Nat → Option Nat} (hS : Skel σ R) : lnx σ 126 = 4100 := hS.l 126 4100 (by decide) rfl
theorem lq127 {σ : Shp} {R : Nat → Nat → Option Nat} (hS : Skel σ R) : lnx σ 127 = 4100 := hS.l 127 4100 (by decide) rfl
theorem lq128 {σ : Shp} {R : Nat → Nat → Option Nat} (hS : Skel σ R) : lnx σ 128 = 40 := hS.l 128 40 (by decide) rfl
theorem lq129 {σ : Shp} {R : Nat → Nat → Option Nat} (hS : Skel σ R) : lnx σ 129 = 200 := hS.l 129 200 (by decide) rfl
theorem lq13 {σ : Shp} {R : Nat → Nat → Option Nat} (hS : Skel σ R) : lnx σ 13 = 160 := hS.l 13 160 (by decide) rfl
theorem lq130 {σ : Shp} {R : Nat → Nat → Option Nat} (hS : Skel σ R) : lnx σ 130 = 8 := hS.l 130 8 (by decide) rfl
theorem lq131 {σ : Shp} {R : Nat → Nat → Option Nat} (hS : Skel σ R) : lnx σ 131 = 8 := hS.l 131 8 (by decide) rfl
theorem lq132 {σ : Shp} {R : Nat → Nat → Option Nat} (hS : Skel σ R) : lnx σ 132 = 8 := hS.l 132 8 (by decide) rfl
theorem lq133 {σ : Shp} {R : Nat → Nat → Option Nat} (hS : Skel σ R) : lnx σ 133 = 4100 := hS.l 133 4100 (by decide) rfl
theorem lq134 {σ : Shp} {R : Nat → Nat → Option Nat} (hS : Skel σ R) : lnx σ 134 = 4 := hS.l 134 4 (by decide) rfl
theorem lq135 {σ : Shp} {R : Nat → Nat → Option Nat} (hS : Skel σ R) : lnx σ 135 = 160 := hS.l 135 160 (by decide) rfl
theorem lq136 {σ : Shp} {R : Nat → Nat → Option Nat} (hS : Skel σ R) : lnx σ 136 = 160 := hS.l 136 160 (by decide) rfl
theorem lq137 {σ : Shp} {R : Nat → Nat → Option Nat} (hS : Skel σ R) : lnx σ 137 = 160 := hS.l 137 160 (by decide) rfl
theorem lq138 {σ : Shp} {R : Nat → Nat → Option Nat} (hS : Skel σ R) : lnx σ 138 = 160 := hS.l 138 160 (by decide) rfl
theorem lq139 {σ : Shp} {R : Nat → Nat → Option Nat} (hS : Skel σ R) : lnx σ 139 = 6 := hS.l 139 6 (by decide) rfl
theorem lq14 {σ : Shp} {R : Nat → Nat → Option Nat} (hS : Skel σ R) : lnx σ 14 = 160 := hS.l 14 160 (by decide) rfl
theorem lq140 {σ : Shp} {R : Nat → Nat → Option Nat} (hS : Skel σ R) : lnx σ 140 = 3 := hS.l 140 3 (by decide) rfl
theorem lq141 {σ : Shp} {R : Nat → Nat → Option Nat} (hS : Skel σ R) : lnx σ 141 = 3 := hS.l 141 3 (by decide) rfl
theorem lq142 {σ : Shp} {R : Nat → Nat → Option Nat} (hS : Skel σ R) : lnx σ 142 = 44 := hS.l 142 44 (by decide) rfl
theorem lq143 {σ : Shp} {R : Nat → Nat → Option Nat} (hS : Skel σ R) : lnx σ 143 = 400 := hS.l 143 400 (by decide) rfl
theorem lq144 {σ : Shp} {R : Nat → Nat → Option Nat} (hS : Skel σ R) : lnx σ 144 = 400 := hS.l 144 400 (by decide) rfl
theorem lq145 {σ : Shp} {R : Nat → Nat → Option Nat} (hS : Skel σ R) : lnx σ 145 = 400 := hS.l 145 400 (by decide) rfl
theorem lq146 {σ : Shp} {R : Nat → Nat → Option Nat} (hS : Skel σ R) : lnx σ 146 = 400 := hS.l 146 400 (by decide) rfl
theorem lq147 {σ : Shp} {R : Nat → Nat → Option Nat} (hS : Skel σ R) : lnx σ 147 = 400 := hS.l 147 400 (by decide) rfl
theorem lq148 {σ : Shp} {R : Nat → Nat → Option Nat} (hS : Skel σ R) : lnx σ 148 = 400 := hS.l 148 400 (by decide) rfl
theorem lq149 {σ : Shp} {R : Nat → Nat → Option Nat} (hS : Skel σ R) : lnx σ 149 = 400 := hS.l 149 400 (by decide) rfl
theorem lq15 {σ : Shp} {R : Nat → Nat → Option Nat} (hS : Skel σ R) : lnx σ 15 = 160 := hS.l 15 160 (by decide) rfl
theorem lq150 {σ : Shp} {R : Nat → Nat → Option Nat} (hS : Skel σ R) : lnx σ 150 = 400 := hS.l 150 400 (by decide) rfl
theorem lq151 {σ : Shp} {R : Nat → Nat → Option Nat} (hS : Skel σ R) : lnx σ 151 = 400 := hS.l 151 400 (by decide) rfl
theorem lq152 {σ : Shp} {R : Nat → Nat → Option Nat} (hS : Skel σ R) : lnx σ 152 = 400 := hS.l 152 400 (by decide) rfl
theorem lq153 {σ : Shp} {R : Nat → Nat → Option Nat} (hS : Skel σ R) : lnx σ 153 = 400 := hS.l 153 400 (by decide) rfl
theorem lq154 {σ : Shp} {R : Nat → Nat → Option Nat} (hS : Skel σ R) : lnx σ 154 = 2000 := hS.l 154 2000 (by decide) rfl
theorem lq155 {σ : Shp} {R : Nat → Nat → Option Nat} (hS : Skel σ R) : lnx σ 155 = 2000 := hS.l 155 2000 (by decide) rfl
theorem lq156 {σ : Shp} {R : Nat → Nat → Option Nat} (hS : Skel σ R) : lnx σ 156 = 3 := hS.l 156 3 (by decide) rfl
theorem lq157 {σ : Shp} {R : Nat → Nat → Option Nat} (hS : Skel σ R) : lnx σ 157 = 24 := hS.l 157 24 (by decide) rfl
theorem lq158 {σ : Shp} {R : Nat → Nat → Option Nat} (hS : Skel σ R) : lnx σ 158 = 24 := hS.l 158 24 (by decide) rfl
theorem lq159 {σ : Shp} {R : Nat → Nat → Option Nat} (hS : Skel σ R) : lnx σ 159 = 3 := hS.l 159 3 (by decide) rfl
theorem lq16 {σ : Shp} {R : Nat → Nat → Option Nat} (hS : Skel σ R) : lnx σ 16 = 40 := hS.l 16 40 (by decide) rfl
theorem lq160 {σ : Shp} {R : Nat → Nat → Option Nat} (hS : Skel σ R) : lnx σ 160 = 3 := hS.l 160 3 (by decide) rfl
theorem lq161 {σ : Shp} {R : Nat → Nat → Option Nat} (hS : Skel σ R) : lnx σ 161 = 3 := hS.l 161 3 (by decide) rfl
theorem lq162 {σ : Shp} {R : Nat → Nat → Option Nat} (hS : Skel σ R) : lnx σ 162 = 3 := hS.l 162 3 (by decide) rfl
theorem lq163 {σ : Shp} {R : Nat → Nat → Option Nat} (hS : Skel σ R) : lnx σ 163 = 3 := hS.l 163 3 (by decide) rfl
theorem lq164 {σ : Shp} {R : Nat → Nat → Option Nat} (hS : Skel σ R) : lnx σ 164 = 3 := hS.l 164 3 (by decide) rfl
theorem lq165 {σ : Shp} {R : Nat → Nat → Option Nat} (hS : Skel σ R) : lnx σ 165 = 9 := hS.l 165 9 (by decide) rfl
theorem lq166 {σ : Shp} {R : Nat → Nat → Option Nat} (hS : Skel σ R) : lnx σ 166 = 9 := hS.l 166 9 (by decide) rfl
theorem lq167 {σ : Shp} {R : Nat → Nat → Option Nat} (hS : Skel σ R) : lnx σ 167 = 9 := hS.l 167 9 (by decide) rfl
theorem lq168 {σ : Shp} {R : Nat → Nat → Option Nat} (hS : Skel σ R) : lnx σ 168 = 9 := hS.l 168 9 (by decide) rfl
theorem lq169 {σ : Shp} {R : Nat → Nat → Option Nat} (hS : Skel σ R) : lnx σ 169 = 9 := hS.l 169 9 (by decide) rfl
theorem lq170 {σ : Shp} {R : Nat → Nat → Option Nat} (hS : Skel σ R) : lnx σ 170 = 9 := hS.l 170 9 (by decide) rfl
theorem lq171 {σ : Shp} {R : Nat → Nat → Option Nat} (hS : Skel σ R) : lnx σ 171 = 9 := hS.l 171 9 (by decide) rfl
theorem lq172 {σ : Shp} {R : Nat → Nat → Option Nat} (hS : Skel σ R) : lnx σ 172 = 9 := hS.l 172 9 (by decide) rfl
theorem lq173 {σ : Shp} {R : Nat → Nat → Option Nat} (hS : Skel σ R) : lnx σ 173 = 3 := hS.l 173 3 (by decide) rfl
theorem lq174 {σ : Shp} {R : Nat → Nat → Option Nat} (hS : Skel σ R) : lnx σ 174 = 5 := hS.l 174 5 (by decide) rfl
theorem lq175 {σ : Shp} {R : Nat → Nat → Option Nat} (hS : Skel σ R) : lnx σ 175 = 3 := hS.l 175 3 (by decide) rfl
theorem lq176 {σ : Shp} {R : Nat → Nat → Option Nat} (hS : Skel σ R) : lnx σ 176 = 3 := hS.l 176 3 (by decide) rfl
theorem lq177 {σ : Shp} {R : Nat → Nat → Option Nat} (hS : Skel σ R) : lnx σ 177 = 3 := hS.l 177 3 (by decide) rfl
theorem lq178 {σ : Shp} {R : Nat → Nat → Option Nat} (hS : Skel σ R) : lnx σ 178 = 3 := hS.l 178 3 (by decide) rfl
theorem lq179 {σ : Shp} {R : Nat → Nat → Option Nat} (hS : Skel σ R) : lnx σ 179 = 3 := hS.l 179 3 (by decide) rfl
theorem lq18 {σ : Shp} {R : Nat → Nat → Option Nat} (hS : Skel σ R) : lnx σ 18 = 6 := hS.l 18 6 (by decide) rfl
theorem lq180 {σ : Shp} {R : Nat → Nat → Option Nat} (hS : Skel σ R) : lnx σ 180 = 18 := hS.l 180 18 (by decide) rfl
theorem lq181 {σ : Shp} {R : Nat → Nat → Option Nat} (hS : Skel σ R) : lnx σ 181 = 3 := hS.l 181 3 (by decide) rfl
theorem lq182 {σ : Shp} {R : Nat → Nat → Option Nat} (hS : Skel σ R) : lnx σ 182 = 18 := hS.l 182 18 (by decide) rfl
theorem lq183 {σ : Shp} {R : Nat → Nat → Option Nat} (hS : Skel σ R) : lnx σ 183 = 18 := hS.l 183 18 (by decide) rfl
theorem lq184 {σ : Shp} {R : Nat → Nat → Option Nat} (hS : Skel σ R) : lnx σ 184 = 40 := hS.l 184 40 (by decide) rfl
theorem lq185 {σ : Shp} {R : Nat → Nat → Option Nat} (hS : Skel σ R) : lnx σ 185 = 40 := hS.l 185 40 (by decide) rfl
theorem lq186 {σ : Shp} {R : Nat → Nat → Option Nat} (hS : Skel σ R) : lnx σ 186 = 40 := hS.l 186 40 (by decide) rfl
theorem lq187 {σ : Shp} {R : Nat → Nat → Option Nat} (hS : Skel σ R) : lnx σ 187 = 40 := hS.l 187 40 (by decide) rfl
theorem lq188 {σ : Shp} {R : Nat → Nat → Option Nat} (hS : Skel σ R) : lnx σ 188 = 18 := hS.l 188 18 (by decide) rfl
theorem lq189 {σ : Shp} {R : Nat → Nat → Option Nat} (hS : Skel σ R) : lnx σ 189 = 24 := hS.l 189 24 (by decide) rfl
theorem lq19 {σ : Shp} {R : Nat → Nat → Option Nat} (hS : Skel σ R) : lnx σ 19 = 3 := hS.l 19 3 (by decide) rfl
theorem lq190 {σ : Shp} {R : Nat → Nat → Option Nat} (hS : Skel σ R) : lnx σ 190 = 24 := hS.l 190 24 (by decide) rfl
theorem lq191 {σ : Shp} {R : Nat → Nat → Option Nat} (hS : Skel σ R) : lnx σ 191 = 3 := hS.l 191 3 (by decide) rfl
theorem lq192 {σ : Shp} {R : Nat → Nat → Option Nat} (hS : Skel σ R) : lnx σ 192 = 4 := hS.l 192 4 (by decide) rfl
theorem lq193 {σ : Shp} {R : Nat → Nat → Option Nat} (hS : Skel σ R) : lnx σ 193 = 4 := hS.l 193 4 (by decide) rfl
theorem lq194 {σ : Shp} {R : Nat → Nat → Option Nat} (hS : Skel σ R) : lnx σ 194 = 3 := hS.l 194 3 (by decide) rfl
theorem lq195 {σ : Shp} {R : Nat → Nat → Option Nat} (hS : Skel σ R) : lnx σ 195 = 8 := hS.l 195 8 (by decide) rfl
theorem lq196 {σ : Shp} {R : Nat → Nat → Option Nat} (hS : Skel σ R) : lnx σ 196 = 8 := hS.l 196 8 (by decide) rfl
theorem lq197 {σ : Shp} {R : Nat → Nat → Option Nat} (hS : Skel σ R) : lnx σ 197 = 8 := hS.l 197 8 (by decide) rfl
theorem lq198 {σ : Shp} {R : Nat → Nat → Option Nat} (hS : Skel σ R) : lnx σ 198 = 8 := hS.l 198 8 (by decide) rfl
theorem lq199 {σ : Shp} {R : Nat → Nat → Option Nat} (hS : Skel σ R) : lnx σ 199 = 8 := hS.l 199 8 (by decide) rfl
theorem lq20 {σ : Shp} {R : Nat → Nat → Option Nat} (hS : Skel σ R) : lnx σ 20 = 3 := hS.l 20 3 (by decide) rfl
theorem lq200 {σ : Shp} {R : Nat → Nat → Option Nat} (hS : Skel σ R) : lnx σ 200 = 1280 := hS.l 200 1280 (by decide) rfl
theorem lq201 {σ : Shp} {R : Nat → Nat → Option Nat} (hS : Skel σ R) : lnx σ 201 = 64 := hS.l 201 64 (by decide) rfl
theorem lq21 {σ : Shp} {R : Nat → Nat → Option Nat} (hS : Skel σ R) : lnx σ 21 = 640 := hS.l 21 640 (by decide) rfl
theorem lq22 {σ : Shp} {R : Nat → Nat → Option Nat} (hS : Skel σ R) : lnx σ 22 = 640 := hS.l 22 640 (by decide) rfl
theorem lq23 {σ : Shp} {R : Nat → Nat → Option Nat} (hS : Skel σ R) : lnx σ 23 = 640 := hS.l 23 640 (by decide) rfl
theorem lq24 {σ : Shp} {R : Nat → Nat → Option Nat} (hS : Skel σ R) : lnx σ 24 = 160 := hS.l 24 160 (by decide) rfl
theorem lq25 {σ : Shp} {R : Nat → Nat → Option Nat} (hS : Skel σ R) : lnx σ 25 = 6 := hS.l 25 6 (by decide) rfl
theorem lq28 {σ : Shp} {R : Nat → Nat → Option Nat} (hS : Skel σ R) : lnx σ 28 = 3 := hS.l 28 3 (by decide) rfl
theorem lq32 {σ : Shp} {R : Nat → Nat → Option Nat} (hS : Skel σ R) : lnx σ 32 = 3 := hS.l 32 3 (by decide) rfl
theorem lq36 {σ : Shp} {R : Nat → Nat → Option Nat} (hS : Skel σ R) : lnx σ 36 = 3 := hS.l 36 3 (by decide) rfl
theorem lq37 {σ : Shp} {R : Nat → Nat → Option Nat} (hS : Skel σ R) : lnx σ 37 = 3 := hS.l 37 3 (by decide) rfl
theorem lq38 {σ : Shp} {R : Nat → Nat → Option Nat} (hS : Skel σ R) : lnx σ 38 = 3 := hS.l 38 3 (by decide) rfl
theorem lq39 {σ : Shp} {R : Nat → Nat → Option Nat} (hS : Skel σ R) : lnx σ 39 = 3 := hS.l 39 3 (by decide) rfl
theorem lq40 {σ : Shp} {R : Nat → Nat → Option Nat} (hS : Skel σ R) : lnx σ 40 = 3 := hS.l 40 3 (by decide) rfl
theorem lq41 {σ : Shp} {R : Nat → Nat → Option Nat} (hS : Skel σ R) : lnx σ 41 = 3 := hS.l 41 3 (by decide) rfl
theorem lq42 {σ : Shp} {R : Nat → Nat → Option Nat} (hS : Skel σ R) : lnx σ 42 = 9 := hS.l 42 9 (by decide) rfl
theorem lq52 {σ : Shp} {R : Nat → Nat → Option Nat} (hS : Skel σ R) : lnx σ 52 = 9 := hS.l 52 9 (by decide) rfl
theorem lq53 {σ : Shp} {R : Nat → Nat → Option Nat} (hS : Skel σ R) : lnx σ 53 = 9 := hS.l 53 9 (by decide) rfl
theorem lq54 {σ : Shp} {R : Nat → Nat → Option Nat} (hS : Skel σ R) : lnx σ 54 = 9 := hS.l 54 9 (by decide) rfl
theorem lq55 {σ : Shp} {R : Nat → Nat → Option Nat} (hS : Skel σ R) : lnx σ 55 = 3 := hS.l 55 3 (by decide) rfl
theorem lq56 {σ : Shp} {R : Nat → Nat → Option Nat} (hS : Skel σ R) : lnx σ 56 = 9 := hS.l 56 9 (by decide) rfl
theorem lq57 {σ : Shp} {R : Nat → Nat → Option Nat} (hS : Skel σ R) : lnx σ 57 = 3 := hS.l 57 3 (by decide) rfl
theorem lq6 {σ : Shp} {R : Nat → Nat → Option Nat} (hS : Skel σ R) : lnx σ 6 = 16 := hS.l 6 16 (by decide) rfl
theorem lq61 {σ : Shp} {R : Nat → Nat → Option Nat} (hS : Skel σ R) : lnx σ 61 = 5 := hS.l 61 5 (by decide) rfl
theorem lq62 {σ : Shp} {R : Nat → Nat → Option Nat} (hS : Skel σ R) : lnx σ 62 = 3 := hS.l 62 3 (by decide) rfl
theorem lq66 {σ : Shp} {R : Nat → Nat → Option Nat} (hS : Skel σ R) : lnx σ 66 = 3 := hS.l 66 3 (by decide) rfl
theorem lq70 {σ : Shp} {R : Nat → Nat → Option Nat} (hS : Skel σ R) : lnx σ 70 = 3 := hS.l 70 3 (by decide) rfl
theorem lq72 {σ : Shp} {R : Nat → Nat → Option Nat} (hS : Skel σ R) : lnx σ 72 = 6 := hS.l 72 6 (by decide) rfl
theorem lq79 {σ : Shp} {R : Nat → Nat → Option Nat} (hS : Skel σ R) : lnx σ 79 = 3 := hS.l 79 3 (by decide) rfl
theorem lq8 {σ : Shp} {R : Nat → Nat → Option Nat} (hS : Skel σ R) : lnx σ 8 = 128 := hS.l 8 128 (by decide) rfl
theorem lq83 {σ : Shp} {R : Nat → Nat → Option Nat} (hS : Skel σ R) : lnx σ 83 = 3 := hS.l 83 3 (by decide) rfl
theorem lq87 {σ : Shp} {R : Nat → Nat → Option Nat} (hS : Skel σ R) : lnx σ 87 = 3 := hS.l 87 3 (by decide) rfl
theorem lq88 {σ : Shp} {R : Nat → Nat → Option Nat} (hS : Skel σ R) : lnx σ 88 = 4 := hS.l 88 4 (by decide) rfl
theorem lq89 {σ : Shp} {R : Nat → Nat → Option Nat} (hS : Skel σ R) : lnx σ 89 = 4 := hS.l 89 4 (by decide) rfl
theorem lq90 {σ : Shp} {R : Nat → Nat → Option Nat} (hS : Skel σ R) : lnx σ 90 = 3 := hS.l 90 3 (by decide) rfl
theorem lq92 {σ : Shp} {R : Nat → Nat → Option Nat} (hS : Skel σ R) : lnx σ 92 = 2 := hS.l 92 2 (by decide) rfl
theorem lq95 {σ : Shp} {R : Nat → Nat → Option Nat} (hS : Skel σ R) : lnx σ 95 = 2 := hS.l 95 2 (by decide) rfl
theorem lq98 {σ : Shp} {R : Nat → Nat → Option Nat} (hS : Skel σ R) : lnx σ 98 = 2 := hS.l 98 2 (by decide) rfl
theorem lr101 {σ : Shp} {R : Nat → Nat → Option Nat} (hS : Skel σ R) {x : Int32} (h : ¬ (x < 0 ∨ 2 ≤ Int32.toNatClampNeg x)) : lnx σ (102 + Int32.toNatClampNeg x) = 4 := hS.lr (b := 101) (rowi h) (by decide) (by decide)
theorem lr28 {σ : Shp} {R : Nat → Nat → Option Nat} (hS : Skel σ R) {x : Int32} (h : ¬ (x < 0 ∨ 3 ≤ Int32.toNatClampNeg x)) : lnx σ (29 + Int32.toNatClampNeg x) = 8 := hS.lr (b := 28) (rowi h) (by decide) (by decide)
theorem lr32 {σ : Shp} {R : Nat → Nat → Option Nat} (hS : Skel σ R) {x : Int32} (h : ¬ (x < 0 ∨ 3 ≤ Int32.toNatClampNeg x)) : lnx σ (33 + Int32.toNatClampNeg x) = 8 := hS.lr (b := 32) (rowi h) (by decide) (by decide)
theorem lr42 {σ : Shp} {R : Nat → Nat → Option Nat} (hS : Skel σ R) {x : Int32} (h : ¬ (x < 0 ∨ 9 ≤ Int32.toNatClampNeg x)) : lnx σ (43 + Int32.toNatClampNeg x) = 5 := hS.lr (b := 42) (rowi h) (by decide) (by decide)
theorem lr57 {σ : Shp} {R : Nat → Nat → Option Nat} (hS : Skel σ R) {x : Int32} (h : ¬ (x < 0 ∨ 3 ≤ Int32.toNatClampNeg x)) : lnx σ (58 + Int32.toNatClampNeg x) = 11 := hS.lr (b := 57) (rowi h) (by decide) (by decide)
theorem lr62 {σ : Shp} {R : Nat → Nat → Option Nat} (hS : Skel σ R) {x : Int32} (h : ¬ (x < 0 ∨ 3 ≤ Int32.toNatClampNeg x)) : lnx σ (63 + Int32.toNatClampNeg x) = 6 := hS.lr (b := 62) (rowi h) (by decide) (by decide)
theorem lr66 {σ : Shp} {R : Nat → Nat → Option Nat} (hS : Skel σ R) {x : Int32} (h : ¬ (x < 0 ∨ 3 ≤ Int32.toNatClampNeg x)) : lnx σ (67 + Int32.toNatClampNeg x) = 6 := hS.lr (b := 66) (rowi h) (by decide) (by decide)
theorem lr72 {σ : Shp} {R : Nat → Nat → Option Nat} (hS : Skel σ R) {x : Int32} (h : ¬ (x < 0 ∨ 6 ≤ Int32.toNatClampNeg x)) : lnx σ (73 + Int32.toNatClampNeg x) = 3 := hS.lr (b := 72) (rowi h) (by decide) (by decide)
theorem lr79 {σ : Shp} {R : Nat → Nat → Option Nat} (hS : Skel σ R) {x : Int32} (h : ¬ (x < 0 ∨ 3 ≤ Int32.toNatClampNeg x)) : lnx σ (80 + Int32.toNatClampNeg x) = 8 := hS.lr (b := 79) (rowi h) (by decide) (by decide)
theorem lr83 {σ : Shp} {R : Nat → Nat → Option Nat} (hS : Skel σ R) {x : Int32} (h : ¬ (x < 0 ∨ 3 ≤ Int32.toNatClampNeg x)) : lnx σ (84 + Int32.toNatClampNeg x) = 8 := hS.lr (b := 83) (rowi h) (by decide) (by decide)
theorem lr92 {σ : Shp} {R : Nat → Nat → Option Nat} (hS : Skel σ R) {x : Int32} (h : ¬ (x < 0 ∨ 2 ≤ Int32.toNatClampNeg x)) : lnx σ (93 + Int32.toNatClampNeg x) = 4 := hS.lr (b := 92) (rowi h) (by decide) (by decide)
theorem lr95 {σ : Shp} {R : Nat → Nat → Option Nat} (hS : Skel σ R) {x : Int32} (h : ¬ (x < 0 ∨ 2 ≤ Int32.toNatClampNeg x)) : lnx σ (96 + Int32.toNatClampNeg x) = 4 := hS.lr (b := 95) (rowi h) (by decide) (by decide)
theorem lr98 {σ : Shp} {R : Nat → Nat → Option Nat} (hS : Skel σ R) {x : Int32} (h : ¬ (x < 0 ∨ 2 ≤ Int32.toNatClampNeg x)) : lnx σ (99 + Int32.toNatClampNeg x) = 4 := hS.lr (b := 98) (rowi h) (by decide) (by decide)
theorem rq108_0 {σ : Shp} {R : Nat → Nat → Option Nat} (hS : Skel σ R) : R 108 0 = some 109 := hS.r 108 0 109 111 rfl
theorem rq108_1 {σ : Shp} {R : Nat → Nat → Option Nat} (hS : Skel σ R) : R 108 1 = some 110 := hS.r 108 1 110 112 rfl
theorem rq108_2 {σ : Shp} {R : Nat → Nat → Option Nat} (hS : Skel σ R) : R 108 2 = some 111 := hS.r 108 2 111 113 rfl
theorem rq114_10 {σ : Shp} {R : Nat → Nat → Option Nat} (hS : Skel σ R) : R 114 10 = some 120 := hS.r 114 10 120 119 rfl
theorem rq114_100 {σ : Shp} {R : Nat → Nat → Option Nat} (hS : Skel σ R) : R 114 100 = some 178 := hS.r 114 100 178 177 rfl
theorem rq114_101 {σ : Shp} {R : Nat → Nat → Option Nat} (hS : Skel σ R) : R 114 101 = some 179 := hS.r 114 101 179 178 rfl
theorem rq114_102 {σ : Shp} {R : Nat → Nat → Option Nat} (hS : Skel σ R) : R 114 102 = some 180 := hS.r 114 102 180 179 rfl
theorem rq114_103 {σ : Shp} {R : Nat → Nat → Option Nat} (hS : Skel σ R) : R 114 103 = some 181 := hS.r 114 103 181 180 rfl
theorem rq114_104 {σ : Shp} {R : Nat → Nat → Option Nat} (hS : Skel σ R) : R 114 104 = some 182 := hS.r 114 104 182 181 rfl
theorem rq114_105 {σ : Shp} {R : Nat → Nat → Option Nat} (hS : Skel σ R) : R 114 105 = some 183 := hS.r 114 105 183 182 rfl
theorem rq114_106 {σ : Shp} {R : Nat → Nat → Option Nat} (hS : Skel σ R) : R 114 106 = some 184 := hS.r 114 106 184 183 rfl
theorem rq114_107 {σ : Shp} {R : Nat → Nat → Option Nat} (hS : Skel σ R) : R 114 107 = some 185 := hS.r 114 107 185 184 rfl
theorem rq114_108 {σ : Shp} {R : Nat → Nat → Option Nat} (hS : Skel σ R) : R 114 108 = some 186 := hS.r 114 108 186 185 rfl
theorem rq114_109 {σ : Shp} {R : Nat → Nat → Option Nat} (hS : Skel σ R) : R 114 109 = some 187 := hS.r 114 109 187 186 rfl
theorem rq114_11 {σ : Shp} {R : Nat → Nat → Option Nat} (hS : Skel σ R) : R 114 11 = some 121 := hS.r 114 11 121 120 rfl
theorem rq114_110 {σ : Shp} {R : Nat → Nat → Option Nat} (hS : Skel σ R) : R 114 110 = some 188 := hS.r 114 110 188 187 rfl
theorem rq114_111 {σ : Shp} {R : Nat → Nat → Option Nat} (hS : Skel σ R) : R 114 111 = some 189 := hS.r 114 111 189 188 rfl
theorem rq114_112 {σ : Shp} {R : Nat → Nat → Option Nat} (hS : Skel σ R) : R 114 112 = some 190 := hS.r 114 112 190 189 rfl
theorem rq114_113 {σ : Shp} {R : Nat → Nat → Option Nat} (hS : Skel σ R) : R 114 113 = some 191 := hS.r 114 113 191 190 rfl
theorem rq114_117 {σ : Shp} {R : Nat → Nat → Option Nat} (hS : Skel σ R) : R 114 117 = some 192 := hS.r 114 117 192 191 rfl
theorem rq114_118 {σ : Shp} {R : Nat → Nat → Option Nat} (hS : Skel σ R) : R 114 118 = some 193 := hS.r 114 118 193 192 rfl
theorem rq114_119 {σ : Shp} {R : Nat → Nat → Option Nat} (hS : Skel σ R) : R 114 119 = some 194 := hS.r 114 119 194 193 rfl
theorem rq114_12 {σ : Shp} {R : Nat → Nat → Option Nat} (hS : Skel σ R) : R 114 12 = some 122 := hS.r 114 12 122 121 rfl
theorem rq114_120 {σ : Shp} {R : Nat → Nat → Option Nat} (hS : Skel σ R) : R 114 120 = some 195 := hS.r 114 120 195 194 rfl
theorem rq114_121 {σ : Shp} {R : Nat → Nat → Option Nat} (hS : Skel σ R) : R 114 121 = some 196 := hS.r 114 121 196 195 rfl
theorem rq114_122 {σ : Shp} {R : Nat → Nat → Option Nat} (hS : Skel σ R) : R 114 122 = some 197 := hS.r 114 122 197 196 rfl
theorem rq114_123 {σ : Shp} {R : Nat → Nat → Option Nat} (hS : Skel σ R) : R 114 123 = some 198 := hS.r 114 123 198 197 rfl
theorem rq114_124 {σ : Shp} {R : Nat → Nat → Option Nat} (hS : Skel σ R) : R 114 124 = some 199 := hS.r 114 124 199 198 rfl
theorem rq114_127 {σ : Shp} {R : Nat → Nat → Option Nat} (hS : Skel σ R) : R 114 127 = some 200 := hS.r 114 127 200 199 rfl
theorem rq114_128 {σ : Shp} {R : Nat → Nat → Option Nat} (hS : Skel σ R) : R 114 128 = some 201 := hS.r 114 128 201 200 rfl
theorem rq114_13 {σ : Shp} {R : Nat → Nat → Option Nat} (hS : Skel σ R) : R 114 13 = some 123 := hS.r 114 13 123 122 rfl
theorem rq114_14 {σ : Shp} {R : Nat → Nat → Option Nat} (hS : Skel σ R) : R 114 14 = some 124 := hS.r 114 14 124 123 rfl
theorem rq114_15 {σ : Shp} {R : Nat → Nat → Option Nat} (hS : Skel σ R) : R 114 15 = some 125 := hS.r 114 15 125 124 rfl
theorem rq114_16 {σ : Shp} {R : Nat → Nat → Option Nat} (hS : Skel σ R) : R 114 16 = some 126 := hS.r 114 16 126 125 rfl
theorem rq114_17 {σ : Shp} {R : Nat → Nat → Option Nat} (hS : Skel σ R) : R 114 17 = some 127 := hS.r 114 17 127 126 rfl
theorem rq114_21 {σ : Shp} {R : Nat → Nat → Option Nat} (hS : Skel σ R) : R 114 21 = some 128 := hS.r 114 21 128 127 rfl
theorem rq114_23 {σ : Shp} {R : Nat → Nat → Option Nat} (hS : Skel σ R) : R 114 23 = some 129 := hS.r 114 23 129 128 rfl
theorem rq114_26 {σ : Shp} {R : Nat → Nat → Option Nat} (hS : Skel σ R) : R 114 26 = some 130 := hS.r 114 26 130 129 rfl
theorem rq114_27 {σ : Shp} {R : Nat → Nat → Option Nat} (hS : Skel σ R) : R 114 27 = some 131 := hS.r 114 27 131 130 rfl
theorem rq114_28 {σ : Shp} {R : Nat → Nat → Option Nat} (hS : Skel σ R) : R 114 28 = some 132 := hS.r 114 28 132 131 rfl
theorem rq114_3 {σ : Shp} {R : Nat → Nat → Option Nat} (hS : Skel σ R) : R 114 3 = some 115 := hS.r 114 3 115 114 rfl
theorem rq114_31 {σ : Shp} {R : Nat → Nat → Option Nat} (hS : Skel σ R) : R 114 31 = some 133 := hS.r 114 31 133 132 rfl
theorem rq114_33 {σ : Shp} {R : Nat → Nat → Option Nat} (hS : Skel σ R) : R 114 33 = some 134 := hS.r 114 33 134 133 rfl
theorem rq114_34 {σ : Shp} {R : Nat → Nat → Option Nat} (hS : Skel σ R) : R 114 34 = some 135 := hS.r 114 34 135 134 rfl
theorem rq114_35 {σ : Shp} {R : Nat → Nat → Option Nat} (hS : Skel σ R) : R 114 35 = some 136 := hS.r 114 35 136 135 rfl
theorem rq114_36 {σ : Shp} {R : Nat → Nat → Option Nat} (hS : Skel σ R) : R 114 36 = some 137 := hS.r 114 36 137 136 rfl
theorem rq114_37 {σ : Shp} {R : Nat → Nat → Option Nat} (hS : Skel σ R) : R 114 37 = some 138 := hS.r 114 37 138 137 rfl
theorem rq114_38 {σ : Shp} {R : Nat → Nat → Option Nat} (hS : Skel σ R) : R 114 38 = some 139 := hS.r 114 38 139 138 rfl
theorem rq114_39 {σ : Shp} {R : Nat → Nat → Option Nat} (hS : Skel σ R) : R 114 39 = some 140 := hS.r 114 39 140 139 rfl
theorem rq114_4 {σ : Shp} {R : Nat → Nat → Option Nat} (hS : Skel σ R) : R 114 4 = some 116 := hS.r 114 4 116 115 rfl
theorem rq114_40 {σ : Shp} {R : Nat → Nat → Option Nat} (hS : Skel σ R) : R 114 40 = some 141 := hS.r 114 40 141 140 rfl
theorem rq114_41 {σ : Shp} {R : Nat → Nat → Option Nat} (hS : Skel σ R) : R 114 41 = some 142 := hS.r 114 41 142 141 rfl
theorem rq114_43 {σ : Shp} {R : Nat → Nat → Option Nat} (hS : Skel σ R) : R 114 43 = some 143 := hS.r 114 43 143 142 rfl
theorem rq114_44 {σ : Shp} {R : Nat → Nat → Option Nat} (hS : Skel σ R) : R 114 44 = some 144 := hS.r 114 44 144 143 rfl
theorem rq114_45 {σ : Shp} {R : Nat → Nat → Option Nat} (hS : Skel σ R) : R 114 45 = some 145 := hS.r 114 45 145 144 rfl
theorem rq114_46 {σ : Shp} {R : Nat → Nat → Option Nat} (hS : Skel σ R) : R 114 46 = some 146 := hS.r 114 46 146 145 rfl
theorem rq114_47 {σ : Shp} {R : Nat → Nat → Option Nat} (hS : Skel σ R) : R 114 47 = some 147 := hS.r 114 47 147 146 rfl
theorem rq114_48 {σ : Shp} {R : Nat → Nat → Option Nat} (hS : Skel σ R) : R 114 48 = some 148 := hS.r 114 48 148 147 rfl
theorem rq114_49 {σ : Shp} {R : Nat → Nat → Option Nat} (hS : Skel σ R) : R 114 49 = some 149 := hS.r 114 49 149 148 rfl
theorem rq114_5 {σ : Shp} {R : Nat → Nat → Option Nat} (hS : Skel σ R) : R 114 5 = some 117 := hS.r 114 5 117 116 rfl
theorem rq114_50 {σ : Shp} {R : Nat → Nat → Option Nat} (hS : Skel σ R) : R 114 50 = some 150 := hS.r 114 50 150 149 rfl
theorem rq114_51 {σ : Shp} {R : Nat → Nat → Option Nat} (hS : Skel σ R) : R 114 51 = some 151 := hS.r 114 51 151 150 rfl
theorem rq114_52 {σ : Shp} {R : Nat → Nat → Option Nat} (hS : Skel σ R) : R 114 52 = some 152 := hS.r 114 52 152 151 rfl
theorem rq114_53 {σ : Shp} {R : Nat → Nat → Option Nat} (hS : Skel σ R) : R 114 53 = some 153 := hS.r 114 53 153 152 rfl
theorem rq114_55 {σ : Shp} {R : Nat → Nat → Option Nat} (hS : Skel σ R) : R 114 55 = some 154 := hS.r 114 55 154 153 rfl
theorem rq114_56 {σ : Shp} {R : Nat → Nat → Option Nat} (hS : Skel σ R) : R 114 56 = some 155 := hS.r 114 56 155 154 rfl
theorem rq114_6 {σ : Shp} {R : Nat → Nat → Option Nat} (hS : Skel σ R) : R 114 6 = some 118 := hS.r 114 6 118 117 rfl
theorem rq114_75 {σ : Shp} {R : Nat → Nat → Option Nat} (hS : Skel σ R) : R 114 75 = some 156 := hS.r 114 75 156 155 rfl
theorem rq114_76 {σ : Shp} {R : Nat → Nat → Option Nat} (hS : Skel σ R) : R 114 76 = some 157 := hS.r 114 76 157 156 rfl
theorem rq114_77 {σ : Shp} {R : Nat → Nat → Option Nat} (hS : Skel σ R) : R 114 77 = some 158 := hS.r 114 77 158 157 rfl
theorem rq114_78 {σ : Shp} {R : Nat → Nat → Option Nat} (hS : Skel σ R) : R 114 78 = some 159 := hS.r 114 78 159 158 rfl
theorem rq114_79 {σ : Shp} {R : Nat → Nat → Option Nat} (hS : Skel σ R) : R 114 79 = some 160 := hS.r 114 79 160 159 rfl
theorem rq114_8 {σ : Shp} {R : Nat → Nat → Option Nat} (hS : Skel σ R) : R 114 8 = some 119 := hS.r 114 8 119 118 rfl
theorem rq114_80 {σ : Shp} {R : Nat → Nat → Option Nat} (hS : Skel σ R) : R 114 80 = some 161 := hS.r 114 80 161 160 rfl
theorem rq114_81 {σ : Shp} {R : Nat → Nat → Option Nat} (hS : Skel σ R) : R 114 81 = some 162 := hS.r 114 81 162 161 rfl
theorem rq114_82 {σ : Shp} {R : Nat → Nat → Option Nat} (hS : Skel σ R) : R 114 82 = some 163 := hS.r 114 82 163 162 rfl
theorem rq114_84 {σ : Shp} {R : Nat → Nat → Option Nat} (hS : Skel σ R) : R 114 84 = some 164 := hS.r 114 84 164 163 rfl
theorem rq114_86 {σ : Shp} {R : Nat → Nat → Option Nat} (hS : Skel σ R) : R 114 86 = some 165 := hS.r 114 86 165 164 rfl
theorem rq114_87 {σ : Shp} {R : Nat → Nat → Option Nat} (hS : Skel σ R) : R 114 87 = some 166 := hS.r 114 87 166 165 rfl
theorem rq114_88 {σ : Shp} {R : Nat → Nat → Option Nat} (hS : Skel σ R) : R 114 88 = some 167 := hS.r 114 88 167 166 rfl
theorem rq114_89 {σ : Shp} {R : Nat → Nat → Option Nat} (hS : Skel σ R) : R 114 89 = some 168 := hS.r 114 89 168 167 rfl
theorem rq114_90 {σ : Shp} {R : Nat → Nat → Option Nat} (hS : Skel σ R) : R 114 90 = some 169 := hS.r 114 90 169 168 rfl
theorem rq114_91 {σ : Shp} {R : Nat → Nat → Option Nat} (hS : Skel σ R) : R 114 91 = some 170 := hS.r 114 91 170 169 rfl
theorem rq114_92 {σ : Shp} {R : Nat → Nat → Option Nat} (hS : Skel σ R) : R 114 92 = some 171 := hS.r 114 92 171 170 rfl
theorem rq114_93 {σ : Shp} {R : Nat → Nat → Option Nat} (hS : Skel σ R) : R 114 93 = some 172 := hS.r 114 93 172 171 rfl
theorem rq114_95 {σ : Shp} {R : Nat → Nat → Option Nat} (hS : Skel σ R) : R 114 95 = some 173 := hS.r 114 95 173 172 rfl
theorem rq114_96 {σ : Shp} {R : Nat → Nat → Option Nat} (hS : Skel σ R) : R 114 96 = some 174 := hS.r 114 96 174 173 rfl
theorem rq114_97 {σ : Shp} {R : Nat → Nat → Option Nat} (hS : Skel σ R) : R 114 97 = some 175 := hS.r 114 97 175 174 rfl
theorem rq114_98 {σ : Shp} {R : Nat → Nat → Option Nat} (hS : Skel σ R) : R 114 98 = some 176 := hS.r 114 98 176 175 rfl
theorem rq114_99 {σ : Shp} {R : Nat → Nat → Option Nat} (hS : Skel σ R) : R 114 99 = some 177 := hS.r 114 99 177 176 rfl
theorem rq17_0 {σ : Shp} {R : Nat → Nat → Option Nat} (hS : Skel σ R) : R 17 0 = some 18 := hS.r 17 0 18 26 rfl
theorem rq17_1 {σ : Shp} {R : Nat → Nat → Option Nat} (hS : Skel σ R) : R 17 1 = some 19 := hS.r 17 1 19 27 rfl
theorem rq17_2 {σ : Shp} {R : Nat → Nat → Option Nat} (hS : Skel σ R) : R 17 2 = some 20 := hS.r 17 2 20 28 rfl
theorem rq17_3 {σ : Shp} {R : Nat → Nat → Option Nat} (hS : Skel σ R) : R 17 3 = some 21 := hS.r 17 3 21 29 rfl
theorem rq17_4 {σ : Shp} {R : Nat → Nat → Option Nat} (hS : Skel σ R) : R 17 4 = some 22 := hS.r 17 4 22 30 rfl
theorem rq17_5 {σ : Shp} {R : Nat → Nat → Option Nat} (hS : Skel σ R) : R 17 5 = some 23 := hS.r 17 5 23 31 rfl
theorem rq26_0 {σ : Shp} {R : Nat → Nat → Option Nat} (hS : Skel σ R) : R 26 0 = some 27 := hS.r 26 0 27 32 rfl
theorem rq26_1 {σ : Shp} {R : Nat → Nat → Option Nat} (hS : Skel σ R) : R 26 1 = some 42 := hS.r 26 1 42 33 rfl
theorem rq26_10 {σ : Shp} {R : Nat → Nat → Option Nat} (hS : Skel σ R) : R 26 10 = some 62 := hS.r 26 10 62 41 rfl
theorem rq26_11 {σ : Shp} {R : Nat → Nat → Option Nat} (hS : Skel σ R) : R 26 11 = some 66 := hS.r 26 11 66 42 rfl
theorem rq26_12 {σ : Shp} {R : Nat → Nat → Option Nat} (hS : Skel σ R) : R 26 12 = some 70 := hS.r 26 12 70 43 rfl
theorem rq26_2 {σ : Shp} {R : Nat → Nat → Option Nat} (hS : Skel σ R) : R 26 2 = some 52 := hS.r 26 2 52 34 rfl
theorem rq26_3 {σ : Shp} {R : Nat → Nat → Option Nat} (hS : Skel σ R) : R 26 3 = some 53 := hS.r 26 3 53 35 rfl
theorem rq26_4 {σ : Shp} {R : Nat → Nat → Option Nat} (hS : Skel σ R) : R 26 4 = some 54 := hS.r 26 4 54 36 rfl
theorem rq26_5 {σ : Shp} {R : Nat → Nat → Option Nat} (hS : Skel σ R) : R 26 5 = some 55 := hS.r 26 5 55 37 rfl
theorem rq26_6 {σ : Shp} {R : Nat → Nat → Option Nat} (hS : Skel σ R) : R 26 6 = some 56 := hS.r 26 6 56 38 rfl
theorem rq26_8 {σ : Shp} {R : Nat → Nat → Option Nat} (hS : Skel σ R) : R 26 8 = some 57 := hS.r 26 8 57 39 rfl
theorem rq26_9 {σ : Shp} {R : Nat → Nat → Option Nat} (hS : Skel σ R) : R 26 9 = some 61 := hS.r 26 9 61 40 rfl
theorem rq27_0 {σ : Shp} {R : Nat → Nat → Option Nat} (hS : Skel σ R) : R 27 0 = some 28 := hS.r 27 0 28 44 rfl
theorem rq27_1 {σ : Shp} {R : Nat → Nat → Option Nat} (hS : Skel σ R) : R 27 1 = some 32 := hS.r 27 1 32 45 rfl
theorem rq27_2 {σ : Shp} {R : Nat → Nat → Option Nat} (hS : Skel σ R) : R 27 2 = some 36 := hS.r 27 2 36 46 rfl
theorem rq27_3 {σ : Shp} {R : Nat → Nat → Option Nat} (hS : Skel σ R) : R 27 3 = some 37 := hS.r 27 3 37 47 rfl
theorem rq27_4 {σ : Shp} {R : Nat → Nat → Option Nat} (hS : Skel σ R) : R 27 4 = some 38 := hS.r 27 4 38 48 rfl
theorem rq27_5 {σ : Shp} {R : Nat → Nat → Option Nat} (hS : Skel σ R) : R 27 5 = some 39 := hS.r 27 5 39 49 rfl
theorem rq27_6 {σ : Shp} {R : Nat → Nat → Option Nat} (hS : Skel σ R) : R 27 6 = some 40 := hS.r 27 6 40 50 rfl
theorem rq27_7 {σ : Shp} {R : Nat → Nat → Option Nat} (hS : Skel σ R) : R 27 7 = some 41 := hS.r 27 7 41 51 rfl
theorem rq4_0 {σ : Shp} {R : Nat → Nat → Option Nat} (hS : Skel σ R) : R 4 0 = some 5 := hS.r 4 0 5 0 rfl
theorem rq4_1 {σ : Shp} {R : Nat → Nat → Option Nat} (hS : Skel σ R) : R 4 1 = some 6 := hS.r 4 1 6 1 rfl
theorem rq4_10 {σ : Shp} {R : Nat → Nat → Option Nat} (hS : Skel σ R) : R 4 10 = some 112 := hS.r 4 10 112 10 rfl
theorem rq4_11 {σ : Shp} {R : Nat → Nat → Option Nat} (hS : Skel σ R) : R 4 11 = some 113 := hS.r 4 11 113 11 rfl
theorem rq4_2 {σ : Shp} {R : Nat → Nat → Option Nat} (hS : Skel σ R) : R 4 2 = some 7 := hS.r 4 2 7 2 rfl
theorem rq4_3 {σ : Shp} {R : Nat → Nat → Option Nat} (hS : Skel σ R) : R 4 3 = some 9 := hS.r 4 3 9 3 rfl
theorem rq4_4 {σ : Shp} {R : Nat → Nat → Option Nat} (hS : Skel σ R) : R 4 4 = some 17 := hS.r 4 4 17 4 rfl
theorem rq4_5 {σ : Shp} {R : Nat → Nat → Option Nat} (hS : Skel σ R) : R 4 5 = some 26 := hS.r 4 5 26 5 rfl
theorem rq4_6 {σ : Shp} {R : Nat → Nat → Option Nat} (hS : Skel σ R) : R 4 6 = some 27 := hS.r 4 6 27 6 rfl
theorem rq4_7 {σ : Shp} {R : Nat → Nat → Option Nat} (hS : Skel σ R) : R 4 7 = some 71 := hS.r 4 7 71 7 rfl
theorem rq4_8 {σ : Shp} {R : Nat → Nat → Option Nat} (hS : Skel σ R) : R 4 8 = some 91 := hS.r 4 8 91 8 rfl
theorem rq4_9 {σ : Shp} {R : Nat → Nat → Option Nat} (hS : Skel σ R) : R 4 9 = some 108 := hS.r 4 9 108 9 rfl
theorem rq5_0 {σ : Shp} {R : Nat → Nat → Option Nat} (hS : Skel σ R) : R 5 0 = some 6 := hS.r 5 0 6 12 rfl
theorem rq5_1 {σ : Shp} {R : Nat → Nat → Option Nat} (hS : Skel σ R) : R 5 1 = some 7 := hS.r 5 1 7 13 rfl
theorem rq5_2 {σ : Shp} {R : Nat → Nat → Option Nat} (hS : Skel σ R) : R 5 2 = some 9 := hS.r 5 2 9 14 rfl
theorem rq5_3 {σ : Shp} {R : Nat → Nat → Option Nat} (hS : Skel σ R) : R 5 3 = some 17 := hS.r 5 3 17 15 rfl
theorem rq5_4 {σ : Shp} {R : Nat → Nat → Option Nat} (hS : Skel σ R) : R 5 4 = some 24 := hS.r 5 4 24 16 rfl
theorem rq5_5 {σ : Shp} {R : Nat → Nat → Option Nat} (hS : Skel σ R) : R 5 5 = some 25 := hS.r 5 5 25 17 rfl
theorem rq7_0 {σ : Shp} {R : Nat → Nat → Option Nat} (hS : Skel σ R) : R 7 0 = some 8 := hS.r 7 0 8 18 rfl
theorem rq71_0 {σ : Shp} {R : Nat → Nat → Option Nat} (hS : Skel σ R) : R 71 0 = some 72 := hS.r 71 0 72 76 rfl
theorem rq71_1 {σ : Shp} {R : Nat → Nat → Option Nat} (hS : Skel σ R) : R 71 1 = some 79 := hS.r 71 1 79 77 rfl
theorem rq71_2 {σ : Shp} {R : Nat → Nat → Option Nat} (hS : Skel σ R) : R 71 2 = some 83 := hS.r 71 2 83 78 rfl
theorem rq71_3 {σ : Shp} {R : Nat → Nat → Option Nat} (hS : Skel σ R) : R 71 3 = some 87 := hS.r 71 3 87 79 rfl
theorem rq71_4 {σ : Shp} {R : Nat → Nat → Option Nat} (hS : Skel σ R) : R 71 4 = some 88 := hS.r 71 4 88 80 rfl
theorem rq71_5 {σ : Shp} {R : Nat → Nat → Option Nat} (hS : Skel σ R) : R 71 5 = some 89 := hS.r 71 5 89 81 rfl
theorem rq71_6 {σ : Shp} {R : Nat → Nat → Option Nat} (hS : Skel σ R) : R 71 6 = some 90 := hS.r 71 6 90 82 rfl
theorem rq9_0 {σ : Shp} {R : Nat → Nat → Option Nat} (hS : Skel σ R) : R 9 0 = some 10 := hS.r 9 0 10 19 rfl
theorem rq9_1 {σ : Shp} {R : Nat → Nat → Option Nat} (hS : Skel σ R) : R 9 1 = some 11 := hS.r 9 1 11 20 rfl
theorem rq9_2 {σ : Shp} {R : Nat → Nat → Option Nat} (hS : Skel σ R) : R 9 2 = some 12 := hS.r 9 2 12 21 rfl
theorem rq9_3 {σ : Shp} {R : Nat → Nat → Option Nat} (hS : Skel σ R) : R 9 3 = some 13 := hS.r 9 3 13 22 rfl
theorem rq9_4 {σ : Shp} {R : Nat → Nat → Option Nat} (hS : Skel σ R) : R 9 4 = some 14 := hS.r 9 4 14 23 rfl
theorem rq9_5 {σ : Shp} {R : Nat → Nat → Option Nat} (hS : Skel σ R) : R 9 5 = some 15 := hS.r 9 5 15 24 rfl
theorem rq9_6 {σ : Shp} {R : Nat → Nat → Option Nat} (hS : Skel σ R) : R 9 6 = some 16 := hS.r 9 6 16 25 rfl
theorem rq91_0 {σ : Shp} {R : Nat → Nat → Option Nat} (hS : Skel σ R) : R 91 0 = some 92 := hS.r 91 0 92 95 rfl
theorem rq91_1 {σ : Shp} {R : Nat → Nat → Option Nat} (hS : Skel σ R) : R 91 1 = some 95 := hS.r 91 1 95 96 rfl
theorem rq91_2 {σ : Shp} {R : Nat → Nat → Option Nat} (hS : Skel σ R) : R 91 2 = some 98 := hS.r 91 2 98 97 rfl
theorem rq91_3 {σ : Shp} {R : Nat → Nat → Option Nat} (hS : Skel σ R) : R 91 3 = some 101 := hS.r 91 3 101 98 rfl
theorem rq91_4 {σ : Shp} {R : Nat → Nat → Option Nat} (hS : Skel σ R) : R 91 4 = some 104 := hS.r 91 4 104 99 rfl
theorem rq91_5 {σ : Shp} {R : Nat → Nat → Option Nat} (hS : Skel σ R) : R 91 5 = some 105 := hS.r 91 5 105 100 rfl
theorem rq91_6 {σ : Shp} {R : Nat → Nat → Option Nat} (hS : Skel σ R) : R 91 6 = some 106 := hS.r 91 6 106 101 rfl
theorem rq91_7 {σ : Shp} {R : Nat → Nat → Option Nat} (hS : Skel σ R) : R 91 7 = some 107 := hS.r 91 7 107 102 rfl
theorem rr101 {σ : Shp} {R : Nat → Nat → Option Nat} (hS : Skel σ R) {x : Int32} (h : ¬ (x < 0 ∨ 2 ≤ Int32.toNatClampNeg x)) : R 101 (Int32.toNatClampNeg x) = some (102 + Int32.toNatClampNeg x) := hS.rr (b := 101) (rowi h) (by decide +kernel)
theorem rr28 {σ : Shp} {R : Nat → Nat → Option Nat} (hS : Skel σ R) {x : Int32} (h : ¬ (x < 0 ∨ 3 ≤ Int32.toNatClampNeg x)) : R 28 (Int32.toNatClampNeg x) = some (29 + Int32.toNatClampNeg x) := hS.rr (b := 28) (rowi h) (by decide +kernel)
theorem rr32 {σ : Shp} {R : Nat → Nat → Option Nat} (hS : Skel σ R) {x : Int32} (h : ¬ (x < 0 ∨ 3 ≤ Int32.toNatClampNeg x)) : R 32 (Int32.toNatClampNeg x) = some (33 + Int32.toNatClampNeg x) := hS.rr (b := 32) (rowi h) (by decide +kernel)
theorem rr42 {σ : Shp} {R : Nat → Nat → Option Nat} (hS : Skel σ R) {x : Int32} (h : ¬ (x < 0 ∨ 9 ≤ Int32.toNatClampNeg x)) : R 42 (Int32.toNatClampNeg x) = some (43 + Int32.toNatClampNeg x) := hS.rr (b := 42) (rowi h) (by decide +kernel)
theorem rr57 {σ : Shp} {R : Nat → Nat → Option Nat} (hS : Skel σ R) {x : Int32} (h : ¬ (x < 0 ∨ 3 ≤ Int32.toNatClampNeg x)) : R 57 (Int32.toNatClampNeg x) = some (58 + Int32.toNatClampNeg x) := hS.rr (b := 57) (rowi h) (by decide +kernel)
theorem rr62 {σ : Shp} {R : Nat → Nat → Option Nat} (hS : Skel σ R) {x : Int32} (h : ¬ (x < 0 ∨ 3 ≤ Int32.toNatClampNeg x)) : R 62 (Int32.toNatClampNeg x) = some (63 + Int32.toNatClampNeg x) := hS.rr (b := 62) (rowi h) (by decide +kernel)
theorem rr66 {σ : Shp} {R : Nat → Nat → Option Nat} (hS : Skel σ R) {x : Int32} (h : ¬ (x < 0 ∨ 3 ≤ Int32.toNatClampNeg x)) : R 66 (Int32.toNatClampNeg x) = some (67 + Int32.toNatClampNeg x) := hS.rr (b := 66) (rowi h) (by decide +kernel)
theorem rr72 {σ : Shp} {R : Nat → Nat → Option Nat} (hS : Skel σ R) {x : Int32} (h : ¬ (x < 0 ∨ 6 ≤ Int32.toNatClampNeg x)) : R 72 (Int32.toNatClampNeg x) = some (73 + Int32.toNatClampNeg x) := hS.rr (b := 72) (rowi h) (by decide +kernel)
theorem rr79 {σ : Shp} {R : Nat → Nat → Option Nat} (hS : Skel σ R) {x : Int32} (h : ¬ (x < 0 ∨ 3 ≤ Int32.toNatClampNeg x)) : R 79 (Int32.toNatClampNeg x) = some (80 + Int32.toNatClampNeg x) := hS.rr (b := 79) (rowi h) (by decide +kernel)
theorem rr83 {σ : Shp} {R : Nat → Nat → Option Nat} (hS : Skel σ R) {x : Int32} (h : ¬ (x < 0 ∨ 3 ≤ Int32.toNatClampNeg x)) : R 83 (Int32.toNatClampNeg x) = some (84 + Int32.toNatClampNeg x) := hS.rr (b := 83) (rowi h) (by decide +kernel)
theorem rr92 {σ : Shp} {R : Nat → Nat → Option Nat} (hS : Skel σ R) {x : Int32} (h : ¬ (x < 0 ∨ 2 ≤ Int32.toNatClampNeg x)) : R 92 (Int32.toNatClampNeg x) = some (93 + Int32.toNatClampNeg x) := hS.rr (b := 92) (rowi h) (by decide +kernel)
theorem rr95 {σ : Shp} {R : Nat → Nat → Option Nat} (hS : Skel σ R) {x : Int32} (h : ¬ (x < 0 ∨ 2 ≤ Int32.toNatClampNeg x)) : R 95 (Int32.toNatClampNeg x) = some (96 + Int32.toNatClampNeg x) := hS.rr (b := 95) (rowi h) (by decide +kernel)
theorem rr98 {σ : Shp} {R : Nat → Nat → Option Nat} (hS : Skel σ R) {x : Int32} (h : ¬ (x < 0 ∨ 2 ≤ Int32.toNatClampNeg x)) : R 98 (Int32.toNatClampNeg x) = some (99 + Int32.toNatClampNeg x) := hS.rr (b := 98) (rowi h) (by decide +kernel)
