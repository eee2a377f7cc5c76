/-! ===== the groups of the relation (laid by gen/grp.py) ===== -/
/-- the bits of a number (not of a NaN), as a long -/
def isNum (b : Int64) : Prop := (b &&& 9223372036854775807) ≤ 9218868437227405312
/-- the bits of a number, or the one NaN -/
def NumC (b : Int64) : Prop := isNum b ∨ b = 9221120237041090560
/-- a double that is a number, by the bits of its reading -/
def DOf (b : Int64) (d : UInt64) : Prop := (isNum b → d = b.toUInt64) ∧ (¬ isNum b → d = 0)
/-- a double that is a number not below 0 -/
def NumP (d : UInt64) : Prop := d &&& 9223372036854775807 ≤ 9218868437227405312

def GScal (I : Nat → Nat → Int32) : Prop :=
  ((I 4 12 = I 114 0)) ∧
  ((I 4 13 = I 114 1)) ∧
  ((I 4 14 = I 114 2)) ∧
  ((I 4 15 = I 114 18)) ∧
  ((I 4 16 = I 114 19)) ∧
  ((I 4 17 = I 114 22)) ∧
  ((I 4 18 = I 114 25)) ∧
  ((I 4 19 = I 114 32))
def KGScal : List (Nat × Nat) := [(1000000, 1000001), (1000001, 1000002), (1000002, 1000003), (1000018, 1000019), (1000019, 1000020), (1000022, 1000023), (1000025, 1000026), (1000032, 1000033), (2000012, 2000013), (2000013, 2000014), (2000014, 2000015), (2000015, 2000016), (2000016, 2000017), (2000017, 2000018), (2000018, 2000019), (2000019, 2000020)]
theorem GScal.kp {I I' : Nat → Nat → Int32} (hG : GScal I) (aI : Kp KGScal I I') : GScal I' := by
  unfold GScal at hG ⊢
  exact ⟨by rw [aI 4 12 rfl, aI 114 0 rfl]; exact hG.1 ,
    by rw [aI 4 13 rfl, aI 114 1 rfl]; exact hG.2.1 ,
    by rw [aI 4 14 rfl, aI 114 2 rfl]; exact hG.2.2.1 ,
    by rw [aI 4 15 rfl, aI 114 18 rfl]; exact hG.2.2.2.1 ,
    by rw [aI 4 16 rfl, aI 114 19 rfl]; exact hG.2.2.2.2.1 ,
    by rw [aI 4 17 rfl, aI 114 22 rfl]; exact hG.2.2.2.2.2.1 ,
    by rw [aI 4 18 rfl, aI 114 25 rfl]; exact hG.2.2.2.2.2.2.1 ,
    by rw [aI 4 19 rfl, aI 114 32 rfl]; exact hG.2.2.2.2.2.2.2 ⟩
def GPlan (I : Nat → Nat → Int32) : Prop :=
  (∀ p : Nat, p < 4 → (I 10 p = I 134 p)) ∧
  (∀ p : Nat, p < 4 → (Rn (I 134 p) 0 40)) ∧
  (∀ k : Nat, k < 160 → (I 11 k = I 135 k)) ∧
  (∀ k : Nat, k < 160 → (Rn (I 135 k) 0 20)) ∧
  (∀ k : Nat, k < 160 → (I 12 k = I 136 k)) ∧
  (∀ k : Nat, k < 160 → (I 13 k = I 137 k)) ∧
  (∀ k : Nat, k < 160 → (I 14 k = I 138 k))
def KGPlan : List (Nat × Nat) := [(10, 11), (11, 12), (12, 13), (13, 14), (14, 15), (134, 135), (135, 136), (136, 137), (137, 138), (138, 139)]
theorem GPlan.kp {I I' : Nat → Nat → Int32} (hG : GPlan I) (aI : Kp KGPlan I I') : GPlan I' := by
  unfold GPlan at hG ⊢
  exact ⟨fun p hp => by rw [aI 10 p rfl, aI 134 p rfl]; exact hG.1 p hp,
    fun p hp => by rw [aI 134 p rfl]; exact hG.2.1 p hp,
    fun k hk => by rw [aI 11 k rfl, aI 135 k rfl]; exact hG.2.2.1 k hk,
    fun k hk => by rw [aI 135 k rfl]; exact hG.2.2.2.1 k hk,
    fun k hk => by rw [aI 12 k rfl, aI 136 k rfl]; exact hG.2.2.2.2.1 k hk,
    fun k hk => by rw [aI 13 k rfl, aI 137 k rfl]; exact hG.2.2.2.2.2.1 k hk,
    fun k hk => by rw [aI 14 k rfl, aI 138 k rfl]; exact hG.2.2.2.2.2.2 k hk⟩
def GStore (I : Nat → Nat → Int32) (J : Nat → Nat → Int64) : Prop :=
  (∀ k : Nat, k < 6 → (J 18 k = J 139 k)) ∧
  (∀ k : Nat, k < 3 → (I 19 k = I 140 k)) ∧
  (∀ k : Nat, k < 3 → (I 20 k = I 141 k))
def KGStore : List (Nat × Nat) := [(18, 19), (19, 20), (20, 21), (139, 140), (140, 141), (141, 142)]
theorem GStore.kp {I I' : Nat → Nat → Int32} {J J' : Nat → Nat → Int64} (hG : GStore I J) (aI : Kp KGStore I I') (aJ : Kp KGStore J J') : GStore I' J' := by
  unfold GStore at hG ⊢
  exact ⟨fun k hk => by rw [aJ 18 k rfl, aJ 139 k rfl]; exact hG.1 k hk,
    fun k hk => by rw [aI 19 k rfl, aI 140 k rfl]; exact hG.2.1 k hk,
    fun k hk => by rw [aI 20 k rfl, aI 141 k rfl]; exact hG.2.2 k hk⟩
def GTrace (I : Nat → Nat → Int32) : Prop :=
  ((I 7 1 = I 114 24)) ∧
  ((Rn (I 114 24) 0 120)) ∧
  (∀ k : Nat, k < 120 → (Int32.ofInt (k : Int) < I 114 24 → I 8 k = I 129 k))
def KGTrace : List (Nat × Nat) := [(7, 8), (8, 9), (129, 130), (1000024, 1000025)]
theorem GTrace.kp {I I' : Nat → Nat → Int32} (hG : GTrace I) (aI : Kp KGTrace I I') : GTrace I' := by
  unfold GTrace at hG ⊢
  exact ⟨by rw [aI 7 1 rfl, aI 114 24 rfl]; exact hG.1 ,
    by rw [aI 114 24 rfl]; exact hG.2.1 ,
    fun k hk => by rw [aI 114 24 rfl, aI 8 k rfl, aI 129 k rfl]; exact hG.2.2 k hk⟩
def GRan (I : Nat → Nat → Int32) : Prop :=
  ((I 25 0 = 2 → I 114 74 = I 25 5)) ∧
  ((¬ I 25 0 = 2 → I 114 74 = 0)) ∧
  ((I 25 0 = 1 → I 114 71 = I 25 3)) ∧
  ((¬ I 25 0 = 1 → I 114 71 = -1)) ∧
  ((I 25 0 = 1 → I 114 72 = I 25 4)) ∧
  ((¬ I 25 0 = 1 → I 114 72 = 0)) ∧
  ((I 25 0 = 1 → I 114 73 = I 25 2)) ∧
  ((¬ I 25 0 = 1 → I 114 73 = 0)) ∧
  ((I 5 9 = I 114 65)) ∧
  ((I 5 10 = I 114 67)) ∧
  ((I 5 11 = I 114 68)) ∧
  ((I 5 12 = I 114 69)) ∧
  ((I 5 13 = I 114 70))
def KGRan : List (Nat × Nat) := [(5, 6), (25, 26), (1000065, 1000066), (1000067, 1000068), (1000068, 1000069), (1000069, 1000070), (1000070, 1000071), (1000071, 1000072), (1000072, 1000073), (1000073, 1000074), (1000074, 1000075)]
theorem GRan.kp {I I' : Nat → Nat → Int32} (hG : GRan I) (aI : Kp KGRan I I') : GRan I' := by
  unfold GRan at hG ⊢
  exact ⟨by rw [aI 25 0 rfl, aI 114 74 rfl, aI 25 5 rfl]; exact hG.1 ,
    by rw [aI 25 0 rfl, aI 114 74 rfl]; exact hG.2.1 ,
    by rw [aI 25 0 rfl, aI 114 71 rfl, aI 25 3 rfl]; exact hG.2.2.1 ,
    by rw [aI 25 0 rfl, aI 114 71 rfl]; exact hG.2.2.2.1 ,
    by rw [aI 25 0 rfl, aI 114 72 rfl, aI 25 4 rfl]; exact hG.2.2.2.2.1 ,
    by rw [aI 25 0 rfl, aI 114 72 rfl]; exact hG.2.2.2.2.2.1 ,
    by rw [aI 25 0 rfl, aI 114 73 rfl, aI 25 2 rfl]; exact hG.2.2.2.2.2.2.1 ,
    by rw [aI 25 0 rfl, aI 114 73 rfl]; exact hG.2.2.2.2.2.2.2.1 ,
    by rw [aI 5 9 rfl, aI 114 65 rfl]; exact hG.2.2.2.2.2.2.2.2.1 ,
    by rw [aI 5 10 rfl, aI 114 67 rfl]; exact hG.2.2.2.2.2.2.2.2.2.1 ,
    by rw [aI 5 11 rfl, aI 114 68 rfl]; exact hG.2.2.2.2.2.2.2.2.2.2.1 ,
    by rw [aI 5 12 rfl, aI 114 69 rfl]; exact hG.2.2.2.2.2.2.2.2.2.2.2.1 ,
    by rw [aI 5 13 rfl, aI 114 70 rfl]; exact hG.2.2.2.2.2.2.2.2.2.2.2.2 ⟩
def GTab (I : Nat → Nat → Int32) : Prop :=
  (∀ t : Nat, t < 3 → (I 36 t = I 156 t)) ∧
  (∀ t : Nat, t < 3 → (Rn (I 156 t) 0 8)) ∧
  (∀ t k : Nat, t < 3 → k < 8 → (I (29 + t) k = I 157 (8 * t + k))) ∧
  (∀ t k : Nat, t < 3 → k < 8 → (I (33 + t) k = I 158 (8 * t + k))) ∧
  (∀ k : Nat, k < 24 → (Rn (I 157 k) (-1000000) 1000000)) ∧
  (∀ k : Nat, k < 24 → (Rn (I 158 k) (-1000000) 1000000)) ∧
  (∀ t k : Nat, t < 3 → k < 7 → (Int32.ofInt ((k : Int) + 1) < I 156 t → I 157 (8 * t + k) < I 157 (8 * t + k + 1))) ∧
  (∀ t : Nat, t < 3 → (I 37 t = I 159 t + 1)) ∧
  (∀ t : Nat, t < 3 → (Rn (I 159 t) (-1) 2)) ∧
  (∀ t : Nat, t < 3 → (I 38 t = I 162 t)) ∧
  (∀ t : Nat, t < 3 → (Rn (I 162 t) 0 3)) ∧
  (∀ t : Nat, t < 3 → (I 39 t = I 160 t)) ∧
  (∀ t : Nat, t < 3 → (I 40 t = I 161 t)) ∧
  (∀ t : Nat, t < 3 → (I 160 t = I 161 t)) ∧
  (∀ t : Nat, t < 3 → (Rn (I 160 t) 0 1)) ∧
  (∀ t : Nat, t < 3 → (I 161 t = 0 → I 162 t = 0)) ∧
  (∀ k : Nat, k < 3 → (I 41 k = I 163 k)) ∧
  ((I 27 8 = I 114 83)) ∧
  ((Rn (I 114 83) 0 3)) ∧
  ((I 114 83 = I 160 0 + I 160 1 + I 160 2))
def KGTab : List (Nat × Nat) := [(27, 28), (29, 32), (33, 36), (36, 37), (37, 38), (38, 39), (39, 40), (40, 41), (41, 42), (156, 157), (157, 158), (158, 159), (159, 160), (160, 161), (161, 162), (162, 163), (163, 164), (1000083, 1000084)]
theorem GTab.kp {I I' : Nat → Nat → Int32} (hG : GTab I) (aI : Kp KGTab I I') : GTab I' := by
  unfold GTab at hG ⊢
  exact ⟨fun t ht => by rw [aI 36 t rfl, aI 156 t rfl]; exact hG.1 t ht,
    fun t ht => by rw [aI 156 t rfl]; exact hG.2.1 t ht,
    fun t k ht hk => by rw [aI (29 + t) k (keyo (L := [(29, 32)]) rfl rfl (inW_r (lo := 29) (n := 3) rfl ht)), aI 157 (8 * t + k) rfl]; exact hG.2.2.1 t k ht hk,
    fun t k ht hk => by rw [aI (33 + t) k (keyo (L := [(33, 36)]) rfl rfl (inW_r (lo := 33) (n := 3) rfl ht)), aI 158 (8 * t + k) rfl]; exact hG.2.2.2.1 t k ht hk,
    fun k hk => by rw [aI 157 k rfl]; exact hG.2.2.2.2.1 k hk,
    fun k hk => by rw [aI 158 k rfl]; exact hG.2.2.2.2.2.1 k hk,
    fun t k ht hk => by rw [aI 156 t rfl, aI 157 (8 * t + k) rfl, aI 157 (8 * t + k + 1) rfl]; exact hG.2.2.2.2.2.2.1 t k ht hk,
    fun t ht => by rw [aI 37 t rfl, aI 159 t rfl]; exact hG.2.2.2.2.2.2.2.1 t ht,
    fun t ht => by rw [aI 159 t rfl]; exact hG.2.2.2.2.2.2.2.2.1 t ht,
    fun t ht => by rw [aI 38 t rfl, aI 162 t rfl]; exact hG.2.2.2.2.2.2.2.2.2.1 t ht,
    fun t ht => by rw [aI 162 t rfl]; exact hG.2.2.2.2.2.2.2.2.2.2.1 t ht,
    fun t ht => by rw [aI 39 t rfl, aI 160 t rfl]; exact hG.2.2.2.2.2.2.2.2.2.2.2.1 t ht,
    fun t ht => by rw [aI 40 t rfl, aI 161 t rfl]; exact hG.2.2.2.2.2.2.2.2.2.2.2.2.1 t ht,
    fun t ht => by rw [aI 160 t rfl, aI 161 t rfl]; exact hG.2.2.2.2.2.2.2.2.2.2.2.2.2.1 t ht,
    fun t ht => by rw [aI 160 t rfl]; exact hG.2.2.2.2.2.2.2.2.2.2.2.2.2.2.1 t ht,
    fun t ht => by rw [aI 161 t rfl, aI 162 t rfl]; exact hG.2.2.2.2.2.2.2.2.2.2.2.2.2.2.2.1 t ht,
    fun k hk => by rw [aI 41 k rfl, aI 163 k rfl]; exact hG.2.2.2.2.2.2.2.2.2.2.2.2.2.2.2.2.1 k hk,
    by rw [aI 27 8 rfl, aI 114 83 rfl]; exact hG.2.2.2.2.2.2.2.2.2.2.2.2.2.2.2.2.2.1 ,
    by rw [aI 114 83 rfl]; exact hG.2.2.2.2.2.2.2.2.2.2.2.2.2.2.2.2.2.2.1 ,
    by rw [aI 114 83 rfl, aI 160 0 rfl, aI 160 1 rfl, aI 160 2 rfl]; exact hG.2.2.2.2.2.2.2.2.2.2.2.2.2.2.2.2.2.2.2 ⟩
def GHouse (I : Nat → Nat → Int32) (J : Nat → Nat → Int64) (D : Nat → Nat → UInt64) : Prop :=
  (∀ p : Nat, p < 9 → (I (43 + p) 0 = 1 - I 167 p)) ∧
  (∀ p : Nat, p < 9 → (Rn (I 167 p) 0 1)) ∧
  (∀ p : Nat, p < 9 → (I (43 + p) 1 = I 168 p)) ∧
  (∀ p : Nat, p < 9 → (I (43 + p) 2 = I 169 p)) ∧
  (∀ p : Nat, p < 9 → (I (43 + p) 3 = I 170 p)) ∧
  (∀ p : Nat, p < 9 → (I (43 + p) 4 = I 171 p)) ∧
  (∀ p : Nat, p < 9 → (J 52 p = J 165 p)) ∧
  (∀ p : Nat, p < 9 → (NumC (J 165 p))) ∧
  (∀ p : Nat, p < 9 → (J 54 p = J 166 p)) ∧
  (∀ p : Nat, p < 9 → (DOf (J 165 p) (D 53 p))) ∧
  (∀ h : Nat, h < 3 → (J 55 h = J 173 h)) ∧
  (∀ h : Nat, h < 3 → (NumC (J 173 h))) ∧
  ((D 26 7 = D 114 94)) ∧
  ((NumP (D 114 94))) ∧
  (∀ h : Nat, h < 3 → (J (58 + h) 0 = J 175 h)) ∧
  (∀ h : Nat, h < 3 → (J (58 + h) 1 = J 176 h)) ∧
  (∀ h : Nat, h < 3 → (J (58 + h) 2 = J 180 (6 * h))) ∧
  (∀ h : Nat, h < 3 → (J (58 + h) 3 = Int32.toInt64 (I 177 h))) ∧
  (∀ h : Nat, h < 3 → (J (58 + h) 4 = Int32.toInt64 (I 178 h))) ∧
  (∀ h : Nat, h < 3 → (J (58 + h) 5 = Int32.toInt64 (I 179 h))) ∧
  (∀ h k : Nat, h < 3 → k < 5 → (J (58 + h) (6 + k) = J 180 (6 * h + 1 + k))) ∧
  (∀ h : Nat, h < 3 → (Rn (I 177 h) 0 100)) ∧
  (∀ h : Nat, h < 3 → (Rn (I 178 h) 0 100)) ∧
  (∀ h : Nat, h < 3 → (Rn (I 179 h) (-4000) 4000)) ∧
  (∀ k : Nat, k < 5 → (I 61 k = I 174 k)) ∧
  (∀ k : Nat, k < 5 → (Rn (I 174 k) (-40000) 60000)) ∧
  (∀ h : Nat, h < 3 → (I 70 h = I 181 h)) ∧
  (∀ h : Nat, h < 3 → (Rn (I 181 h) 0 6)) ∧
  (∀ h k : Nat, h < 3 → k < 6 → (I (63 + h) k = I 182 (6 * h + k))) ∧
  (∀ h k : Nat, h < 3 → k < 6 → (I (67 + h) k = I 183 (6 * h + k))) ∧
  (∀ k : Nat, k < 18 → (Rn (I 182 k) 0 1439)) ∧
  (∀ k : Nat, k < 18 → (Rn (I 183 k) (-50000) 60000)) ∧
  (∀ h k : Nat, h < 3 → k < 5 → (Int32.ofInt ((k : Int) + 1) < I 181 h → I 182 (6 * h + k) < I 182 (6 * h + k + 1))) ∧
  ((I 26 13 = I 114 85)) ∧
  ((Rn (I 114 85) 0 100000)) ∧
  (∀ p : Nat, p < 9 → (I 171 p = 0 ↔ I 114 85 = 0)) ∧
  (∀ p : Nat, p < 9 → (Rn (I 171 p) 0 100000))
def KGHouse : List (Nat × Nat) := [(26, 27), (43, 52), (52, 53), (53, 54), (54, 55), (55, 56), (58, 61), (61, 62), (63, 66), (67, 70), (70, 71), (165, 166), (166, 167), (167, 168), (168, 169), (169, 170), (170, 171), (171, 172), (173, 174), (174, 175), (175, 176), (176, 177), (177, 178), (178, 179), (179, 180), (180, 181), (181, 182), (182, 183), (183, 184), (1000085, 1000086), (1000094, 1000095)]
theorem GHouse.kp {I I' : Nat → Nat → Int32} {J J' : Nat → Nat → Int64} {D D' : Nat → Nat → UInt64} (hG : GHouse I J D) (aI : Kp KGHouse I I') (aJ : Kp KGHouse J J') (aD : Kp KGHouse D D') : GHouse I' J' D' := by
  unfold GHouse at hG ⊢
  exact ⟨fun p hp => by rw [aI (43 + p) 0 (keyo (L := [(43, 52)]) rfl rfl (inW_r (lo := 43) (n := 9) rfl hp)), aI 167 p rfl]; exact hG.1 p hp,
    fun p hp => by rw [aI 167 p rfl]; exact hG.2.1 p hp,
    fun p hp => by rw [aI (43 + p) 1 (keyo (L := [(43, 52)]) rfl rfl (inW_r (lo := 43) (n := 9) rfl hp)), aI 168 p rfl]; exact hG.2.2.1 p hp,
    fun p hp => by rw [aI (43 + p) 2 (keyo (L := [(43, 52)]) rfl rfl (inW_r (lo := 43) (n := 9) rfl hp)), aI 169 p rfl]; exact hG.2.2.2.1 p hp,
    fun p hp => by rw [aI (43 + p) 3 (keyo (L := [(43, 52)]) rfl rfl (inW_r (lo := 43) (n := 9) rfl hp)), aI 170 p rfl]; exact hG.2.2.2.2.1 p hp,
    fun p hp => by rw [aI (43 + p) 4 (keyo (L := [(43, 52)]) rfl rfl (inW_r (lo := 43) (n := 9) rfl hp)), aI 171 p rfl]; exact hG.2.2.2.2.2.1 p hp,
    fun p hp => by rw [aJ 52 p rfl, aJ 165 p rfl]; exact hG.2.2.2.2.2.2.1 p hp,
    fun p hp => by rw [aJ 165 p rfl]; exact hG.2.2.2.2.2.2.2.1 p hp,
    fun p hp => by rw [aJ 54 p rfl, aJ 166 p rfl]; exact hG.2.2.2.2.2.2.2.2.1 p hp,
    fun p hp => by rw [aJ 165 p rfl, aD 53 p rfl]; exact hG.2.2.2.2.2.2.2.2.2.1 p hp,
    fun h hh => by rw [aJ 55 h rfl, aJ 173 h rfl]; exact hG.2.2.2.2.2.2.2.2.2.2.1 h hh,
    fun h hh => by rw [aJ 173 h rfl]; exact hG.2.2.2.2.2.2.2.2.2.2.2.1 h hh,
    by rw [aD 26 7 rfl, aD 114 94 rfl]; exact hG.2.2.2.2.2.2.2.2.2.2.2.2.1 ,
    by rw [aD 114 94 rfl]; exact hG.2.2.2.2.2.2.2.2.2.2.2.2.2.1 ,
    fun h hh => by rw [aJ (58 + h) 0 (keyo (L := [(58, 61)]) rfl rfl (inW_r (lo := 58) (n := 3) rfl hh)), aJ 175 h rfl]; exact hG.2.2.2.2.2.2.2.2.2.2.2.2.2.2.1 h hh,
    fun h hh => by rw [aJ (58 + h) 1 (keyo (L := [(58, 61)]) rfl rfl (inW_r (lo := 58) (n := 3) rfl hh)), aJ 176 h rfl]; exact hG.2.2.2.2.2.2.2.2.2.2.2.2.2.2.2.1 h hh,
    fun h hh => by rw [aJ (58 + h) 2 (keyo (L := [(58, 61)]) rfl rfl (inW_r (lo := 58) (n := 3) rfl hh)), aJ 180 (6 * h) rfl]; exact hG.2.2.2.2.2.2.2.2.2.2.2.2.2.2.2.2.1 h hh,
    fun h hh => by rw [aJ (58 + h) 3 (keyo (L := [(58, 61)]) rfl rfl (inW_r (lo := 58) (n := 3) rfl hh)), aI 177 h rfl]; exact hG.2.2.2.2.2.2.2.2.2.2.2.2.2.2.2.2.2.1 h hh,
    fun h hh => by rw [aJ (58 + h) 4 (keyo (L := [(58, 61)]) rfl rfl (inW_r (lo := 58) (n := 3) rfl hh)), aI 178 h rfl]; exact hG.2.2.2.2.2.2.2.2.2.2.2.2.2.2.2.2.2.2.1 h hh,
    fun h hh => by rw [aJ (58 + h) 5 (keyo (L := [(58, 61)]) rfl rfl (inW_r (lo := 58) (n := 3) rfl hh)), aI 179 h rfl]; exact hG.2.2.2.2.2.2.2.2.2.2.2.2.2.2.2.2.2.2.2.1 h hh,
    fun h k hh hk => by rw [aJ (58 + h) (6 + k) (keyo (L := [(58, 61)]) rfl rfl (inW_r (lo := 58) (n := 3) rfl hh)), aJ 180 (6 * h + 1 + k) rfl]; exact hG.2.2.2.2.2.2.2.2.2.2.2.2.2.2.2.2.2.2.2.2.1 h k hh hk,
    fun h hh => by rw [aI 177 h rfl]; exact hG.2.2.2.2.2.2.2.2.2.2.2.2.2.2.2.2.2.2.2.2.2.1 h hh,
    fun h hh => by rw [aI 178 h rfl]; exact hG.2.2.2.2.2.2.2.2.2.2.2.2.2.2.2.2.2.2.2.2.2.2.1 h hh,
    fun h hh => by rw [aI 179 h rfl]; exact hG.2.2.2.2.2.2.2.2.2.2.2.2.2.2.2.2.2.2.2.2.2.2.2.1 h hh,
    fun k hk => by rw [aI 61 k rfl, aI 174 k rfl]; exact hG.2.2.2.2.2.2.2.2.2.2.2.2.2.2.2.2.2.2.2.2.2.2.2.2.1 k hk,
    fun k hk => by rw [aI 174 k rfl]; exact hG.2.2.2.2.2.2.2.2.2.2.2.2.2.2.2.2.2.2.2.2.2.2.2.2.2.1 k hk,
    fun h hh => by rw [aI 70 h rfl, aI 181 h rfl]; exact hG.2.2.2.2.2.2.2.2.2.2.2.2.2.2.2.2.2.2.2.2.2.2.2.2.2.2.1 h hh,
    fun h hh => by rw [aI 181 h rfl]; exact hG.2.2.2.2.2.2.2.2.2.2.2.2.2.2.2.2.2.2.2.2.2.2.2.2.2.2.2.1 h hh,
    fun h k hh hk => by rw [aI (63 + h) k (keyo (L := [(63, 66)]) rfl rfl (inW_r (lo := 63) (n := 3) rfl hh)), aI 182 (6 * h + k) rfl]; exact hG.2.2.2.2.2.2.2.2.2.2.2.2.2.2.2.2.2.2.2.2.2.2.2.2.2.2.2.2.1 h k hh hk,
    fun h k hh hk => by rw [aI (67 + h) k (keyo (L := [(67, 70)]) rfl rfl (inW_r (lo := 67) (n := 3) rfl hh)), aI 183 (6 * h + k) rfl]; exact hG.2.2.2.2.2.2.2.2.2.2.2.2.2.2.2.2.2.2.2.2.2.2.2.2.2.2.2.2.2.1 h k hh hk,
    fun k hk => by rw [aI 182 k rfl]; exact hG.2.2.2.2.2.2.2.2.2.2.2.2.2.2.2.2.2.2.2.2.2.2.2.2.2.2.2.2.2.2.1 k hk,
    fun k hk => by rw [aI 183 k rfl]; exact hG.2.2.2.2.2.2.2.2.2.2.2.2.2.2.2.2.2.2.2.2.2.2.2.2.2.2.2.2.2.2.2.1 k hk,
    fun h k hh hk => by rw [aI 181 h rfl, aI 182 (6 * h + k) rfl, aI 182 (6 * h + k + 1) rfl]; exact hG.2.2.2.2.2.2.2.2.2.2.2.2.2.2.2.2.2.2.2.2.2.2.2.2.2.2.2.2.2.2.2.2.1 h k hh hk,
    by rw [aI 26 13 rfl, aI 114 85 rfl]; exact hG.2.2.2.2.2.2.2.2.2.2.2.2.2.2.2.2.2.2.2.2.2.2.2.2.2.2.2.2.2.2.2.2.2.1 ,
    by rw [aI 114 85 rfl]; exact hG.2.2.2.2.2.2.2.2.2.2.2.2.2.2.2.2.2.2.2.2.2.2.2.2.2.2.2.2.2.2.2.2.2.2.1 ,
    fun p hp => by rw [aI 171 p rfl, aI 114 85 rfl]; exact hG.2.2.2.2.2.2.2.2.2.2.2.2.2.2.2.2.2.2.2.2.2.2.2.2.2.2.2.2.2.2.2.2.2.2.2.1 p hp,
    fun p hp => by rw [aI 171 p rfl]; exact hG.2.2.2.2.2.2.2.2.2.2.2.2.2.2.2.2.2.2.2.2.2.2.2.2.2.2.2.2.2.2.2.2.2.2.2.2 p hp⟩
def GFeed (I : Nat → Nat → Int32) (J : Nat → Nat → Int64) : Prop :=
  (∀ s j : Nat, s < 6 → j < 3 → (I (73 + s) j = I 188 (3 * s + j))) ∧
  (∀ k : Nat, k < 12 → (Rn (I 188 k) 0 99)) ∧
  (∀ k : Nat, k < 6 → (Rn (I 188 (12 + k)) 0 999)) ∧
  (∀ k : Nat, k < 4 → (J 88 k = if I 114 115 = 1 ∧ I 114 116 = 0 then J 192 k else 0)) ∧
  (∀ k : Nat, k < 4 → (J 89 k = if I 114 115 = 1 ∧ I 114 116 = 0 then J 193 k else 0)) ∧
  (∀ k : Nat, k < 3 → (J 90 k = if I 114 115 = 1 ∧ I 114 116 = 1 then J 194 k else 0)) ∧
  ((I 71 7 = I 114 114)) ∧
  ((I 114 115 = 0 → I 114 114 = 0)) ∧
  ((Rn (I 114 115) 0 1)) ∧
  ((Rn (I 114 116) 0 1))
def KGFeed : List (Nat × Nat) := [(71, 72), (73, 79), (88, 89), (89, 90), (90, 91), (188, 189), (192, 193), (193, 194), (194, 195), (1000114, 1000115), (1000115, 1000116), (1000116, 1000117)]
theorem GFeed.kp {I I' : Nat → Nat → Int32} {J J' : Nat → Nat → Int64} (hG : GFeed I J) (aI : Kp KGFeed I I') (aJ : Kp KGFeed J J') : GFeed I' J' := by
  unfold GFeed at hG ⊢
  exact ⟨fun s j hs hj => by rw [aI (73 + s) j (keyo (L := [(73, 79)]) rfl rfl (inW_r (lo := 73) (n := 6) rfl hs)), aI 188 (3 * s + j) rfl]; exact hG.1 s j hs hj,
    fun k hk => by rw [aI 188 k rfl]; exact hG.2.1 k hk,
    fun k hk => by rw [aI 188 (12 + k) rfl]; exact hG.2.2.1 k hk,
    fun k hk => by rw [aJ 88 k rfl, aI 114 115 rfl, aI 114 116 rfl, aJ 192 k rfl]; exact hG.2.2.2.1 k hk,
    fun k hk => by rw [aJ 89 k rfl, aI 114 115 rfl, aI 114 116 rfl, aJ 193 k rfl]; exact hG.2.2.2.2.1 k hk,
    fun k hk => by rw [aJ 90 k rfl, aI 114 115 rfl, aI 114 116 rfl, aJ 194 k rfl]; exact hG.2.2.2.2.2.1 k hk,
    by rw [aI 71 7 rfl, aI 114 114 rfl]; exact hG.2.2.2.2.2.2.1 ,
    by rw [aI 114 115 rfl, aI 114 114 rfl]; exact hG.2.2.2.2.2.2.2.1 ,
    by rw [aI 114 115 rfl]; exact hG.2.2.2.2.2.2.2.2.1 ,
    by rw [aI 114 116 rfl]; exact hG.2.2.2.2.2.2.2.2.2 ⟩
def GPest (I : Nat → Nat → Int32) (J : Nat → Nat → Int64) : Prop :=
  (∀ p s : Nat, p < 2 → s < 4 → (J (93 + p) s = J 195 (4 * p + s))) ∧
  (∀ k : Nat, k < 8 → (RnJ (J 195 k) 0 1000000000)) ∧
  (∀ p s : Nat, p < 2 → s < 4 → (I (96 + p) s = I 196 (4 * p + s))) ∧
  (∀ k : Nat, k < 8 → (Rn (I 196 k) 0 1000)) ∧
  (∀ p s : Nat, p < 2 → s < 4 → (I (99 + p) s = I 197 (4 * p + s))) ∧
  (∀ k : Nat, k < 8 → (Rn (I 197 k) 0 1000)) ∧
  (∀ p s : Nat, p < 2 → s < 4 → (I (102 + p) s = I 198 (4 * p + s))) ∧
  (∀ k : Nat, k < 8 → (Rn (I 198 k) 0 1000)) ∧
  ((I 91 8 = I 114 125)) ∧
  ((I 91 9 = I 114 126)) ∧
  ((Rn (I 114 125) 0 10000)) ∧
  ((Rn (I 114 126) 0 7))
def KGPest : List (Nat × Nat) := [(91, 92), (93, 95), (96, 98), (99, 101), (102, 104), (195, 196), (196, 197), (197, 198), (198, 199), (1000125, 1000126), (1000126, 1000127)]
theorem GPest.kp {I I' : Nat → Nat → Int32} {J J' : Nat → Nat → Int64} (hG : GPest I J) (aI : Kp KGPest I I') (aJ : Kp KGPest J J') : GPest I' J' := by
  unfold GPest at hG ⊢
  exact ⟨fun p s hp hs => by rw [aJ (93 + p) s (keyo (L := [(93, 95)]) rfl rfl (inW_r (lo := 93) (n := 2) rfl hp)), aJ 195 (4 * p + s) rfl]; exact hG.1 p s hp hs,
    fun k hk => by rw [aJ 195 k rfl]; exact hG.2.1 k hk,
    fun p s hp hs => by rw [aI (96 + p) s (keyo (L := [(96, 98)]) rfl rfl (inW_r (lo := 96) (n := 2) rfl hp)), aI 196 (4 * p + s) rfl]; exact hG.2.2.1 p s hp hs,
    fun k hk => by rw [aI 196 k rfl]; exact hG.2.2.2.1 k hk,
    fun p s hp hs => by rw [aI (99 + p) s (keyo (L := [(99, 101)]) rfl rfl (inW_r (lo := 99) (n := 2) rfl hp)), aI 197 (4 * p + s) rfl]; exact hG.2.2.2.2.1 p s hp hs,
    fun k hk => by rw [aI 197 k rfl]; exact hG.2.2.2.2.2.1 k hk,
    fun p s hp hs => by rw [aI (102 + p) s (keyo (L := [(102, 104)]) rfl rfl (inW_r (lo := 102) (n := 2) rfl hp)), aI 198 (4 * p + s) rfl]; exact hG.2.2.2.2.2.2.1 p s hp hs,
    fun k hk => by rw [aI 198 k rfl]; exact hG.2.2.2.2.2.2.2.1 k hk,
    by rw [aI 91 8 rfl, aI 114 125 rfl]; exact hG.2.2.2.2.2.2.2.2.1 ,
    by rw [aI 91 9 rfl, aI 114 126 rfl]; exact hG.2.2.2.2.2.2.2.2.2.1 ,
    by rw [aI 114 125 rfl]; exact hG.2.2.2.2.2.2.2.2.2.2.1 ,
    by rw [aI 114 126 rfl]; exact hG.2.2.2.2.2.2.2.2.2.2.2 ⟩
def GBook (I : Nat → Nat → Int32) : Prop :=
  (∀ k : Nat, k < 1280 → (I 109 k = I 200 k)) ∧
  (∀ k : Nat, k < 1280 → (Rn (I 200 k) 0 255)) ∧
  ((I 108 3 = I 114 129)) ∧
  ((I 108 4 = I 114 130)) ∧
  ((I 108 5 = I 114 131)) ∧
  ((I 114 131 = 0 → I 108 6 = I 114 132)) ∧
  ((Rn (I 114 129) 0 2147483647)) ∧
  ((Rn (I 114 130) 0 20)) ∧
  ((Rn (I 114 131) 0 1)) ∧
  ((Rn (I 114 132) (-1) 200))
def KGBook : List (Nat × Nat) := [(108, 109), (109, 110), (200, 201), (1000129, 1000130), (1000130, 1000131), (1000131, 1000132), (1000132, 1000133)]
theorem GBook.kp {I I' : Nat → Nat → Int32} (hG : GBook I) (aI : Kp KGBook I I') : GBook I' := by
  unfold GBook at hG ⊢
  exact ⟨fun k hk => by rw [aI 109 k rfl, aI 200 k rfl]; exact hG.1 k hk,
    fun k hk => by rw [aI 200 k rfl]; exact hG.2.1 k hk,
    by rw [aI 108 3 rfl, aI 114 129 rfl]; exact hG.2.2.1 ,
    by rw [aI 108 4 rfl, aI 114 130 rfl]; exact hG.2.2.2.1 ,
    by rw [aI 108 5 rfl, aI 114 131 rfl]; exact hG.2.2.2.2.1 ,
    by rw [aI 114 131 rfl, aI 108 6 rfl, aI 114 132 rfl]; exact hG.2.2.2.2.2.1 ,
    by rw [aI 114 129 rfl]; exact hG.2.2.2.2.2.2.1 ,
    by rw [aI 114 130 rfl]; exact hG.2.2.2.2.2.2.2.1 ,
    by rw [aI 114 131 rfl]; exact hG.2.2.2.2.2.2.2.2.1 ,
    by rw [aI 114 132 rfl]; exact hG.2.2.2.2.2.2.2.2.2 ⟩
theorem GScal.e0 {I : Nat → Nat → Int32} (h : GScal I) : ((I 4 12 = I 114 0)) := h.1
theorem GScal.e1 {I : Nat → Nat → Int32} (h : GScal I) : ((I 4 13 = I 114 1)) := h.2.1
theorem GScal.e2 {I : Nat → Nat → Int32} (h : GScal I) : ((I 4 14 = I 114 2)) := h.2.2.1
theorem GScal.e3 {I : Nat → Nat → Int32} (h : GScal I) : ((I 4 15 = I 114 18)) := h.2.2.2.1
theorem GScal.e4 {I : Nat → Nat → Int32} (h : GScal I) : ((I 4 16 = I 114 19)) := h.2.2.2.2.1
theorem GScal.e5 {I : Nat → Nat → Int32} (h : GScal I) : ((I 4 17 = I 114 22)) := h.2.2.2.2.2.1
theorem GScal.e6 {I : Nat → Nat → Int32} (h : GScal I) : ((I 4 18 = I 114 25)) := h.2.2.2.2.2.2.1
theorem GScal.e7 {I : Nat → Nat → Int32} (h : GScal I) : ((I 4 19 = I 114 32)) := h.2.2.2.2.2.2.2
theorem GPlan.e0 {I : Nat → Nat → Int32} (h : GPlan I) : (∀ p : Nat, p < 4 → (I 10 p = I 134 p)) := h.1
theorem GPlan.e1 {I : Nat → Nat → Int32} (h : GPlan I) : (∀ p : Nat, p < 4 → (Rn (I 134 p) 0 40)) := h.2.1
theorem GPlan.e2 {I : Nat → Nat → Int32} (h : GPlan I) : (∀ k : Nat, k < 160 → (I 11 k = I 135 k)) := h.2.2.1
theorem GPlan.e3 {I : Nat → Nat → Int32} (h : GPlan I) : (∀ k : Nat, k < 160 → (Rn (I 135 k) 0 20)) := h.2.2.2.1
theorem GPlan.e4 {I : Nat → Nat → Int32} (h : GPlan I) : (∀ k : Nat, k < 160 → (I 12 k = I 136 k)) := h.2.2.2.2.1
theorem GPlan.e5 {I : Nat → Nat → Int32} (h : GPlan I) : (∀ k : Nat, k < 160 → (I 13 k = I 137 k)) := h.2.2.2.2.2.1
theorem GPlan.e6 {I : Nat → Nat → Int32} (h : GPlan I) : (∀ k : Nat, k < 160 → (I 14 k = I 138 k)) := h.2.2.2.2.2.2
theorem GStore.e0 {I : Nat → Nat → Int32} {J : Nat → Nat → Int64} (h : GStore I J) : (∀ k : Nat, k < 6 → (J 18 k = J 139 k)) := h.1
theorem GStore.e1 {I : Nat → Nat → Int32} {J : Nat → Nat → Int64} (h : GStore I J) : (∀ k : Nat, k < 3 → (I 19 k = I 140 k)) := h.2.1
theorem GStore.e2 {I : Nat → Nat → Int32} {J : Nat → Nat → Int64} (h : GStore I J) : (∀ k : Nat, k < 3 → (I 20 k = I 141 k)) := h.2.2
theorem GTrace.e0 {I : Nat → Nat → Int32} (h : GTrace I) : ((I 7 1 = I 114 24)) := h.1
theorem GTrace.e1 {I : Nat → Nat → Int32} (h : GTrace I) : ((Rn (I 114 24) 0 120)) := h.2.1
theorem GTrace.e2 {I : Nat → Nat → Int32} (h : GTrace I) : (∀ k : Nat, k < 120 → (Int32.ofInt (k : Int) < I 114 24 → I 8 k = I 129 k)) := h.2.2
theorem GRan.e0 {I : Nat → Nat → Int32} (h : GRan I) : ((I 25 0 = 2 → I 114 74 = I 25 5)) := h.1
theorem GRan.e1 {I : Nat → Nat → Int32} (h : GRan I) : ((¬ I 25 0 = 2 → I 114 74 = 0)) := h.2.1
theorem GRan.e2 {I : Nat → Nat → Int32} (h : GRan I) : ((I 25 0 = 1 → I 114 71 = I 25 3)) := h.2.2.1
theorem GRan.e3 {I : Nat → Nat → Int32} (h : GRan I) : ((¬ I 25 0 = 1 → I 114 71 = -1)) := h.2.2.2.1
theorem GRan.e4 {I : Nat → Nat → Int32} (h : GRan I) : ((I 25 0 = 1 → I 114 72 = I 25 4)) := h.2.2.2.2.1
theorem GRan.e5 {I : Nat → Nat → Int32} (h : GRan I) : ((¬ I 25 0 = 1 → I 114 72 = 0)) := h.2.2.2.2.2.1
theorem GRan.e6 {I : Nat → Nat → Int32} (h : GRan I) : ((I 25 0 = 1 → I 114 73 = I 25 2)) := h.2.2.2.2.2.2.1
theorem GRan.e7 {I : Nat → Nat → Int32} (h : GRan I) : ((¬ I 25 0 = 1 → I 114 73 = 0)) := h.2.2.2.2.2.2.2.1
theorem GRan.e8 {I : Nat → Nat → Int32} (h : GRan I) : ((I 5 9 = I 114 65)) := h.2.2.2.2.2.2.2.2.1
theorem GRan.e9 {I : Nat → Nat → Int32} (h : GRan I) : ((I 5 10 = I 114 67)) := h.2.2.2.2.2.2.2.2.2.1
theorem GRan.e10 {I : Nat → Nat → Int32} (h : GRan I) : ((I 5 11 = I 114 68)) := h.2.2.2.2.2.2.2.2.2.2.1
theorem GRan.e11 {I : Nat → Nat → Int32} (h : GRan I) : ((I 5 12 = I 114 69)) := h.2.2.2.2.2.2.2.2.2.2.2.1
theorem GRan.e12 {I : Nat → Nat → Int32} (h : GRan I) : ((I 5 13 = I 114 70)) := h.2.2.2.2.2.2.2.2.2.2.2.2
theorem GTab.e0 {I : Nat → Nat → Int32} (h : GTab I) : (∀ t : Nat, t < 3 → (I 36 t = I 156 t)) := h.1
theorem GTab.e1 {I : Nat → Nat → Int32} (h : GTab I) : (∀ t : Nat, t < 3 → (Rn (I 156 t) 0 8)) := h.2.1
theorem GTab.e2 {I : Nat → Nat → Int32} (h : GTab I) : (∀ t k : Nat, t < 3 → k < 8 → (I (29 + t) k = I 157 (8 * t + k))) := h.2.2.1
theorem GTab.e3 {I : Nat → Nat → Int32} (h : GTab I) : (∀ t k : Nat, t < 3 → k < 8 → (I (33 + t) k = I 158 (8 * t + k))) := h.2.2.2.1
theorem GTab.e4 {I : Nat → Nat → Int32} (h : GTab I) : (∀ k : Nat, k < 24 → (Rn (I 157 k) (-1000000) 1000000)) := h.2.2.2.2.1
theorem GTab.e5 {I : Nat → Nat → Int32} (h : GTab I) : (∀ k : Nat, k < 24 → (Rn (I 158 k) (-1000000) 1000000)) := h.2.2.2.2.2.1
theorem GTab.e6 {I : Nat → Nat → Int32} (h : GTab I) : (∀ t k : Nat, t < 3 → k < 7 → (Int32.ofInt ((k : Int) + 1) < I 156 t → I 157 (8 * t + k) < I 157 (8 * t + k + 1))) := h.2.2.2.2.2.2.1
theorem GTab.e7 {I : Nat → Nat → Int32} (h : GTab I) : (∀ t : Nat, t < 3 → (I 37 t = I 159 t + 1)) := h.2.2.2.2.2.2.2.1
theorem GTab.e8 {I : Nat → Nat → Int32} (h : GTab I) : (∀ t : Nat, t < 3 → (Rn (I 159 t) (-1) 2)) := h.2.2.2.2.2.2.2.2.1
theorem GTab.e9 {I : Nat → Nat → Int32} (h : GTab I) : (∀ t : Nat, t < 3 → (I 38 t = I 162 t)) := h.2.2.2.2.2.2.2.2.2.1
theorem GTab.e10 {I : Nat → Nat → Int32} (h : GTab I) : (∀ t : Nat, t < 3 → (Rn (I 162 t) 0 3)) := h.2.2.2.2.2.2.2.2.2.2.1
theorem GTab.e11 {I : Nat → Nat → Int32} (h : GTab I) : (∀ t : Nat, t < 3 → (I 39 t = I 160 t)) := h.2.2.2.2.2.2.2.2.2.2.2.1
theorem GTab.e12 {I : Nat → Nat → Int32} (h : GTab I) : (∀ t : Nat, t < 3 → (I 40 t = I 161 t)) := h.2.2.2.2.2.2.2.2.2.2.2.2.1
theorem GTab.e13 {I : Nat → Nat → Int32} (h : GTab I) : (∀ t : Nat, t < 3 → (I 160 t = I 161 t)) := h.2.2.2.2.2.2.2.2.2.2.2.2.2.1
theorem GTab.e14 {I : Nat → Nat → Int32} (h : GTab I) : (∀ t : Nat, t < 3 → (Rn (I 160 t) 0 1)) := h.2.2.2.2.2.2.2.2.2.2.2.2.2.2.1
theorem GTab.e15 {I : Nat → Nat → Int32} (h : GTab I) : (∀ t : Nat, t < 3 → (I 161 t = 0 → I 162 t = 0)) := h.2.2.2.2.2.2.2.2.2.2.2.2.2.2.2.1
theorem GTab.e16 {I : Nat → Nat → Int32} (h : GTab I) : (∀ k : Nat, k < 3 → (I 41 k = I 163 k)) := h.2.2.2.2.2.2.2.2.2.2.2.2.2.2.2.2.1
theorem GTab.e17 {I : Nat → Nat → Int32} (h : GTab I) : ((I 27 8 = I 114 83)) := h.2.2.2.2.2.2.2.2.2.2.2.2.2.2.2.2.2.1
theorem GTab.e18 {I : Nat → Nat → Int32} (h : GTab I) : ((Rn (I 114 83) 0 3)) := h.2.2.2.2.2.2.2.2.2.2.2.2.2.2.2.2.2.2.1
theorem GTab.e19 {I : Nat → Nat → Int32} (h : GTab I) : ((I 114 83 = I 160 0 + I 160 1 + I 160 2)) := h.2.2.2.2.2.2.2.2.2.2.2.2.2.2.2.2.2.2.2
theorem GHouse.e0 {I : Nat → Nat → Int32} {J : Nat → Nat → Int64} {D : Nat → Nat → UInt64} (h : GHouse I J D) : (∀ p : Nat, p < 9 → (I (43 + p) 0 = 1 - I 167 p)) := h.1
theorem GHouse.e1 {I : Nat → Nat → Int32} {J : Nat → Nat → Int64} {D : Nat → Nat → UInt64} (h : GHouse I J D) : (∀ p : Nat, p < 9 → (Rn (I 167 p) 0 1)) := h.2.1
theorem GHouse.e2 {I : Nat → Nat → Int32} {J : Nat → Nat → Int64} {D : Nat → Nat → UInt64} (h : GHouse I J D) : (∀ p : Nat, p < 9 → (I (43 + p) 1 = I 168 p)) := h.2.2.1
theorem GHouse.e3 {I : Nat → Nat → Int32} {J : Nat → Nat → Int64} {D : Nat → Nat → UInt64} (h : GHouse I J D) : (∀ p : Nat, p < 9 → (I (43 + p) 2 = I 169 p)) := h.2.2.2.1
theorem GHouse.e4 {I : Nat → Nat → Int32} {J : Nat → Nat → Int64} {D : Nat → Nat → UInt64} (h : GHouse I J D) : (∀ p : Nat, p < 9 → (I (43 + p) 3 = I 170 p)) := h.2.2.2.2.1
theorem GHouse.e5 {I : Nat → Nat → Int32} {J : Nat → Nat → Int64} {D : Nat → Nat → UInt64} (h : GHouse I J D) : (∀ p : Nat, p < 9 → (I (43 + p) 4 = I 171 p)) := h.2.2.2.2.2.1
theorem GHouse.e6 {I : Nat → Nat → Int32} {J : Nat → Nat → Int64} {D : Nat → Nat → UInt64} (h : GHouse I J D) : (∀ p : Nat, p < 9 → (J 52 p = J 165 p)) := h.2.2.2.2.2.2.1
theorem GHouse.e7 {I : Nat → Nat → Int32} {J : Nat → Nat → Int64} {D : Nat → Nat → UInt64} (h : GHouse I J D) : (∀ p : Nat, p < 9 → (NumC (J 165 p))) := h.2.2.2.2.2.2.2.1
theorem GHouse.e8 {I : Nat → Nat → Int32} {J : Nat → Nat → Int64} {D : Nat → Nat → UInt64} (h : GHouse I J D) : (∀ p : Nat, p < 9 → (J 54 p = J 166 p)) := h.2.2.2.2.2.2.2.2.1
theorem GHouse.e9 {I : Nat → Nat → Int32} {J : Nat → Nat → Int64} {D : Nat → Nat → UInt64} (h : GHouse I J D) : (∀ p : Nat, p < 9 → (DOf (J 165 p) (D 53 p))) := h.2.2.2.2.2.2.2.2.2.1
theorem GHouse.e10 {I : Nat → Nat → Int32} {J : Nat → Nat → Int64} {D : Nat → Nat → UInt64} (h : GHouse I J D) : (∀ h : Nat, h < 3 → (J 55 h = J 173 h)) := h.2.2.2.2.2.2.2.2.2.2.1
theorem GHouse.e11 {I : Nat → Nat → Int32} {J : Nat → Nat → Int64} {D : Nat → Nat → UInt64} (h : GHouse I J D) : (∀ h : Nat, h < 3 → (NumC (J 173 h))) := h.2.2.2.2.2.2.2.2.2.2.2.1
theorem GHouse.e12 {I : Nat → Nat → Int32} {J : Nat → Nat → Int64} {D : Nat → Nat → UInt64} (h : GHouse I J D) : ((D 26 7 = D 114 94)) := h.2.2.2.2.2.2.2.2.2.2.2.2.1
theorem GHouse.e13 {I : Nat → Nat → Int32} {J : Nat → Nat → Int64} {D : Nat → Nat → UInt64} (h : GHouse I J D) : ((NumP (D 114 94))) := h.2.2.2.2.2.2.2.2.2.2.2.2.2.1
theorem GHouse.e14 {I : Nat → Nat → Int32} {J : Nat → Nat → Int64} {D : Nat → Nat → UInt64} (h : GHouse I J D) : (∀ h : Nat, h < 3 → (J (58 + h) 0 = J 175 h)) := h.2.2.2.2.2.2.2.2.2.2.2.2.2.2.1
theorem GHouse.e15 {I : Nat → Nat → Int32} {J : Nat → Nat → Int64} {D : Nat → Nat → UInt64} (h : GHouse I J D) : (∀ h : Nat, h < 3 → (J (58 + h) 1 = J 176 h)) := h.2.2.2.2.2.2.2.2.2.2.2.2.2.2.2.1
theorem GHouse.e16 {I : Nat → Nat → Int32} {J : Nat → Nat → Int64} {D : Nat → Nat → UInt64} (h : GHouse I J D) : (∀ h : Nat, h < 3 → (J (58 + h) 2 = J 180 (6 * h))) := h.2.2.2.2.2.2.2.2.2.2.2.2.2.2.2.2.1
theorem GHouse.e17 {I : Nat → Nat → Int32} {J : Nat → Nat → Int64} {D : Nat → Nat → UInt64} (h : GHouse I J D) : (∀ h : Nat, h < 3 → (J (58 + h) 3 = Int32.toInt64 (I 177 h))) := h.2.2.2.2.2.2.2.2.2.2.2.2.2.2.2.2.2.1
theorem GHouse.e18 {I : Nat → Nat → Int32} {J : Nat → Nat → Int64} {D : Nat → Nat → UInt64} (h : GHouse I J D) : (∀ h : Nat, h < 3 → (J (58 + h) 4 = Int32.toInt64 (I 178 h))) := h.2.2.2.2.2.2.2.2.2.2.2.2.2.2.2.2.2.2.1
theorem GHouse.e19 {I : Nat → Nat → Int32} {J : Nat → Nat → Int64} {D : Nat → Nat → UInt64} (h : GHouse I J D) : (∀ h : Nat, h < 3 → (J (58 + h) 5 = Int32.toInt64 (I 179 h))) := h.2.2.2.2.2.2.2.2.2.2.2.2.2.2.2.2.2.2.2.1
theorem GHouse.e20 {I : Nat → Nat → Int32} {J : Nat → Nat → Int64} {D : Nat → Nat → UInt64} (h : GHouse I J D) : (∀ h k : Nat, h < 3 → k < 5 → (J (58 + h) (6 + k) = J 180 (6 * h + 1 + k))) := h.2.2.2.2.2.2.2.2.2.2.2.2.2.2.2.2.2.2.2.2.1
theorem GHouse.e21 {I : Nat → Nat → Int32} {J : Nat → Nat → Int64} {D : Nat → Nat → UInt64} (h : GHouse I J D) : (∀ h : Nat, h < 3 → (Rn (I 177 h) 0 100)) := h.2.2.2.2.2.2.2.2.2.2.2.2.2.2.2.2.2.2.2.2.2.1
theorem GHouse.e22 {I : Nat → Nat → Int32} {J : Nat → Nat → Int64} {D : Nat → Nat → UInt64} (h : GHouse I J D) : (∀ h : Nat, h < 3 → (Rn (I 178 h) 0 100)) := h.2.2.2.2.2.2.2.2.2.2.2.2.2.2.2.2.2.2.2.2.2.2.1
theorem GHouse.e23 {I : Nat → Nat → Int32} {J : Nat → Nat → Int64} {D : Nat → Nat → UInt64} (h : GHouse I J D) : (∀ h : Nat, h < 3 → (Rn (I 179 h) (-4000) 4000)) := h.2.2.2.2.2.2.2.2.2.2.2.2.2.2.2.2.2.2.2.2.2.2.2.1
theorem GHouse.e24 {I : Nat → Nat → Int32} {J : Nat → Nat → Int64} {D : Nat → Nat → UInt64} (h : GHouse I J D) : (∀ k : Nat, k < 5 → (I 61 k = I 174 k)) := h.2.2.2.2.2.2.2.2.2.2.2.2.2.2.2.2.2.2.2.2.2.2.2.2.1
theorem GHouse.e25 {I : Nat → Nat → Int32} {J : Nat → Nat → Int64} {D : Nat → Nat → UInt64} (h : GHouse I J D) : (∀ k : Nat, k < 5 → (Rn (I 174 k) (-40000) 60000)) := h.2.2.2.2.2.2.2.2.2.2.2.2.2.2.2.2.2.2.2.2.2.2.2.2.2.1
theorem GHouse.e26 {I : Nat → Nat → Int32} {J : Nat → Nat → Int64} {D : Nat → Nat → UInt64} (h : GHouse I J D) : (∀ h : Nat, h < 3 → (I 70 h = I 181 h)) := h.2.2.2.2.2.2.2.2.2.2.2.2.2.2.2.2.2.2.2.2.2.2.2.2.2.2.1
theorem GHouse.e27 {I : Nat → Nat → Int32} {J : Nat → Nat → Int64} {D : Nat → Nat → UInt64} (h : GHouse I J D) : (∀ h : Nat, h < 3 → (Rn (I 181 h) 0 6)) := h.2.2.2.2.2.2.2.2.2.2.2.2.2.2.2.2.2.2.2.2.2.2.2.2.2.2.2.1
theorem GHouse.e28 {I : Nat → Nat → Int32} {J : Nat → Nat → Int64} {D : Nat → Nat → UInt64} (h : GHouse I J D) : (∀ h k : Nat, h < 3 → k < 6 → (I (63 + h) k = I 182 (6 * h + k))) := h.2.2.2.2.2.2.2.2.2.2.2.2.2.2.2.2.2.2.2.2.2.2.2.2.2.2.2.2.1
theorem GHouse.e29 {I : Nat → Nat → Int32} {J : Nat → Nat → Int64} {D : Nat → Nat → UInt64} (h : GHouse I J D) : (∀ h k : Nat, h < 3 → k < 6 → (I (67 + h) k = I 183 (6 * h + k))) := h.2.2.2.2.2.2.2.2.2.2.2.2.2.2.2.2.2.2.2.2.2.2.2.2.2.2.2.2.2.1
theorem GHouse.e30 {I : Nat → Nat → Int32} {J : Nat → Nat → Int64} {D : Nat → Nat → UInt64} (h : GHouse I J D) : (∀ k : Nat, k < 18 → (Rn (I 182 k) 0 1439)) := h.2.2.2.2.2.2.2.2.2.2.2.2.2.2.2.2.2.2.2.2.2.2.2.2.2.2.2.2.2.2.1
theorem GHouse.e31 {I : Nat → Nat → Int32} {J : Nat → Nat → Int64} {D : Nat → Nat → UInt64} (h : GHouse I J D) : (∀ k : Nat, k < 18 → (Rn (I 183 k) (-50000) 60000)) := h.2.2.2.2.2.2.2.2.2.2.2.2.2.2.2.2.2.2.2.2.2.2.2.2.2.2.2.2.2.2.2.1
theorem GHouse.e32 {I : Nat → Nat → Int32} {J : Nat → Nat → Int64} {D : Nat → Nat → UInt64} (h : GHouse I J D) : (∀ h k : Nat, h < 3 → k < 5 → (Int32.ofInt ((k : Int) + 1) < I 181 h → I 182 (6 * h + k) < I 182 (6 * h + k + 1))) := h.2.2.2.2.2.2.2.2.2.2.2.2.2.2.2.2.2.2.2.2.2.2.2.2.2.2.2.2.2.2.2.2.1
theorem GHouse.e33 {I : Nat → Nat → Int32} {J : Nat → Nat → Int64} {D : Nat → Nat → UInt64} (h : GHouse I J D) : ((I 26 13 = I 114 85)) := h.2.2.2.2.2.2.2.2.2.2.2.2.2.2.2.2.2.2.2.2.2.2.2.2.2.2.2.2.2.2.2.2.2.1
theorem GHouse.e34 {I : Nat → Nat → Int32} {J : Nat → Nat → Int64} {D : Nat → Nat → UInt64} (h : GHouse I J D) : ((Rn (I 114 85) 0 100000)) := h.2.2.2.2.2.2.2.2.2.2.2.2.2.2.2.2.2.2.2.2.2.2.2.2.2.2.2.2.2.2.2.2.2.2.1
theorem GHouse.e35 {I : Nat → Nat → Int32} {J : Nat → Nat → Int64} {D : Nat → Nat → UInt64} (h : GHouse I J D) : (∀ p : Nat, p < 9 → (I 171 p = 0 ↔ I 114 85 = 0)) := h.2.2.2.2.2.2.2.2.2.2.2.2.2.2.2.2.2.2.2.2.2.2.2.2.2.2.2.2.2.2.2.2.2.2.2.1
theorem GHouse.e36 {I : Nat → Nat → Int32} {J : Nat → Nat → Int64} {D : Nat → Nat → UInt64} (h : GHouse I J D) : (∀ p : Nat, p < 9 → (Rn (I 171 p) 0 100000)) := h.2.2.2.2.2.2.2.2.2.2.2.2.2.2.2.2.2.2.2.2.2.2.2.2.2.2.2.2.2.2.2.2.2.2.2.2
theorem GFeed.e0 {I : Nat → Nat → Int32} {J : Nat → Nat → Int64} (h : GFeed I J) : (∀ s j : Nat, s < 6 → j < 3 → (I (73 + s) j = I 188 (3 * s + j))) := h.1
theorem GFeed.e1 {I : Nat → Nat → Int32} {J : Nat → Nat → Int64} (h : GFeed I J) : (∀ k : Nat, k < 12 → (Rn (I 188 k) 0 99)) := h.2.1
theorem GFeed.e2 {I : Nat → Nat → Int32} {J : Nat → Nat → Int64} (h : GFeed I J) : (∀ k : Nat, k < 6 → (Rn (I 188 (12 + k)) 0 999)) := h.2.2.1
theorem GFeed.e3 {I : Nat → Nat → Int32} {J : Nat → Nat → Int64} (h : GFeed I J) : (∀ k : Nat, k < 4 → (J 88 k = if I 114 115 = 1 ∧ I 114 116 = 0 then J 192 k else 0)) := h.2.2.2.1
theorem GFeed.e4 {I : Nat → Nat → Int32} {J : Nat → Nat → Int64} (h : GFeed I J) : (∀ k : Nat, k < 4 → (J 89 k = if I 114 115 = 1 ∧ I 114 116 = 0 then J 193 k else 0)) := h.2.2.2.2.1
theorem GFeed.e5 {I : Nat → Nat → Int32} {J : Nat → Nat → Int64} (h : GFeed I J) : (∀ k : Nat, k < 3 → (J 90 k = if I 114 115 = 1 ∧ I 114 116 = 1 then J 194 k else 0)) := h.2.2.2.2.2.1
theorem GFeed.e6 {I : Nat → Nat → Int32} {J : Nat → Nat → Int64} (h : GFeed I J) : ((I 71 7 = I 114 114)) := h.2.2.2.2.2.2.1
theorem GFeed.e7 {I : Nat → Nat → Int32} {J : Nat → Nat → Int64} (h : GFeed I J) : ((I 114 115 = 0 → I 114 114 = 0)) := h.2.2.2.2.2.2.2.1
theorem GFeed.e8 {I : Nat → Nat → Int32} {J : Nat → Nat → Int64} (h : GFeed I J) : ((Rn (I 114 115) 0 1)) := h.2.2.2.2.2.2.2.2.1
theorem GFeed.e9 {I : Nat → Nat → Int32} {J : Nat → Nat → Int64} (h : GFeed I J) : ((Rn (I 114 116) 0 1)) := h.2.2.2.2.2.2.2.2.2
theorem GPest.e0 {I : Nat → Nat → Int32} {J : Nat → Nat → Int64} (h : GPest I J) : (∀ p s : Nat, p < 2 → s < 4 → (J (93 + p) s = J 195 (4 * p + s))) := h.1
theorem GPest.e1 {I : Nat → Nat → Int32} {J : Nat → Nat → Int64} (h : GPest I J) : (∀ k : Nat, k < 8 → (RnJ (J 195 k) 0 1000000000)) := h.2.1
theorem GPest.e2 {I : Nat → Nat → Int32} {J : Nat → Nat → Int64} (h : GPest I J) : (∀ p s : Nat, p < 2 → s < 4 → (I (96 + p) s = I 196 (4 * p + s))) := h.2.2.1
theorem GPest.e3 {I : Nat → Nat → Int32} {J : Nat → Nat → Int64} (h : GPest I J) : (∀ k : Nat, k < 8 → (Rn (I 196 k) 0 1000)) := h.2.2.2.1
theorem GPest.e4 {I : Nat → Nat → Int32} {J : Nat → Nat → Int64} (h : GPest I J) : (∀ p s : Nat, p < 2 → s < 4 → (I (99 + p) s = I 197 (4 * p + s))) := h.2.2.2.2.1
theorem GPest.e5 {I : Nat → Nat → Int32} {J : Nat → Nat → Int64} (h : GPest I J) : (∀ k : Nat, k < 8 → (Rn (I 197 k) 0 1000)) := h.2.2.2.2.2.1
theorem GPest.e6 {I : Nat → Nat → Int32} {J : Nat → Nat → Int64} (h : GPest I J) : (∀ p s : Nat, p < 2 → s < 4 → (I (102 + p) s = I 198 (4 * p + s))) := h.2.2.2.2.2.2.1
theorem GPest.e7 {I : Nat → Nat → Int32} {J : Nat → Nat → Int64} (h : GPest I J) : (∀ k : Nat, k < 8 → (Rn (I 198 k) 0 1000)) := h.2.2.2.2.2.2.2.1
theorem GPest.e8 {I : Nat → Nat → Int32} {J : Nat → Nat → Int64} (h : GPest I J) : ((I 91 8 = I 114 125)) := h.2.2.2.2.2.2.2.2.1
theorem GPest.e9 {I : Nat → Nat → Int32} {J : Nat → Nat → Int64} (h : GPest I J) : ((I 91 9 = I 114 126)) := h.2.2.2.2.2.2.2.2.2.1
theorem GPest.e10 {I : Nat → Nat → Int32} {J : Nat → Nat → Int64} (h : GPest I J) : ((Rn (I 114 125) 0 10000)) := h.2.2.2.2.2.2.2.2.2.2.1
theorem GPest.e11 {I : Nat → Nat → Int32} {J : Nat → Nat → Int64} (h : GPest I J) : ((Rn (I 114 126) 0 7)) := h.2.2.2.2.2.2.2.2.2.2.2
theorem GBook.e0 {I : Nat → Nat → Int32} (h : GBook I) : (∀ k : Nat, k < 1280 → (I 109 k = I 200 k)) := h.1
theorem GBook.e1 {I : Nat → Nat → Int32} (h : GBook I) : (∀ k : Nat, k < 1280 → (Rn (I 200 k) 0 255)) := h.2.1
theorem GBook.e2 {I : Nat → Nat → Int32} (h : GBook I) : ((I 108 3 = I 114 129)) := h.2.2.1
theorem GBook.e3 {I : Nat → Nat → Int32} (h : GBook I) : ((I 108 4 = I 114 130)) := h.2.2.2.1
theorem GBook.e4 {I : Nat → Nat → Int32} (h : GBook I) : ((I 108 5 = I 114 131)) := h.2.2.2.2.1
theorem GBook.e5 {I : Nat → Nat → Int32} (h : GBook I) : ((I 114 131 = 0 → I 108 6 = I 114 132)) := h.2.2.2.2.2.1
theorem GBook.e6 {I : Nat → Nat → Int32} (h : GBook I) : ((Rn (I 114 129) 0 2147483647)) := h.2.2.2.2.2.2.1
theorem GBook.e7 {I : Nat → Nat → Int32} (h : GBook I) : ((Rn (I 114 130) 0 20)) := h.2.2.2.2.2.2.2.1
theorem GBook.e8 {I : Nat → Nat → Int32} (h : GBook I) : ((Rn (I 114 131) 0 1)) := h.2.2.2.2.2.2.2.2.1
theorem GBook.e9 {I : Nat → Nat → Int32} (h : GBook I) : ((Rn (I 114 132) (-1) 200)) := h.2.2.2.2.2.2.2.2.2
