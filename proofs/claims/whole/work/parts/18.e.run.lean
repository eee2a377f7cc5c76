/-! ===== a run, the call ===== -/
def WRun : List (Nat × Nat) := [(5, 6), (7, 9), (15, 26), (119, 120), (129, 133), (139, 156), (202, 1000000), (1000001, 1000003), (1000024, 1000025), (1000029, 1000031), (1000042, 1000043), (1000054, 1000055), (1000057, 1000075), (2000013, 2000015)]
/-- what a run leaves, told -/
def GRunF (σ : Shp) (I : Nat → Nat → Int32) (J : Nat → Nat → Int64) (R : Nat → Nat → Option Nat) : Prop := GScal I ∧ GThing σ I J R ∧ GPlan I ∧ GStore I J ∧ GTrace I ∧ GRan I ∧ GFrm σ R ∧ Skel σ R
theorem GPlan.pl {I : Nat → Nat → Int32} (h : GPlan I) : ∃ n O A, PlB n O ∧ PlC n O A I ∧ PlM n O A I := by
  have e1 : ∀ p, p < 4 → I 134 p = Int32.ofInt (((I 134 p).toInt.toNat : Nat) : Int) ∧ (I 134 p).toInt.toNat ≤ 40 := fun p hp => by
    obtain ⟨v, v1, v2, e⟩ := h.e1 p hp
    rw [e, ti (by omega) (by omega)]
    exact ⟨by rw [show ((v.toNat : Nat) : Int) = v by omega], by omega⟩
  have e3 : ∀ k, k < 160 → I 135 k = Int32.ofInt (((I 135 k).toInt.toNat : Nat) : Int) ∧ (I 135 k).toInt.toNat ≤ 20 := fun k hk => by
    obtain ⟨v, v1, v2, e⟩ := h.e3 k hk
    rw [e, ti (by omega) (by omega)]
    exact ⟨by rw [show ((v.toNat : Nat) : Int) = v by omega], by omega⟩
  refine ⟨fun p => (I 134 p).toInt.toNat, fun k => (I 135 k).toInt.toNat, fun a k => I (136 + a) k, ⟨fun p hp => (e1 p hp).2, fun k hk => (e3 k hk).2⟩, ⟨fun p hp => ?_, fun k hk => ⟨?_, h.e4 k hk, h.e5 k hk, h.e6 k hk⟩⟩, ⟨fun p hp => (e1 p hp).1, fun k hk => ⟨(e3 k hk).1, rfl, rfl, rfl⟩⟩⟩
  · rw [h.e0 p hp]; exact (e1 p hp).1
  · rw [h.e2 k hk]; exact (e3 k hk).1
/-- the class's end of a run -/
theorem b182 {σ : Shp} {I : Nat → Nat → Int32} {J : Nat → Nat → Int64} {R : Nat → Nat → Option Nat} : gX7_wholeRun_b182 σ I J R = some (σ, I, J, R, if I 25 0 = 3 then -30 else if I 25 0 = 2 then 1 else if I 25 0 = 1 then -10 - I 25 1 else 0) := by
  unfold gX7_wholeRun_b182
  rw [if_pos g00, c00]
  by_cases w3 : I 25 0 = 3
  · rw [if_pos w3, if_pos w3]
  · rw [if_neg w3, if_neg w3]
    by_cases w2 : I 25 0 = 2
    · rw [if_pos w2, if_pos w2]
    · rw [if_neg w2, if_neg w2]
      by_cases w1 : I 25 0 = 1
      · rw [if_pos w1, if_pos w1, if_pos g01, c01]
      · rw [if_neg w1, if_neg w1]
def enC (I : Nat → Nat → Int32) : Nat → Nat → Int32 := if I 25 0 = 1 ∧ I 25 1 ≠ 0 then u2 (u2 I 4 13 (I 4 13 + I 5 13)) 4 14 (I 25 1) else u2 I 4 13 (I 4 13 + I 5 13)
theorem b43 {σ : Shp} {I : Nat → Nat → Int32} {J : Nat → Nat → Int64} {R : Nat → Nat → Option Nat} {s : Int32} : gX11_run_b43 σ I J R s = some (σ, enC I, J, R, s) := by
  have t8 : gX7_toldOf σ I R 8 = some (I 5 13) := by
    have z : ∀ q, gX7_toldOf_b15 σ I R 8 q = some (I 5 13) := fun q => by
      unfold gX7_toldOf_b15
      rw [if_neg (by decide), if_neg (by decide), if_neg (by decide), if_neg (by decide), if_neg (by decide), if_neg (by decide), if_neg (by decide), if_neg (by decide)]
    unfold gX7_toldOf
    rw [if_pos g00, c00, z, z]
    by_cases w : I 25 0 = 1
    · rw [if_pos w]
    · rw [if_neg w]
  have fo : ∀ K : Nat → Nat → Int32, (∀ k, K 25 k = I 25 k) → gX7_faultOut K = some (if I 25 0 = 1 then I 25 1 else 0) := fun K hK => by
    unfold gX7_faultOut
    rw [if_pos g00, c00, hK 0]
    by_cases w : I 25 0 = 1
    · rw [if_pos w, if_pos w, if_pos g01, c01, hK 1]
    · rw [if_neg w, if_neg w]
  unfold gX11_run_b43
  rw [t8, ob_some]
  try dsimp only
  rw [fo _ (fun k => u2n (by omega)), ob_some, ob_some]
  unfold enC
  by_cases w : I 25 0 = 1
  · rw [if_pos w]
    by_cases k : I 25 1 = 0
    · rw [if_pos k, if_neg (fun z => z.2 k)]
    · rw [if_neg k, if_pos ⟨w, k⟩]
  · rw [if_neg w, if_pos rfl, if_neg (fun z => w z.1)]
def enM (I : Nat → Nat → Int32) : Nat → Nat → Int32 := if I 114 59 = 1 then u2 (u2 (u2 (u2 (u2 I 114 71 (I 114 62)) 114 72 (I 114 63)) 114 73 (I 114 61)) 114 74 0) 114 2 (I 114 60) else u2 (u2 (u2 (u2 I 114 71 (-1)) 114 72 0) 114 73 0) 114 74 (if I 114 59 = 2 then I 114 64 else 0)
theorem b265 {σ : Shp} {I : Nat → Nat → Int32} {J : Nat → Nat → Int64} {R : Nat → Nat → Option Nat} (k4 : kdx σ 114 = 13) : (if I 114 59 = 1 then gX12_run_b265 σ R I J 1 else gX12_run_b265 σ R I J 0) = some (enM I, J, if I 114 59 = 1 then -10 - I 114 60 else if I 114 59 = 2 then 1 else if I 114 59 = 3 then -30 else 0) := by
  unfold gX12_run_b265 gX12_run_b295 gX12_run_b331 enM
  simp only [ob_some, if_pos k4]
  try dsimp only
  by_cases w : I 114 59 = 1
  · rw [if_pos w, if_pos w, if_pos w, if_neg n10, if_neg n10, if_neg n10]
    have q : ∀ a b c : Int32, u2 (u2 (u2 I 114 71 a) 114 72 b) 114 73 c 114 59 = 1 := fun a b c => by simp (disch := omega) only [u2n, u2s]; exact w
    simp (disch := omega) only [u2n, u2s, w]
    rw [if_neg (by decide), if_neg n10]
  · rw [if_neg w, if_neg w, if_neg w]
    by_cases w2 : I 114 59 = 2
    · simp (disch := omega) only [u2n, u2s, ↓reduceIte, w2]
    · simp (disch := omega) only [u2n, u2s, ↓reduceIte, w2]
      by_cases w3 : I 114 59 = 3
      · rw [if_pos w3, if_pos w3]
      · rw [if_neg w3, if_neg w3]
