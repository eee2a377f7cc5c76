/-! ===== plans: the form of an act, both sides ===== -/
def dlt (o : Nat) : Int := if o = 0 then -1 else if o < 11 then 0 else 1
/-- how deep one stands before k, from the body that opens at q -/
def dpt (O : Nat → Nat) (q : Nat) : Nat → Int
  | 0 => 1
  | k + 1 => dpt O q k + (if q < k then dlt (O k) else 0)
theorem dpt_s {O : Nat → Nat} {q k : Nat} : dpt O q (k + 1) = dpt O q k + (if q < k then dlt (O k) else 0) := rfl
theorem dpt_1 {O : Nat → Nat} {q : Nat} : ∀ k, k ≤ q + 1 → dpt O q k = 1 := by
  intro k
  induction k with
  | zero => exact fun _ => rfl
  | succ k ih =>
    intro h
    rw [dpt_s, ih (by omega), if_neg (by omega)]
    rfl
/-- the body that opens at q ends at e -/
def Mt (O : Nat → Nat) (q e : Nat) : Prop := q < e ∧ O e = 0 ∧ 11 ≤ O q ∧ dpt O q (e + 1) = 0 ∧ ∀ i, i ≤ e → 1 ≤ dpt O q i
theorem Mt.uq {O : Nat → Nat} {q e e' : Nat} (h : Mt O q e) (h' : Mt O q e') : e = e' := by
  by_cases c : e < e'
  · have := h'.2.2.2.2 (e + 1) (by omega)
    have := h.2.2.2.1
    omega
  · by_cases d : e' < e
    · have := h.2.2.2.2 (e' + 1) (by omega)
      have := h'.2.2.2.1
      omega
    · omega
/-- a plan of n steps is well formed; E: where bodies end -/
def PWf (O : Nat → Nat) (k : Nat) : Prop := (∀ q, q < k → O q = 17 ∨ O q = 18 → 1 ≤ q ∧ ∃ r, Mt O r (q - 1) ∧ (O r = 16 ∨ O r = 17)) ∧ (∀ q, q < k → O q = 0 → ∃ r, Mt O r q)
def PBd (O : Nat → Nat) (k : Nat) (E : Nat → Int32) : Prop := ∀ q, q < k → 11 ≤ O q → ∃ e, e < k ∧ E q = Int32.ofInt (e : Nat) ∧ Mt O q e
/-- the invariant of both scans: d bodies are open, S tells where -/
def PInv (O : Nat → Nat) (k d : Nat) (S : Nat → Nat) (E : Nat → Int32) : Prop := d ≤ k ∧ (∀ j, j < d → S j < k ∧ 11 ≤ O (S j) ∧ dpt O (S j) k = (d : Int) - j ∧ ∀ i, i ≤ k → 1 ≤ dpt O (S j) i) ∧ PWf O k ∧ (∀ q, q < k → 11 ≤ O q → (∃ j, j < d ∧ S j = q) ∨ ∃ e, e < k ∧ E q = Int32.ofInt (e : Nat) ∧ Mt O q e)
theorem PInv.le {O : Nat → Nat} {k d : Nat} {S : Nat → Nat} {E : Nat → Int32} (h : PInv O k d S E) : d ≤ k := h.1
theorem PInv.st {O : Nat → Nat} {k d : Nat} {S : Nat → Nat} {E : Nat → Int32} (h : PInv O k d S E) : ∀ j, j < d → S j < k ∧ 11 ≤ O (S j) ∧ dpt O (S j) k = (d : Int) - j ∧ ∀ i, i ≤ k → 1 ≤ dpt O (S j) i := h.2.1
theorem PInv.wf {O : Nat → Nat} {k d : Nat} {S : Nat → Nat} {E : Nat → Int32} (h : PInv O k d S E) : PWf O k := h.2.2.1
theorem PInv.bd {O : Nat → Nat} {k d : Nat} {S : Nat → Nat} {E : Nat → Int32} (h : PInv O k d S E) : ∀ q, q < k → 11 ≤ O q → (∃ j, j < d ∧ S j = q) ∨ ∃ e, e < k ∧ E q = Int32.ofInt (e : Nat) ∧ Mt O q e := h.2.2.2
theorem PWf.up {O : Nat → Nat} {k : Nat} (h : PWf O k) (h1 : O k = 17 ∨ O k = 18 → 1 ≤ k ∧ ∃ r, Mt O r (k - 1) ∧ (O r = 16 ∨ O r = 17)) (h2 : O k = 0 → ∃ r, Mt O r k) : PWf O (k + 1) := by
  refine ⟨fun q hq c => ?_, fun q hq c => ?_⟩
  · by_cases e : q = k
    · rw [e] at c ⊢; exact h1 c
    · exact h.1 q (by omega) c
  · by_cases e : q = k
    · rw [e] at c ⊢; exact h2 c
    · exact h.2 q (by omega) c
/-- a plain step -/
theorem PInv.pl {O : Nat → Nat} {k d : Nat} {S : Nat → Nat} {E : Nat → Int32} (h : PInv O k d S E) (h1 : O k ≠ 0) (h2 : O k < 11) : PInv O (k + 1) d S E := by
  refine ⟨by have := h.le; omega, fun j hj => ?_, h.wf.up (fun c => by omega) (fun c => absurd c h1), fun q hq g => ?_⟩
  · obtain ⟨a1, a2, a3, a4⟩ := h.st j hj
    have e : dpt O (S j) (k + 1) = (d : Int) - j := by
      rw [dpt_s, a3, if_pos a1]
      unfold dlt
      rw [if_neg h1, if_pos h2]
      omega
    refine ⟨by omega, a2, e, fun i hi => ?_⟩
    by_cases c : i = k + 1
    · rw [c, e]; omega
    · exact a4 i (by omega)
  · by_cases c : q = k
    · rw [c] at g; omega
    · rcases h.bd q (by omega) g with b | ⟨e, e1, e2, e3⟩
      · exact Or.inl b
      · exact Or.inr ⟨e, by omega, e2, e3⟩
/-- a body opens -/
theorem PInv.op {O : Nat → Nat} {k d : Nat} {S : Nat → Nat} {E : Nat → Int32} (h : PInv O k d S E) (h2 : 11 ≤ O k) (h3 : O k = 17 ∨ O k = 18 → 1 ≤ k ∧ ∃ r, Mt O r (k - 1) ∧ (O r = 16 ∨ O r = 17)) : PInv O (k + 1) (d + 1) (fun j => if j = d then k else S j) E := by
  refine ⟨by have := h.le; omega, fun j hj => ?_, h.wf.up h3 (fun c => by omega), fun q hq g => ?_⟩
  · by_cases c : j = d
    · dsimp only; rw [if_pos c]
      have e := dpt_1 (O := O) (q := k) (k + 1) (Nat.le_refl _)
      refine ⟨by omega, h2, by rw [e]; omega, fun i hi => ?_⟩
      rw [dpt_1 i (by omega)]
      omega
    · dsimp only; rw [if_neg c]
      obtain ⟨a1, a2, a3, a4⟩ := h.st j (by omega)
      have e : dpt O (S j) (k + 1) = ((d + 1 : Nat) : Int) - j := by
        rw [dpt_s, a3, if_pos a1]
        unfold dlt
        rw [if_neg (by omega), if_neg (by omega)]
        omega
      refine ⟨by omega, a2, e, fun i hi => ?_⟩
      by_cases c : i = k + 1
      · rw [c, e]; omega
      · exact a4 i (by omega)
  · by_cases c : q = k
    · exact Or.inl ⟨d, by omega, by dsimp only; rw [if_pos rfl, c]⟩
    · rcases h.bd q (by omega) g with ⟨j, j1, j2⟩ | ⟨e, e1, e2, e3⟩
      · exact Or.inl ⟨j, by omega, by dsimp only; rw [if_neg (by omega)]; exact j2⟩
      · exact Or.inr ⟨e, by omega, e2, e3⟩
/-- a body ends -/
theorem PInv.cl {O : Nat → Nat} {k d : Nat} {S : Nat → Nat} {E E' : Nat → Int32} (h : PInv O k d S E) (h1 : O k = 0) (hd : 0 < d) (e1 : E' (S (d - 1)) = Int32.ofInt (k : Nat)) (e2 : ∀ q, q < k → q ≠ S (d - 1) → E' q = E q) : PInv O (k + 1) (d - 1) S E' ∧ Mt O (S (d - 1)) k := by
  obtain ⟨b1, b2, b3, b4⟩ := h.st (d - 1) (by omega)
  have mt : Mt O (S (d - 1)) k := by
    refine ⟨b1, h1, b2, ?_, b4⟩
    rw [dpt_s, b3, if_pos b1]
    unfold dlt
    rw [if_pos h1]
    omega
  refine ⟨⟨by have := h.le; omega, fun j hj => ?_, h.wf.up (fun c => by omega) (fun _ => ⟨_, mt⟩), fun q hq g => ?_⟩, mt⟩
  · obtain ⟨a1, a2, a3, a4⟩ := h.st j (by omega)
    have e : dpt O (S j) (k + 1) = ((d - 1 : Nat) : Int) - j := by
      rw [dpt_s, a3, if_pos a1]
      unfold dlt
      rw [if_pos h1]
      omega
    refine ⟨by omega, a2, e, fun i hi => ?_⟩
    by_cases c : i = k + 1
    · rw [c, e]; omega
    · exact a4 i (by omega)
  · by_cases c : q = k
    · rw [c] at g; omega
    · by_cases c' : q = S (d - 1)
      · rw [c']
        exact Or.inr ⟨k, by omega, e1, mt⟩
      · rcases h.bd q (by omega) g with ⟨j, j1, j2⟩ | ⟨e, f1, f2, f3⟩
        · refine Or.inl ⟨j, ?_, j2⟩
          by_cases z : j = d - 1
          · rw [z] at j2; exact absurd j2.symm c'
          · omega
        · exact Or.inr ⟨e, by omega, by rw [e2 q (by omega) c']; exact f2, f3⟩
def pOk (I : Nat → Nat → Int32) (p : Nat) (O : Nat → Nat) : Prop := ∀ k, k < 40 → I 135 (40 * p + k) = Int32.ofInt (O k : Nat) ∧ O k ≤ 20
theorem p40 {p : Nat} (h : p < 4) : ¬ (Int32.ofInt (p : Int) < 0 ∨ 4 ≤ Int32.toNatClampNeg (Int32.ofInt (p : Int))) := by rw [i_gd (by omega)]; exact id
theorem p16 {k : Nat} (h : k < 160) : ¬ (Int32.ofInt (k : Int) < 0 ∨ 160 ≤ Int32.toNatClampNeg (Int32.ofInt (k : Int))) := by rw [i_gd (by omega)]; exact id
theorem p16p {k : Nat} (h : k < 160) : ¬ (Int32.ofInt (k : Int) < 0 ∨ 160 ≤ k) := by rw [i_ltl (by omega)]; omega
theorem oEq {o j : Nat} (h : o ≤ 20) (hj : j ≤ 20) : (Int32.ofInt (o : Int) = Int32.ofInt (j : Int)) = (o = j) := by rw [i_eq (by omega) (by omega)]; exact propext (by omega)
/-- both scans, side by side -/
theorem fwCM {σ : Shp} {I : Nat → Nat → Int32} {R : Nat → Nat → Option Nat} {p n : Nat} {O : Nat → Nat} (h : GPlan I) (hp : p < 4) (hn : n ≤ 40) (en : I 134 p = Int32.ofInt (n : Int)) (hO : pOk I p O) : ∃ (I1 : Nat → Nat → Int32) (v : Int32), gX6_firstWrong σ I R (Int32.ofInt p) = some (I1, v) ∧ Ag [(15, 17)] I I1 ∧ (∀ I' : Nat → Nat → Int32, I' 134 p = I 134 p → (∀ k, k < 40 → I' 135 (40 * p + k) = I 135 (40 * p + k)) → ∃ I2, gX12_wrong σ I' R (Int32.ofInt p) = some (I2, v) ∧ Ag [(142, 143)] I' I2) ∧ (v = -1 → PWf O n ∧ PBd O n (fun q => I1 15 (40 * p + q))) ∧ (∀ k, (k < 40 * p ∨ 40 * p + 40 ≤ k) → I1 15 k = I 15 k) := by
  obtain ⟨F, hF⟩ : ∃ F, FUx = F := ⟨_, rfl⟩
  have hF' : F = 2000000 := by rw [← hF, FUx_eq]
  have lp : ∀ (u k f d : Nat) (S : Nat → Nat) (fl : Int32) (I1 : Nat → Nat → Int32), u < f → k + u = n → Ag [(15, 17)] I I1 → (∀ k, (k < 40 * p ∨ 40 * p + 40 ≤ k) → I1 15 k = I 15 k) → PInv O k d S (fun q => I1 15 (40 * p + q)) → (∀ j, j < d → I1 16 j = Int32.ofInt (S j : Nat)) → (fl = 0 ∨ fl = 1 ∧ 1 ≤ k ∧ ∃ r, Mt O r (k - 1) ∧ (O r = 16 ∨ O r = 17)) → ∃ (I2 : Nat → Nat → Int32) (v : Int32), gX6_firstWrong_l7 σ R f I1 (Int32.ofInt p) (Int32.ofInt d) fl (Int32.ofInt k) = some (I2, v) ∧ Ag [(15, 17)] I I2 ∧ (∀ (f' : Nat) (I' I3 : Nat → Nat → Int32), u < f' → I' 134 p = I 134 p → (∀ k, k < 40 → I' 135 (40 * p + k) = I 135 (40 * p + k)) → Ag [(142, 143)] I' I3 → (∀ j, j < d → I3 142 j = Int32.ofInt (O (S j) : Nat)) → ∃ I4, gX12_wrong_l7 σ R f' I3 (Int32.ofInt p) (Int32.ofInt d) fl (Int32.ofInt k) = some (I4, v) ∧ Ag [(142, 143)] I' I4) ∧ (v = -1 → PWf O n ∧ PBd O n (fun q => I2 15 (40 * p + q))) ∧ (∀ k, (k < 40 * p ∨ 40 * p + 40 ≤ k) → I2 15 k = I 15 k) := by
    intro u
    induction u with
    | zero =>
      intro k f d S fl I1 hf hk ag h15 hi hs hfl
      obtain ⟨f, rfl⟩ : ∃ m, f = m + 1 := ⟨f - 1, by omega⟩
      obtain rfl : k = n := by omega
      have dk := hi.le
      have e10 : I1 10 p = Int32.ofInt (k : Int) := by rw [ag 10 p rfl, h.e0 p hp, en]
      by_cases c : d = 0
      · refine ⟨I1, -1, ?_, ag, fun f' I' I3 hf' q1 q2 q3 q4 => ⟨I3, ?_, q3⟩, fun _ => ⟨hi.wf, fun q hq g => ?_⟩, h15⟩
        · rw [gX6_firstWrong_l7, if_pos (p40 hp), t41 (t := p) (by omega), e10, if_pos (Int32.le_refl _), if_pos (by rw [c]; rfl)]
        · obtain ⟨f', rfl⟩ : ∃ m, f' = m + 1 := ⟨f' - 1, by omega⟩
          rw [gX12_wrong_l7, if_pos (p40 hp), t41 (t := p) (by omega), q3 134 p rfl, q1, en, if_pos (Int32.le_refl _), if_pos (by rw [c]; decide)]
        · rcases hi.bd q hq g with ⟨j, j1, -⟩ | b
          · omega
          · exact b
      · refine ⟨I1, Int32.ofInt (k : Int), ?_, ag, fun f' I' I3 hf' q1 q2 q3 q4 => ⟨I3, ?_, q3⟩, fun g => absurd g (by rw [show (-1 : Int32) = Int32.ofInt (-1) by decide, i_eq (by omega) (by omega)]; omega), h15⟩
        · rw [gX6_firstWrong_l7, if_pos (p40 hp), t41 (t := p) (by omega), e10, if_pos (Int32.le_refl _), if_neg (by rw [i_eql (by omega)]; omega)]
        · obtain ⟨f', rfl⟩ : ∃ m, f' = m + 1 := ⟨f' - 1, by omega⟩
          rw [gX12_wrong_l7, if_pos (p40 hp), t41 (t := p) (by omega), q3 134 p rfl, q1, en, if_pos (Int32.le_refl _), if_neg (by rw [i_lel (by omega)]; omega)]
    | succ u ih =>
      intro k f d S fl I1 hf hk ag h15 hi hs hfl
      obtain ⟨f, rfl⟩ : ∃ m, f = m + 1 := ⟨f - 1, by omega⟩
      have dk := hi.le
      have e10 : I1 10 p = Int32.ofInt (n : Int) := by rw [ag 10 p rfl, h.e0 p hp, en]
      obtain ⟨ok1, ok2⟩ := hO k (by omega)
      have e11 : I1 11 (40 * p + k) = Int32.ofInt (O k : Nat) := by rw [ag 11 _ rfl, h.e2 _ (by omega)]; exact ok1
      have idx : Int32.ofInt (p : Int) * 40 + Int32.ofInt (k : Int) = Int32.ofInt ((40 * p + k : Nat) : Int) := by rw [i_mull, i_add]; congr 1; omega
      have idy : 40 * Int32.ofInt (p : Int) + Int32.ofInt (k : Int) = Int32.ofInt ((40 * p + k : Nat) : Int) := by rw [i_mulr, i_add]; congr 1
      have nb : ∀ j : Nat, (k : Int) ≠ -1 := fun _ => by omega
      -- the head of both
      have hC : ∀ Z, (if Int32.ofInt (O k : Nat) = (17 : Int32) then (if fl = 0 then some (I1, Int32.ofInt (k : Int)) else gX6_firstWrong_b53 (gX6_firstWrong_l7 σ R f) σ R I1 (Int32.ofInt p) (Int32.ofInt d) (Int32.ofInt k) (Int32.ofInt (O k : Nat))) else if Int32.ofInt (O k : Nat) = (18 : Int32) then (if fl = 0 then some (I1, Int32.ofInt (k : Int)) else gX6_firstWrong_b53 (gX6_firstWrong_l7 σ R f) σ R I1 (Int32.ofInt p) (Int32.ofInt d) (Int32.ofInt k) (Int32.ofInt (O k : Nat))) else gX6_firstWrong_b53 (gX6_firstWrong_l7 σ R f) σ R I1 (Int32.ofInt p) (Int32.ofInt d) (Int32.ofInt k) (Int32.ofInt (O k : Nat))) = some Z → gX6_firstWrong_l7 σ R (f + 1) I1 (Int32.ofInt p) (Int32.ofInt d) fl (Int32.ofInt k) = some Z := fun Z hZ => by
        rw [gX6_firstWrong_l7, if_pos (p40 hp), t41 (t := p) (by omega), e10, if_neg (by rw [i_le (by omega) (by omega)]; omega), idx, if_pos (p16 (by omega)), t41 (t := 40 * p + k) (by omega), e11]
        exact hZ
      have hM : ∀ (f' : Nat) (I' I3 : Nat → Nat → Int32), I' 134 p = I 134 p → (∀ k, k < 40 → I' 135 (40 * p + k) = I 135 (40 * p + k)) → Ag [(142, 143)] I' I3 → gX12_wrong_l7 σ R (f' + 1) I3 (Int32.ofInt p) (Int32.ofInt d) fl (Int32.ofInt k) = (if Int32.ofInt (O k : Nat) = 0 then (if Int32.ofInt (d : Int) = 0 then some (I3, Int32.ofInt (k : Int)) else (if ¬ ((Int32.ofInt (d : Int) + (-1 : Int32)) < 0 ∨ 44 ≤ Int32.toNatClampNeg (Int32.ofInt (d : Int) + (-1 : Int32))) then if (I3 142 (Int32.toNatClampNeg (Int32.ofInt (d : Int) + (-1 : Int32)))) = (16 : Int32) then gX12_wrong_l7 σ R f' I3 (Int32.ofInt p) (Int32.ofInt (d : Int) + (-1 : Int32)) (1 : Int32) (Int32.ofInt (k : Int) + 1) else if (I3 142 (Int32.toNatClampNeg (Int32.ofInt (d : Int) + (-1 : Int32)))) = (17 : Int32) then gX12_wrong_l7 σ R f' I3 (Int32.ofInt p) (Int32.ofInt (d : Int) + (-1 : Int32)) (1 : Int32) (Int32.ofInt (k : Int) + 1) else gX12_wrong_l7 σ R f' I3 (Int32.ofInt p) (Int32.ofInt (d : Int) + (-1 : Int32)) (0 : Int32) (Int32.ofInt (k : Int) + 1) else none)) else if Int32.ofInt (O k : Nat) = (17 : Int32) then (if fl = 0 then some (I3, Int32.ofInt (k : Int)) else gX12_wrong_b99 (gX12_wrong_l7 σ R f') σ R I3 (Int32.ofInt p) (Int32.ofInt d) (Int32.ofInt k) (Int32.ofInt (O k : Nat))) else if Int32.ofInt (O k : Nat) = (18 : Int32) then (if fl = 0 then some (I3, Int32.ofInt (k : Int)) else gX12_wrong_b99 (gX12_wrong_l7 σ R f') σ R I3 (Int32.ofInt p) (Int32.ofInt d) (Int32.ofInt k) (Int32.ofInt (O k : Nat))) else gX12_wrong_b99 (gX12_wrong_l7 σ R f') σ R I3 (Int32.ofInt p) (Int32.ofInt d) (Int32.ofInt k) (Int32.ofInt (O k : Nat))) := fun f' I' I3 q1 q2 q3 => by
        rw [gX12_wrong_l7, if_pos (p40 hp), t41 (t := p) (by omega), q3 134 p rfl, q1, en, if_neg (by rw [i_le (by omega) (by omega)]; omega), idy, if_pos (p16 (by omega)), t41 (t := 40 * p + k) (by omega), q3 135 _ rfl, q2 k (by omega), ok1]
      by_cases o0 : O k = 0
      · -- an end
        have oz : Int32.ofInt (O k : Nat) = 0 := by rw [o0]; rfl
        by_cases c : d = 0
        · refine ⟨I1, Int32.ofInt (k : Int), hC _ ?_, ag, fun f' I' I3 hf' q1 q2 q3 q4 => ⟨I3, ?_, q3⟩, fun g => absurd g (by rw [show (-1 : Int32) = Int32.ofInt (-1) by decide, i_eq (by omega) (by omega)]; omega), h15⟩
          · rw [oz, if_neg (by decide), if_neg (by decide)]
            unfold gX6_firstWrong_b53
            rw [if_pos rfl, if_pos (by rw [c]; rfl)]
          · obtain ⟨f', rfl⟩ : ∃ m, f' = m + 1 := ⟨f' - 1, by omega⟩
            rw [hM f' I' I3 q1 q2 q3, if_pos oz, if_pos (by rw [c]; rfl)]
        have ed : Int32.ofInt (d : Int) + (-1 : Int32) = Int32.ofInt ((d - 1 : Nat) : Int) := by rw [i_addn]; congr 1; omega
        obtain ⟨s1, s2, s3, s4⟩ := hi.st (d - 1) (by omega)
        have v11 : Int32.ofInt (p : Int) * 40 + Int32.ofInt (S (d - 1) : Nat) = Int32.ofInt ((40 * p + S (d - 1) : Nat) : Int) := by rw [i_mull, i_add]; congr 1; omega
        obtain ⟨I5, h5⟩ : ∃ I5, u2 I1 15 (40 * p + S (d - 1)) (Int32.ofInt (k : Int)) = I5 := ⟨_, rfl⟩
        have a5 : Ag [(15, 17)] I I5 := by rw [← h5]; exact ag.st rfl
        obtain ⟨i5, mt⟩ := hi.cl (E' := fun q => I5 15 (40 * p + q)) o0 (by omega) (by rw [← h5, u2s ⟨rfl, rfl⟩]) (fun q hq hne => by rw [← h5, u2n (by omega)])
        have s16 : ∀ j, j < d - 1 → I5 16 j = Int32.ofInt (S j : Nat) := fun j hj => by rw [← h5, u2n (by omega)]; exact hs j (by omega)
        have k11 : I5 11 (40 * p + S (d - 1)) = Int32.ofInt (O (S (d - 1)) : Nat) := by rw [a5 11 _ rfl, h.e2 _ (by omega)]; exact (hO _ (by omega)).1
        have k20 := (hO (S (d - 1)) (by omega)).2
        have n15 : ∀ k', (k' < 40 * p ∨ 40 * p + 40 ≤ k') → I5 15 k' = I 15 k' := fun k' hk' => by rw [← h5, u2n (by omega)]; exact h15 k' hk'
        have go : ∀ fl' : Int32, (fl' = 0 ∨ fl' = 1 ∧ (O (S (d - 1)) = 16 ∨ O (S (d - 1)) = 17)) → gX6_firstWrong_b53 (gX6_firstWrong_l7 σ R f) σ R I1 (Int32.ofInt p) (Int32.ofInt d) (Int32.ofInt k) 0 = gX6_firstWrong_l7 σ R f I5 (Int32.ofInt p) (Int32.ofInt ((d - 1 : Nat) : Int)) fl' (Int32.ofInt ((k + 1 : Nat) : Int)) → (∀ (f' : Nat) (I3 : Nat → Nat → Int32), (∀ j, j < d → I3 142 j = Int32.ofInt (O (S j) : Nat)) → (if (I3 142 (d - 1)) = (16 : Int32) then gX12_wrong_l7 σ R f' I3 (Int32.ofInt p) (Int32.ofInt ((d - 1 : Nat) : Int)) (1 : Int32) (Int32.ofInt ((k + 1 : Nat) : Int)) else if (I3 142 (d - 1)) = (17 : Int32) then gX12_wrong_l7 σ R f' I3 (Int32.ofInt p) (Int32.ofInt ((d - 1 : Nat) : Int)) (1 : Int32) (Int32.ofInt ((k + 1 : Nat) : Int)) else gX12_wrong_l7 σ R f' I3 (Int32.ofInt p) (Int32.ofInt ((d - 1 : Nat) : Int)) (0 : Int32) (Int32.ofInt ((k + 1 : Nat) : Int))) = gX12_wrong_l7 σ R f' I3 (Int32.ofInt p) (Int32.ofInt ((d - 1 : Nat) : Int)) fl' (Int32.ofInt ((k + 1 : Nat) : Int))) → ∃ (I2 : Nat → Nat → Int32) (v : Int32), gX6_firstWrong_l7 σ R (f + 1) I1 (Int32.ofInt p) (Int32.ofInt d) fl (Int32.ofInt k) = some (I2, v) ∧ Ag [(15, 17)] I I2 ∧ (∀ (f' : Nat) (I' I3 : Nat → Nat → Int32), u + 1 < f' → I' 134 p = I 134 p → (∀ k, k < 40 → I' 135 (40 * p + k) = I 135 (40 * p + k)) → Ag [(142, 143)] I' I3 → (∀ j, j < d → I3 142 j = Int32.ofInt (O (S j) : Nat)) → ∃ I4, gX12_wrong_l7 σ R f' I3 (Int32.ofInt p) (Int32.ofInt d) fl (Int32.ofInt k) = some (I4, v) ∧ Ag [(142, 143)] I' I4) ∧ (v = -1 → PWf O n ∧ PBd O n (fun q => I2 15 (40 * p + q))) ∧ (∀ k, (k < 40 * p ∨ 40 * p + 40 ≤ k) → I2 15 k = I 15 k) := fun fl' hfl' g1 g2 => by
          obtain ⟨I2, v, r1, r2, r3, r4, r5⟩ := ih (k + 1) f (d - 1) S fl' I5 (by omega) (by omega) a5 n15 i5 s16 (by
            rcases hfl' with q | ⟨q1, q2⟩
            · exact Or.inl q
            · exact Or.inr ⟨q1, by omega, S (d - 1), by rw [show k + 1 - 1 = k by omega]; exact mt, q2⟩)
          refine ⟨I2, v, hC _ ?_, r2, fun f' I' I3 hf' q1 q2 q3 q4 => ?_, r4, r5⟩
          · rw [oz, if_neg (by decide), if_neg (by decide), g1]
            exact r1
          · obtain ⟨f', rfl⟩ : ∃ m, f' = m + 1 := ⟨f' - 1, by omega⟩
            obtain ⟨I4, y1, y2⟩ := r3 f' I' I3 (by omega) q1 q2 q3 (fun j hj => q4 j (by omega))
            refine ⟨I4, ?_, y2⟩
            rw [hM f' I' I3 q1 q2 q3, if_pos oz, if_neg (by rw [i_eql (by omega)]; omega), ed, if_pos (by rw [i_gd (by omega)]; exact id), t41 (t := d - 1) (by omega), iadd1, g2 f' I3 q4]
            exact y1
        have b53 : gX6_firstWrong_b53 (gX6_firstWrong_l7 σ R f) σ R I1 (Int32.ofInt p) (Int32.ofInt d) (Int32.ofInt k) 0 = (if Int32.ofInt (O (S (d - 1)) : Nat) = (16 : Int32) then gX6_firstWrong_l7 σ R f I5 (Int32.ofInt p) (Int32.ofInt ((d - 1 : Nat) : Int)) 1 (Int32.ofInt ((k + 1 : Nat) : Int)) else if Int32.ofInt (O (S (d - 1)) : Nat) = (17 : Int32) then gX6_firstWrong_l7 σ R f I5 (Int32.ofInt p) (Int32.ofInt ((d - 1 : Nat) : Int)) 1 (Int32.ofInt ((k + 1 : Nat) : Int)) else gX6_firstWrong_l7 σ R f I5 (Int32.ofInt p) (Int32.ofInt ((d - 1 : Nat) : Int)) 0 (Int32.ofInt ((k + 1 : Nat) : Int))) := by
          unfold gX6_firstWrong_b53
          dsimp only
          rw [if_pos rfl, if_neg (by rw [i_eql (by omega)]; omega), ed, if_pos (by rw [i_gd (by omega)]; exact id), t41 (t := d - 1) (by omega), hs (d - 1) (by omega), v11, if_pos (p16 (by omega)), t41 (t := 40 * p + S (d - 1)) (by omega), if_pos (p16p (by omega)), h5, k11, iadd1]
        by_cases c6 : O (S (d - 1)) = 16
        · refine go 1 (Or.inr ⟨rfl, Or.inl c6⟩) (by rw [b53, if_pos (by rw [c6]; rfl)]) fun f' I3 q => ?_
          rw [q (d - 1) (by omega), c6, if_pos (by decide)]
        by_cases c7 : O (S (d - 1)) = 17
        · refine go 1 (Or.inr ⟨rfl, Or.inr c7⟩) (by rw [b53, if_neg (by rw [c7]; decide), if_pos (by rw [c7]; rfl)]) fun f' I3 q => ?_
          rw [q (d - 1) (by omega), c7, if_neg (by decide), if_pos (by decide)]
        · refine go 0 (Or.inl rfl) (by rw [b53, if_neg (by rw [i_eql (by omega)]; omega), if_neg (by rw [i_eql (by omega)]; omega)]) fun f' I3 q => ?_
          rw [q (d - 1) (by omega), if_neg (by rw [i_eql (by omega)]; omega), if_neg (by rw [i_eql (by omega)]; omega)]
      · -- no end
        have nz : ¬ Int32.ofInt (O k : Nat) = 0 := by rw [i_eql (by omega)]; omega
        by_cases w : (O k = 17 ∨ O k = 18) ∧ fl = 0
        · refine ⟨I1, Int32.ofInt (k : Int), hC _ ?_, ag, fun f' I' I3 hf' q1 q2 q3 q4 => ⟨I3, ?_, q3⟩, fun g => absurd g (by rw [show (-1 : Int32) = Int32.ofInt (-1) by decide, i_eq (by omega) (by omega)]; omega), h15⟩
          · rcases w with ⟨w | w, w2⟩
            · rw [w, if_pos (by decide), if_pos w2]
            · rw [w, if_neg (by decide), if_pos (by decide), if_pos w2]
          · obtain ⟨f', rfl⟩ : ∃ m, f' = m + 1 := ⟨f' - 1, by omega⟩
            rw [hM f' I' I3 q1 q2 q3, if_neg nz]
            rcases w with ⟨w | w, w2⟩
            · rw [w, if_pos (by decide), if_pos w2]
            · rw [w, if_neg (by decide), if_pos (by decide), if_pos w2]
        have cb : (if Int32.ofInt (O k : Nat) = (17 : Int32) then (if fl = 0 then some (I1, Int32.ofInt (k : Int)) else gX6_firstWrong_b53 (gX6_firstWrong_l7 σ R f) σ R I1 (Int32.ofInt p) (Int32.ofInt d) (Int32.ofInt k) (Int32.ofInt (O k : Nat))) else if Int32.ofInt (O k : Nat) = (18 : Int32) then (if fl = 0 then some (I1, Int32.ofInt (k : Int)) else gX6_firstWrong_b53 (gX6_firstWrong_l7 σ R f) σ R I1 (Int32.ofInt p) (Int32.ofInt d) (Int32.ofInt k) (Int32.ofInt (O k : Nat))) else gX6_firstWrong_b53 (gX6_firstWrong_l7 σ R f) σ R I1 (Int32.ofInt p) (Int32.ofInt d) (Int32.ofInt k) (Int32.ofInt (O k : Nat))) = gX6_firstWrong_b53 (gX6_firstWrong_l7 σ R f) σ R I1 (Int32.ofInt p) (Int32.ofInt d) (Int32.ofInt k) (Int32.ofInt (O k : Nat)) := by
          by_cases c7 : O k = 17
          · rw [if_pos (by rw [c7]; rfl), if_neg (fun z => w ⟨Or.inl c7, z⟩)]
          · by_cases c8 : O k = 18
            · rw [if_neg (by rw [i_eql (by omega)]; omega), if_pos (by rw [c8]; rfl), if_neg (fun z => w ⟨Or.inr c8, z⟩)]
            · rw [if_neg (by rw [i_eql (by omega)]; omega), if_neg (by rw [i_eql (by omega)]; omega)]
        have mb : ∀ (f' : Nat) (I' I3 : Nat → Nat → Int32), I' 134 p = I 134 p → (∀ k, k < 40 → I' 135 (40 * p + k) = I 135 (40 * p + k)) → Ag [(142, 143)] I' I3 → gX12_wrong_l7 σ R (f' + 1) I3 (Int32.ofInt p) (Int32.ofInt d) fl (Int32.ofInt k) = gX12_wrong_b99 (gX12_wrong_l7 σ R f') σ R I3 (Int32.ofInt p) (Int32.ofInt d) (Int32.ofInt k) (Int32.ofInt (O k : Nat)) := fun f' I' I3 q1 q2 q3 => by
          rw [hM f' I' I3 q1 q2 q3, if_neg nz]
          by_cases c7 : O k = 17
          · rw [if_pos (by rw [c7]; rfl), if_neg (fun z => w ⟨Or.inl c7, z⟩)]
          · by_cases c8 : O k = 18
            · rw [if_neg (by rw [i_eql (by omega)]; omega), if_pos (by rw [c8]; rfl), if_neg (fun z => w ⟨Or.inr c8, z⟩)]
            · rw [if_neg (by rw [i_eql (by omega)]; omega), if_neg (by rw [i_eql (by omega)]; omega)]
        have t17 : O k = 17 ∨ O k = 18 → 1 ≤ k ∧ ∃ r, Mt O r (k - 1) ∧ (O r = 16 ∨ O r = 17) := fun q => by
          rcases hfl with z | ⟨-, z⟩
          · exact absurd ⟨q, z⟩ w
          · exact z
        by_cases c : O k < 11
        · obtain ⟨I2, v, r1, r2, r3, r4, r5⟩ := ih (k + 1) f d S 0 I1 (by omega) (by omega) ag h15 (hi.pl o0 c) hs (Or.inl rfl)
          refine ⟨I2, v, hC _ ?_, r2, fun f' I' I3 hf' q1 q2 q3 q4 => ?_, r4, r5⟩
          · rw [cb]
            unfold gX6_firstWrong_b53
            dsimp only
            rw [if_neg nz, if_pos (by rw [i_ltl (by omega)]; omega), iadd1]
            exact r1
          · obtain ⟨f', rfl⟩ : ∃ m, f' = m + 1 := ⟨f' - 1, by omega⟩
            obtain ⟨I4, y1, y2⟩ := r3 f' I' I3 (by omega) q1 q2 q3 q4
            refine ⟨I4, ?_, y2⟩
            rw [mb f' I' I3 q1 q2 q3]
            unfold gX12_wrong_b99 fX12_hasBody
            dsimp only
            rw [if_pos (show Int32.ofInt (O k : Nat) < 11 by rw [i_ltl (by omega)]; omega), if_pos rfl, iadd1]
            exact y1
        · obtain ⟨I2, v, r1, r2, r3, r4, r5⟩ := ih (k + 1) f (d + 1) (fun j => if j = d then k else S j) 0 (u2 I1 16 d (Int32.ofInt (k : Int))) (by omega) (by omega) (ag.st rfl) (fun k' hk' => by rw [u2n (by omega)]; exact h15 k' hk') (by
            have := hi.op (by omega) t17
            have e : (fun q => u2 I1 16 d (Int32.ofInt (k : Int)) 15 (40 * p + q)) = fun q => I1 15 (40 * p + q) := by
              funext q
              rw [u2n (by omega)]
            rw [e]
            exact this) (fun j hj => by
              show _
              by_cases e : j = d
              · rw [if_pos e, u2s ⟨rfl, e⟩]
              · rw [if_neg e, u2n (by omega)]; exact hs j (by omega)) (Or.inl rfl)
          refine ⟨I2, v, hC _ ?_, r2, fun f' I' I3 hf' q1 q2 q3 q4 => ?_, r4, r5⟩
          · rw [cb]
            unfold gX6_firstWrong_b53
            dsimp only
            rw [if_neg nz, if_neg (by rw [i_ltl (by omega)]; omega), if_pos (by rw [i_gd (by omega)]; exact id), t41 (t := d) (by omega), iadd1, iadd1]
            exact r1
          · obtain ⟨f', rfl⟩ : ∃ m, f' = m + 1 := ⟨f' - 1, by omega⟩
            obtain ⟨I4, y1, y2⟩ := r3 f' I' (u2 I3 142 d (Int32.ofInt (O k : Nat))) (by omega) q1 q2 (q3.st rfl) (fun j hj => by
              show _
              by_cases e : j = d
              · rw [if_pos e, u2s ⟨rfl, e⟩]
              · rw [if_neg e, u2n (by omega)]; exact q4 j (by omega))
            refine ⟨I4, ?_, y2⟩
            rw [mb f' I' I3 q1 q2 q3]
            unfold gX12_wrong_b99 fX12_hasBody
            dsimp only
            rw [if_neg (show ¬ Int32.ofInt (O k : Nat) < 11 by rw [i_ltl (by omega)]; omega), if_neg n10, if_pos (by rw [i_gd (by omega)]; exact id), t41 (t := d) (by omega), iadd1, iadd1]
            exact y1
  unfold gX6_firstWrong gX12_wrong
  rw [hF]
  obtain ⟨I2, v, r1, r2, r3, r4, r5⟩ := lp n 0 F 0 (fun _ => 0) 0 I (by omega) (by omega) Ag.rf (fun _ _ => rfl) ⟨Nat.le_refl _, fun j h => by omega, ⟨fun q h => by omega, fun q h => by omega⟩, fun q h => by omega⟩ (fun j h => by omega) (Or.inl rfl)
  exact ⟨I2, v, r1, r2, fun I' q1 q2 => r3 F I' I' (by omega) q1 q2 Ag.rf (fun j h => by omega), r4, r5⟩
/-- the steps of a plan -/
theorem pln {I : Nat → Nat → Int32} (h : GPlan I) {p : Nat} (hp : p < 4) : ∃ (n : Nat) (O : Nat → Nat), n ≤ 40 ∧ I 134 p = Int32.ofInt (n : Int) ∧ pOk I p O := by
  obtain ⟨n, n1, n2, e⟩ := h.e1 p hp
  refine ⟨n.toNat, fun k => (I 135 (40 * p + k)).toInt.toNat, by omega, by rw [e, show (n.toNat : Int) = n by omega], fun k hk => ?_⟩
  obtain ⟨v, v1, v2, e⟩ := h.e3 (40 * p + k) (by omega)
  dsimp only
  rw [e, ti (by omega) (by omega)]
  exact ⟨by rw [show (v.toNat : Int) = v by omega], by omega⟩
theorem c_formed {σ : Shp} {I : Nat → Nat → Int32} {R : Nat → Nat → Option Nat} {x1 : Int32} (h : GPlan I) : Tot (gX11_formed σ I R x1) (fun t => Tot (gX12_formed σ t.1 R x1) (fun t2 => t.2 = t2.2 ∧ GPlan t2.1 ∧ Ag [(15, 17), (142, 143)] I t2.1)) := by
  obtain ⟨i, hi1, hi2, rfl⟩ := rep x1
  by_cases c1 : 0 ≤ i ∧ i ≤ 3
  case neg =>
    exact tt (I, 0) (I, 0) (by unfold gX11_formed; simp (disch := omega) only [fail_r, no_r, nob_r, fI_o, Nat.reduceLeDiff, ↓reduceIte, not_true_eq_false, not_false_eq_true, false_imp_iff, true_imp_iff, and_true, true_and, and_self, implies_true, false_or, or_false, true_or, or_true, d10, d01, d00, d11, g_tn, Tot_some, Tot_none, Tot_ite, Tot_bind, ob_some, onl_n, onl_s, nat32, Int.toNat_natCast, i_add, i_sub, i_mul, i_addl, i_addr, i_subl, i_subr, i_mulr, i_addn, i_gd, i_tn, i_w, i_ltlT, i_ltlF, i_ltrT, i_ltrF, i_lelT, i_lelF, i_lerT, i_lerF, i_eqlT, i_eqlF, i_eqrT, i_eqrF, i_ltnT, i_ltnF, i_lenT, i_lenF, i_eqnT, i_eqnF, i_ltT, i_ltF, i_leT, i_leF, i_eqT, i_eqF, j_ltlT, j_ltlF, j_ltrT, j_ltrF, j_lelT, j_lelF, j_lerT, j_lerF, j_eqlT, j_eqlF, j_ltT, j_ltF, j_leT, j_leF, j_eqT, j_eqF, i_mull, l_tn, l_lt0, l_ne0, nleF, tX11_isStockT, tX11_isStockF, tX11_isBinT, tX11_isBinF, tX11_isPlanT, tX11_isPlanF, tX11_isValveT, tX11_isValveF, tX11_isLaneT, tX11_isLaneF, tX11_isGridFormT, tX11_isGridFormF, tX11_isFormT, tX11_isFormF, tX11_isTrayFormT, tX11_isTrayFormF, tX11_isPlacesFormT, tX11_isPlacesFormF, tX11_isTableT, tX11_isTableF, tX11_isProbeT, tX11_isProbeF, tX11_isHouseT, tX11_isHouseF, tX11_isPestT, tX11_isPestF, tX11_isStageT, tX11_isStageF, tX11_isPartT, tX11_isPartF, tX12_isBinT, tX12_isBinF, tX12_isTableT, tX12_isTableF, tX12_inT, tX12_inF, tX12_innT, tX12_innF, tX12_ingT, tX12_ingF, tX12_isStageT, tX12_isStageF, tX1_isByteT, tX1_isByteF]) (by unfold gX12_formed; simp (disch := omega) only [fail_r, no_r, nob_r, fI_o, Nat.reduceLeDiff, ↓reduceIte, not_true_eq_false, not_false_eq_true, false_imp_iff, true_imp_iff, and_true, true_and, and_self, implies_true, false_or, or_false, true_or, or_true, d10, d01, d00, d11, g_tn, Tot_some, Tot_none, Tot_ite, Tot_bind, ob_some, onl_n, onl_s, nat32, Int.toNat_natCast, i_add, i_sub, i_mul, i_addl, i_addr, i_subl, i_subr, i_mulr, i_addn, i_gd, i_tn, i_w, i_ltlT, i_ltlF, i_ltrT, i_ltrF, i_lelT, i_lelF, i_lerT, i_lerF, i_eqlT, i_eqlF, i_eqrT, i_eqrF, i_ltnT, i_ltnF, i_lenT, i_lenF, i_eqnT, i_eqnF, i_ltT, i_ltF, i_leT, i_leF, i_eqT, i_eqF, j_ltlT, j_ltlF, j_ltrT, j_ltrF, j_lelT, j_lelF, j_lerT, j_lerF, j_eqlT, j_eqlF, j_ltT, j_ltF, j_leT, j_leF, j_eqT, j_eqF, i_mull, l_tn, l_lt0, l_ne0, nleF, tX11_isStockT, tX11_isStockF, tX11_isBinT, tX11_isBinF, tX11_isPlanT, tX11_isPlanF, tX11_isValveT, tX11_isValveF, tX11_isLaneT, tX11_isLaneF, tX11_isGridFormT, tX11_isGridFormF, tX11_isFormT, tX11_isFormF, tX11_isTrayFormT, tX11_isTrayFormF, tX11_isPlacesFormT, tX11_isPlacesFormF, tX11_isTableT, tX11_isTableF, tX11_isProbeT, tX11_isProbeF, tX11_isHouseT, tX11_isHouseF, tX11_isPestT, tX11_isPestF, tX11_isStageT, tX11_isStageF, tX11_isPartT, tX11_isPartF, tX12_isBinT, tX12_isBinF, tX12_isTableT, tX12_isTableF, tX12_inT, tX12_inF, tX12_innT, tX12_innF, tX12_ingT, tX12_ingF, tX12_isStageT, tX12_isStageF, tX1_isByteT, tX1_isByteF]) ⟨rfl, ⟨h, Ag.rf⟩⟩
  obtain ⟨p, rfl⟩ : ∃ k : Nat, i = (k : Int) := ⟨i.toNat, by omega⟩
  obtain ⟨n, O, n1, e1, e2⟩ := pln h (show p < 4 by omega)
  obtain ⟨I1, v, r1, r2, r3, -⟩ := fwCM (σ := σ) (R := R) h (by omega) n1 e1 e2
  obtain ⟨I2, y1, y2⟩ := r3 I1 (r2 134 p rfl) (fun k hk => r2 135 _ rfl)
  have a : Ag [(15, 17), (142, 143)] I I2 := (r2.mv rfl).tr (y2.mv rfl)
  refine tt (I1, v) (I2, v) ?_ ?_ ⟨rfl, h.kp (a.kp rfl), a⟩
  · unfold gX11_formed
    rw [tX11_isPlanT (by omega), if_neg n10, r1]
    rfl
  · show gX12_formed σ I1 R _ = _
    unfold gX12_formed
    rw [tX12_inT (by omega), if_neg n10, y1]
    rfl
