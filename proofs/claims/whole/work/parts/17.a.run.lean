/-! ===== a run: where bodies lie in a plan ===== -/
/-- how deep one stands before k, counted from s on -/
def dq (O : Nat → Nat) (s : Nat) : Nat → Int
  | 0 => 1
  | k + 1 => dq O s k + (if s ≤ k then dlt (O k) else 0)
theorem dq_s {O : Nat → Nat} {s k : Nat} : dq O s (k + 1) = dq O s k + (if s ≤ k then dlt (O k) else 0) := rfl
theorem dpt_dq {O : Nat → Nat} {q : Nat} : ∀ k, dpt O q k = dq O (q + 1) k := by
  intro k
  induction k with
  | zero => rfl
  | succ k ih =>
    rw [dpt_s, dq_s, ih]
    by_cases h : q < k
    · rw [if_pos h, if_pos (by omega)]
    · rw [if_neg h, if_neg (by omega)]
theorem dlt_11 {o : Nat} (h : 11 ≤ o) : dlt o = 1 := by unfold dlt; rw [if_neg (by omega), if_neg (by omega)]
theorem dlt_0 {o : Nat} (h1 : o ≠ 0) (h : o < 11) : dlt o = 0 := by unfold dlt; rw [if_neg h1, if_pos h]
theorem dlt_z : dlt 0 = -1 := rfl
theorem dlt_le {o : Nat} : -1 ≤ dlt o ∧ dlt o ≤ 1 := by
  unfold dlt
  split
  · omega
  · split <;> omega
theorem dq_1 {O : Nat → Nat} {s : Nat} : ∀ k, k ≤ s → dq O s k = 1 := by
  intro k
  induction k with
  | zero => exact fun _ => rfl
  | succ k ih =>
    intro h
    rw [dq_s, ih (by omega), if_neg (by omega)]
    rfl
theorem dq_le {O : Nat → Nat} {s : Nat} : ∀ k : Nat, dq O s k ≤ k + 1 := by
  intro k
  induction k with
  | zero => exact Int.le_refl _
  | succ k ih =>
    rw [dq_s]
    have := (dlt_le (o := O k)).2
    split <;> omega
theorem dq_sh {O : Nat → Nat} {s r : Nat} (h : s ≤ r) : ∀ k, r + 1 ≤ k → dq O s k = dq O s r + dlt (O r) + (dpt O r k - 1) := by
  intro k
  induction k with
  | zero => intro h; omega
  | succ k ih =>
    intro hk
    by_cases c : k = r
    · subst c
      rw [dq_s, if_pos h, dpt_1 (k + 1) (Nat.le_refl _)]
      omega
    · rw [dq_s, if_pos (by omega), ih (by omega), dpt_s, if_pos (by omega)]
      omega
/-- a stretch that begins at s and ends at e: a body behind its step, or a plan -/
def Bd (O : Nat → Nat) (s e : Nat) : Prop := s ≤ e ∧ (∀ i, i ≤ e → 1 ≤ dq O s i) ∧ (s ≠ 0 → O e = 0 ∧ dq O s (e + 1) = 0)
theorem Mt.bd {O : Nat → Nat} {q e : Nat} (h : Mt O q e) : Bd O (q + 1) e := ⟨h.1, fun i hi => by rw [← dpt_dq]; exact h.2.2.2.2 i hi, fun _ => ⟨h.2.1, by rw [← dpt_dq]; exact h.2.2.2.1⟩⟩
theorem PWf.bd {O : Nat → Nat} {n : Nat} (h : PWf O n) : Bd O 0 n := by
  refine ⟨Nat.zero_le _, ?_, fun c => absurd rfl c⟩
  intro i
  induction i using Nat.strongRecOn with
  | ind i ih =>
    intro hi
    cases i with
    | zero => exact Int.le_refl _
    | succ k =>
      by_cases c : O k = 0
      · obtain ⟨r, m⟩ := h.2 k (by omega) c
        have e := dq_sh (O := O) (Nat.zero_le r) (k + 1) (by have := m.1; omega)
        have := ih r (by have := m.1; omega) (by have := m.1; omega)
        rw [m.2.2.2.1, dlt_11 m.2.2.1] at e
        omega
      · have := ih k (by omega) (by omega)
        rw [dq_s, if_pos (Nat.zero_le _)]
        have : 0 ≤ dlt (O k) := by
          by_cases d : O k < 11
          · rw [dlt_0 c d]; omega
          · rw [dlt_11 (by omega)]; omega
        omega
theorem Bd.nz {O : Nat → Nat} {s e x : Nat} (h : Bd O s e) (hs : s ≤ x) (hx : x < e) (h1 : dq O s x = 1) : O x ≠ 0 := by
  intro c
  have := h.2.1 (x + 1) (by omega)
  rw [dq_s, if_pos hs, h1, c, dlt_z] at this
  omega
theorem Bd.pl {O : Nat → Nat} {s e x : Nat} (h : Bd O s e) (hs : s ≤ x) (hx : x < e) (h1 : dq O s x = 1) (h2 : O x < 11) : dq O s (x + 1) = 1 := by
  rw [dq_s, if_pos hs, h1, dlt_0 (h.nz hs hx h1) h2]
  rfl
theorem Bd.sk {O : Nat → Nat} {s e x e2 : Nat} (h : Bd O s e) (hs : s ≤ x) (hx : x < e) (h1 : dq O s x = 1) (m : Mt O x e2) (h0 : s = 0 → e2 < e) : e2 < e ∧ dq O s (e2 + 1) = 1 := by
  have k : ∀ i, x + 1 ≤ i → dq O s i = 1 + dpt O x i := fun i hi => by
    rw [dq_sh hs i hi, h1, dlt_11 m.2.2.1]
    omega
  refine ⟨?_, by rw [k _ (by have := m.1; omega), m.2.2.2.1]; rfl⟩
  by_cases z : s = 0
  · exact h0 z
  · by_cases c : e2 < e
    · exact c
    · exfalso
      have a := (h.2.2 z).2
      rw [k (e + 1) (by omega)] at a
      by_cases d : e = e2
      · rw [d, m.2.2.2.1] at a; omega
      · have := m.2.2.2.2 (e + 1) (by omega)
        omega
/-- a body is opened by one step -/
theorem Mt.uo {O : Nat → Nat} {q q' e : Nat} (h : Mt O q e) (h' : Mt O q' e) : q = q' := by
  have k : ∀ a b, Mt O a e → Mt O b e → ¬ a < b := fun a b h h' c => by
    have := (h.bd).sk (x := b) (e2 := e) (by omega) h'.1
    have z := dq_sh (O := O) (s := a + 1) (r := b) c (e + 1) (by have := h'.1; omega)
    have y := (h.bd).2.1 b (by have := h'.1; omega)
    rw [((h.bd).2.2 (by omega)).2, dlt_11 h'.2.2.1, h'.2.2.2.1] at z
    omega
  have := k q q' h h'
  have := k q' q h' h
  omega
/-- steps that lie one behind another: CATCHes alone (t = 0), or a LAST too -/
def Ch (O : Nat → Nat) (t : Nat) : Nat → Nat → Nat → Prop
  | 0, a, b => a = b
  | m + 1, a, b => (O a = 17 ∨ (t = 1 ∧ O a = 18)) ∧ ∃ e, Mt O a e ∧ Ch O t m (e + 1) b
theorem Ch.le {O : Nat → Nat} {t : Nat} : ∀ {m a b : Nat}, Ch O t m a b → a + 2 * m ≤ b := by
  intro m
  induction m with
  | zero => intro a b h; rw [show a = b from h]; omega
  | succ m ih =>
    intro a b h
    obtain ⟨-, e, h1, h2⟩ := h
    have := ih h2
    have := h1.1
    omega
theorem Ch.up {O : Nat → Nat} : ∀ {m a b : Nat}, Ch O 0 m a b → Ch O 1 m a b := by
  intro m
  induction m with
  | zero => exact fun h => h
  | succ m ih =>
    intro a b h
    obtain ⟨h0, e, h1, h2⟩ := h
    exact ⟨Or.inl (h0.resolve_right (fun q => by omega)), e, h1, ih h2⟩
theorem Ch.sn {O : Nat → Nat} {t : Nat} : ∀ {m a b e : Nat}, Ch O t m a b → (O b = 17 ∨ (t = 1 ∧ O b = 18)) → Mt O b e → Ch O t (m + 1) a (e + 1) := by
  intro m
  induction m with
  | zero =>
    intro a b e h h1 h2
    rw [show a = b from h]
    exact ⟨h1, e, h2, rfl⟩
  | succ m ih =>
    intro a b e h h1 h2
    obtain ⟨h0, e', h3, h4⟩ := h
    exact ⟨h0, e', h3, ih h4 h1 h2⟩
theorem Ch.tr {O : Nat → Nat} {t : Nat} : ∀ {m a b k c : Nat}, Ch O t m a b → Ch O t k b c → Ch O t (m + k) a c := by
  intro m
  induction m with
  | zero =>
    intro a b k c h h1
    rw [show a = b from h, Nat.zero_add]
    exact h1
  | succ m ih =>
    intro a b k c h h1
    obtain ⟨h0, e', h3, h4⟩ := h
    rw [Nat.succ_add]
    exact ⟨h0, e', h3, ih h4 h1⟩
theorem PBd.mt {O : Nat → Nat} {n : Nat} {E : Nat → Int32} (h : PBd O n E) {q e : Nat} (hq : q < n) (m : Mt O q e) : e < n ∧ E q = Int32.ofInt (e : Nat) := by
  obtain ⟨e', h1, h2, h3⟩ := h q hq m.2.2.1
  rw [m.uq h3]
  exact ⟨h1, h2⟩
theorem PBd.ex {O : Nat → Nat} {n : Nat} {E : Nat → Int32} (h : PBd O n E) {q : Nat} (hq : q < n) (h11 : 11 ≤ O q) : ∃ e, Mt O q e ∧ e < n ∧ E q = Int32.ofInt (e : Nat) := by
  obtain ⟨e', h1, h2, h3⟩ := h q hq h11
  exact ⟨e', h3, h1, h2⟩
/-! the plans in both memories: n, O, and the numbers A -/
def PlC (n O : Nat → Nat) (A : Nat → Nat → Int32) (I : Nat → Nat → Int32) : Prop := (∀ p : Nat, p < 4 → I 10 p = Int32.ofInt (n p)) ∧ ∀ k : Nat, k < 160 → I 11 k = Int32.ofInt (O k) ∧ I 12 k = A 0 k ∧ I 13 k = A 1 k ∧ I 14 k = A 2 k
def PlM (n O : Nat → Nat) (A : Nat → Nat → Int32) (I : Nat → Nat → Int32) : Prop := (∀ p : Nat, p < 4 → I 134 p = Int32.ofInt (n p)) ∧ ∀ k : Nat, k < 160 → I 135 k = Int32.ofInt (O k) ∧ I 136 k = A 0 k ∧ I 137 k = A 1 k ∧ I 138 k = A 2 k
def PlB (n O : Nat → Nat) : Prop := (∀ p : Nat, p < 4 → n p ≤ 40) ∧ ∀ k : Nat, k < 160 → O k ≤ 20
def op (O : Nat → Nat) (p : Nat) : Nat → Nat := fun k => O (40 * p + k)
theorem PlC.kp {n O : Nat → Nat} {A : Nat → Nat → Int32} {I I' : Nat → Nat → Int32} (h : PlC n O A I) (k : Kp [(10, 15)] I I') : PlC n O A I' := ⟨fun p hp => by rw [k 10 p rfl]; exact h.1 p hp, fun x hx => by rw [k 11 x rfl, k 12 x rfl, k 13 x rfl, k 14 x rfl]; exact h.2 x hx⟩
theorem PlM.kp {n O : Nat → Nat} {A : Nat → Nat → Int32} {I I' : Nat → Nat → Int32} (h : PlM n O A I) (k : Kp [(134, 139)] I I') : PlM n O A I' := ⟨fun p hp => by rw [k 134 p rfl]; exact h.1 p hp, fun x hx => by rw [k 135 x rfl, k 136 x rfl, k 137 x rfl, k 138 x rfl]; exact h.2 x hx⟩
theorem ix40 {p k : Nat} : Int32.ofInt (p : Int) * 40 + Int32.ofInt (k : Int) = Int32.ofInt ((40 * p + k : Nat) : Int) := by rw [i_mull, i_add]; congr 1; omega
theorem iy40 {p k : Nat} : 40 * Int32.ofInt (p : Int) + Int32.ofInt (k : Int) = Int32.ofInt ((40 * p + k : Nat) : Int) := by rw [i_mulr, i_add]; congr 1
/-- where a body ends, in the model -/
theorem endM {n O : Nat → Nat} {A : Nat → Nat → Int32} {σ : Shp} {I : Nat → Nat → Int32} {R : Nat → Nat → Option Nat} {p q e : Nat} (h : PlM n O A I) (hb : PlB n O) (hp : p < 4) (m : Mt (op O p) q e) (he : e < 40) : gX12_endOf σ I R (Int32.ofInt p) (Int32.ofInt q) = some (Int32.ofInt (e : Nat)) := by
  obtain ⟨F, hF⟩ : ∃ F, FUx = F := ⟨_, rfl⟩
  have hF' : F = 2000000 := by rw [← hF, FUx_eq]
  have lp : ∀ (u k f : Nat), u < f → k + u = e → q ≤ k → gX12_endOf_l5 σ I R f (Int32.ofInt p) (Int32.ofInt (dpt (op O p) q (k + 1))) (Int32.ofInt (k : Nat)) = some (Int32.ofInt (e : Nat)) := by
    intro u
    induction u with
    | zero =>
      intro k f hf hk hq
      obtain ⟨f, rfl⟩ : ∃ m, f = m + 1 := ⟨f - 1, by omega⟩
      obtain rfl : k = e := by omega
      rw [m.2.2.2.1, gX12_endOf_l5, if_pos (by decide)]
    | succ u ih =>
      intro k f hf hk hq
      obtain ⟨f, rfl⟩ : ∃ m, f = m + 1 := ⟨f - 1, by omega⟩
      have d1 := m.2.2.2.2 (k + 1) (by omega)
      have d2 := dq_le (O := op O p) (s := q + 1) (k + 1)
      rw [← dpt_dq] at d2
      have hk2 := (h.2 (40 * p + (k + 1)) (by omega)).1
      have ho : O (40 * p + (k + 1)) ≤ 20 := hb.2 _ (by omega)
      have z := dpt_s (O := op O p) (q := q) (k := k + 1)
      rw [if_pos (by omega)] at z
      have := ih (k + 1) f (by omega) (by omega) (by omega)
      rw [z] at this
      rw [gX12_endOf_l5, if_neg (by rw [i_lel (by omega)]; omega)]
      dsimp only
      rw [iadd1, iy40, if_pos (by rw [i_gd (by omega)]; exact id), t41 (by omega), hk2]
      have eo : op O p (k + 1) = O (40 * p + (k + 1)) := rfl
      rw [eo] at this
      generalize O (40 * p + (k + 1)) = o at *
      by_cases c0 : o = 0
      · rw [if_pos (by rw [c0]; rfl)]
        rw [c0, dlt_z] at this
        rw [show Int32.ofInt (dpt (op O p) q (k + 1)) + (-1 : Int32) = Int32.ofInt (dpt (op O p) q (k + 1) + -1) by rw [i_addn]]
        exact this
      · rw [if_neg (by rw [i_eql (by omega)]; omega)]
        unfold fX12_hasBody
        by_cases c1 : o < 11
        · rw [if_pos (show Int32.ofInt (o : Nat) < 11 by rw [i_ltl (by omega)]; omega), if_pos rfl]
          rw [dlt_0 c0 c1] at this
          rw [show Int32.ofInt (dpt (op O p) q (k + 1)) + (0 : Int32) = Int32.ofInt (dpt (op O p) q (k + 1) + 0) by rw [i_addl]]
          exact this
        · rw [if_neg (show ¬ Int32.ofInt (o : Nat) < 11 by rw [i_ltl (by omega)]; omega), if_neg n10]
          rw [dlt_11 (by omega)] at this
          rw [show Int32.ofInt (dpt (op O p) q (k + 1)) + (1 : Int32) = Int32.ofInt (dpt (op O p) q (k + 1) + 1) by rw [i_addl]]
          exact this
  have := lp (e - q) q F (by omega) (by have := m.1; omega) (Nat.le_refl _)
  rw [dpt_1 _ (Nat.le_refl _)] at this
  unfold gX12_endOf
  rw [hF]
  exact this
/-! what stands at a place, in the class -/
theorem isPl {n O : Nat → Nat} {A : Nat → Nat → Int32} {I : Nat → Nat → Int32} {p k : Nat} (h : PlC n O A I) (hb : PlB n O) (hp : p < 4) (hk : k < 1000) : gX6_isPlace I (Int32.ofInt p) (Int32.ofInt k) = some (if k < n p then 1 else 0) := by
  have := hb.1 p hp
  unfold gX6_isPlace
  rw [if_neg (by rw [i_ltl (by omega)]; omega), if_neg (by rw [i_ler (by omega)]; omega), if_neg (by rw [i_ltl (by omega)]; omega), if_pos (p40 hp), t41 (by omega), h.1 p hp]
  by_cases c : k < n p
  · rw [if_neg (by rw [i_le (by omega) (by omega)]; omega), if_pos c]
  · rw [if_pos (by rw [i_le (by omega) (by omega)]; omega), if_neg c]
theorem opK {n O : Nat → Nat} {A : Nat → Nat → Int32} {I : Nat → Nat → Int32} {p k : Nat} (h : PlC n O A I) (hb : PlB n O) (hp : p < 4) (hk : k < 1000) : gX6_opAt I (Int32.ofInt p) (Int32.ofInt k) = some (Int32.ofInt ((if k < n p then op O p k else 0 : Nat) : Int)) := by
  have := hb.1 p hp
  unfold gX6_opAt
  rw [isPl h hb hp hk, ob_some]
  by_cases c : k < n p
  · rw [if_pos c, if_neg n10, if_pos c, ix40, if_pos (p16 (by omega)), t41 (by omega), (h.2 _ (by omega)).1]
    rfl
  · rw [if_neg c, if_pos rfl, if_neg c]
    rfl
theorem aC {n O : Nat → Nat} {A : Nat → Nat → Int32} {I : Nat → Nat → Int32} {p k : Nat} (h : PlC n O A I) (hb : PlB n O) (hp : p < 4) (hk : k < n p) : gX6_aAt I (Int32.ofInt p) (Int32.ofInt k) = some (A 0 (40 * p + k)) := by
  have := hb.1 p hp
  unfold gX6_aAt
  rw [isPl h hb hp (by omega), ob_some, if_pos hk, if_neg n10, ix40, if_pos (p16 (by omega)), t41 (by omega), (h.2 _ (by omega)).2.1]
theorem bC {n O : Nat → Nat} {A : Nat → Nat → Int32} {I : Nat → Nat → Int32} {p k : Nat} (h : PlC n O A I) (hb : PlB n O) (hp : p < 4) (hk : k < n p) : gX6_bAt I (Int32.ofInt p) (Int32.ofInt k) = some (A 1 (40 * p + k)) := by
  have := hb.1 p hp
  unfold gX6_bAt
  rw [isPl h hb hp (by omega), ob_some, if_pos hk, if_neg n10, ix40, if_pos (p16 (by omega)), t41 (by omega), (h.2 _ (by omega)).2.2.1]
theorem cC' {n O : Nat → Nat} {A : Nat → Nat → Int32} {I : Nat → Nat → Int32} {p k : Nat} (h : PlC n O A I) (hb : PlB n O) (hp : p < 4) (hk : k < n p) : gX6_cAt I (Int32.ofInt p) (Int32.ofInt k) = some (A 2 (40 * p + k)) := by
  have := hb.1 p hp
  unfold gX6_cAt
  rw [isPl h hb hp (by omega), ob_some, if_pos hk, if_neg n10, ix40, if_pos (p16 (by omega)), t41 (by omega), (h.2 _ (by omega)).2.2.2]
theorem eC {n O : Nat → Nat} {A : Nat → Nat → Int32} {I : Nat → Nat → Int32} {p k e : Nat} (h : PlC n O A I) (hb : PlB n O) (hp : p < 4) (hk : k < n p) (hE : PBd (op O p) (n p) (fun q => I 15 (40 * p + q))) (m : Mt (op O p) k e) : gX6_endAt I (Int32.ofInt p) (Int32.ofInt k) = some (Int32.ofInt (e : Nat)) := by
  have := hb.1 p hp
  have e2 := (hE.mt hk m).2
  unfold gX6_endAt
  rw [isPl h hb hp (by omega), ob_some, if_pos hk, if_neg n10, ix40, if_pos (p16 (by omega)), t41 (by omega), e2]
/-- the numbers of the step at hand, in the model -/
theorem nuM {n O : Nat → Nat} {A : Nat → Nat → Int32} {I : Nat → Nat → Int32} {p k : Nat} (h : PlM n O A I) (hp : p < 4) (hk : k < 40) (e1 : I 114 57 = Int32.ofInt (p : Nat)) (e2 : I 114 58 = Int32.ofInt (k : Nat)) : gX12_a I = some (A 0 (40 * p + k)) ∧ gX12_b I = some (A 1 (40 * p + k)) ∧ gX12_c I = some (A 2 (40 * p + k)) := by
  obtain ⟨-, b, c, d⟩ := h.2 (40 * p + k) (by omega)
  refine ⟨?_, ?_, ?_⟩
  · unfold gX12_a
    rw [e1, e2, iy40, if_pos (p16 (by omega)), t41 (by omega), b]
  · unfold gX12_b
    rw [e1, e2, iy40, if_pos (p16 (by omega)), t41 (by omega), c]
  · unfold gX12_c
    rw [e1, e2, iy40, if_pos (p16 (by omega)), t41 (by omega), d]
