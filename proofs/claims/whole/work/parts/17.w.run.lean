/-! ===== a run: TRY: what both machines do ===== -/
theorem epC {n O : Nat → Nat} {A : Nat → Nat → Int32} {σ : Shp} {I : Nat → Nat → Int32} {c p b e s : Nat} (h : PlC n O A I) (hb : PlB n O) (hc : 202 ≤ c) (hk : kdx σ c = 4) (hp : p < 4) (h1 : I c 1 = Int32.ofInt (p : Nat)) (bn : b < n p) (hE : PBd (op O p) (n p) (fun q => I 15 (40 * p + q))) (mt : Mt (op O p) b e) : gX7_enterPart σ I (some c) (Int32.ofInt (b : Nat)) (Int32.ofInt (s : Nat)) = some (u2 (u2 (u2 (u2 I c 8 (Int32.ofInt (s : Nat))) c 3 (Int32.ofInt ((b + 1 : Nat) : Int))) c 4 (Int32.ofInt (e : Nat))) 25 0 0) := by
  unfold gX7_enterPart
  rw [ob_some, if_pos hk]
  try dsimp only
  rw [u2n (by omega), u2n (by omega), h1, iadd1]
  have pk : PlC n O A (u2 (u2 I c 8 (Int32.ofInt (s : Nat))) c 3 (Int32.ofInt ((b + 1 : Nat) : Int))) := ⟨fun q hq => by rw [u2n (by omega), u2n (by omega)]; exact h.1 q hq, fun k hk => by
    rw [u2n (by omega), u2n (by omega), u2n (by omega), u2n (by omega), u2n (by omega), u2n (by omega), u2n (by omega), u2n (by omega)]; exact h.2 k hk⟩
  have dk : PBd (op O p) (n p) (fun q => u2 (u2 I c 8 (Int32.ofInt (s : Nat))) c 3 (Int32.ofInt ((b + 1 : Nat) : Int)) 15 (40 * p + q)) := by
    have e : (fun q => u2 (u2 I c 8 (Int32.ofInt (s : Nat))) c 3 (Int32.ofInt ((b + 1 : Nat) : Int)) 15 (40 * p + q)) = fun q => I 15 (40 * p + q) := by
      funext q
      rw [u2n (by omega), u2n (by omega)]
    rw [e]
    exact hE
  rw [eC pk hb hp bn dk mt, ob_some, if_pos g00, c00]
/-- the way out is kept for a LAST -/
def wkp (I : Nat → Nat → Int32) (c : Nat) : Nat → (Nat → Nat → Int32)
  | 0 => I
  | k + 1 => u2 (wkp I c k) (c + 1) k (I 25 k)
theorem wkp_o {I : Nat → Nat → Int32} {c a : Nat} (h : a ≠ c + 1) : ∀ k, wkp I c k a = I a := by
  intro k
  induction k with
  | zero => rfl
  | succ k ih =>
    funext j
    show u2 (wkp I c k) (c + 1) k (I 25 k) a j = _
    rw [u2n (by omega), ih]
theorem wkp_s {I : Nat → Nat → Int32} {c j : Nat} : ∀ k, j < k → wkp I c k (c + 1) j = I 25 j := by
  intro k
  induction k with
  | zero => intro h; omega
  | succ k ih =>
    intro h
    show u2 (wkp I c k) (c + 1) k (I 25 k) (c + 1) j = _
    by_cases e : j = k
    · rw [e, u2_self]
    · rw [u2n (by omega)]; exact ih (by omega)
theorem elC {n O : Nat → Nat} {A : Nat → Nat → Int32} {σ : Shp} {I : Nat → Nat → Int32} {R : Nat → Nat → Option Nat} {c p b e : Nat} (h : PlC n O A I) (hb : PlB n O) (hc : 202 ≤ c) (hk : kdx σ c = 4) (hr : R c 12 = some (c + 1)) (hk2 : kdx σ (c + 1) = 20) (hl : lnx σ (c + 1) = 6) (hp : p < 4) (h1 : I c 1 = Int32.ofInt (p : Nat)) (bn : b < n p) (ob : op O p b = 18) (hE : PBd (op O p) (n p) (fun q => I 15 (40 * p + q))) (mt : Mt (op O p) b e) : gX7_entersLast_b64 σ R I (some c) (Int32.ofInt (b : Nat)) = some (u2 (u2 (u2 (u2 (wkp (u2 I 5 11 (I 5 11 + 1)) c 6) c 8 (Int32.ofInt ((2 : Nat) : Int))) c 3 (Int32.ofInt ((b + 1 : Nat) : Int))) c 4 (Int32.ofInt (e : Nat))) 25 0 0, 1) := by
  have hn := hb.1 p hp
  obtain ⟨F, hF⟩ : ∃ F, FUx = F + 7 := ⟨1999993, by rw [FUx_eq]⟩
  unfold gX7_entersLast_b64
  rw [ob_some, if_pos hk, h1, opK h hb hp (by omega), ob_some, if_pos bn, ob, if_pos (by rfl)]
  try dsimp only
  generalize eK : u2 I 5 11 (I 5 11 + 1) = K
  have stp : ∀ (f k : Nat), k < 6 → gX7_entersLast_l95 σ R (f + 1) (wkp K c k) (some c) (Int32.ofInt (b : Nat)) (Int32.ofInt (k : Nat)) = gX7_entersLast_l95 σ R f (wkp K c (k + 1)) (some c) (Int32.ofInt (b : Nat)) (Int32.ofInt ((k + 1 : Nat) : Int)) := fun f k hk6 => by
    rw [gX7_entersLast_l95, if_neg (by rw [i_ler (by omega)]; omega), ob_some, if_pos hk, hr, ob_some, if_pos (by rw [i_gd (by omega)]; exact id), if_pos hk2, hl, t41 (by omega), if_pos (by rw [i_ltl (by omega)]; omega), iadd1, wkp_o (a := 25) (by omega) k]
    rfl
  have z := (stp (F + 6) 0 (by omega)).trans ((stp (F + 5) 1 (by omega)).trans ((stp (F + 4) 2 (by omega)).trans ((stp (F + 3) 3 (by omega)).trans ((stp (F + 2) 4 (by omega)).trans (stp (F + 1) 5 (by omega))))))
  have ok : ∀ a, a ≠ 5 → a ≠ c + 1 → wkp K c 6 a = I a := fun a g1 g2 => by
    rw [wkp_o g2 6, ← eK]
    funext j
    rw [u2n (by omega)]
  have pk : PlC n O A (wkp K c 6) := ⟨fun q hq => by rw [ok 10 (by omega) (by omega)]; exact h.1 q hq, fun k hk => by
    rw [ok 11 (by omega) (by omega), ok 12 (by omega) (by omega), ok 13 (by omega) (by omega), ok 14 (by omega) (by omega)]; exact h.2 k hk⟩
  have dk : PBd (op O p) (n p) (fun q => wkp K c 6 15 (40 * p + q)) := by
    rw [ok 15 (by omega) (by omega)]
    exact hE
  have ep := epC (s := 2) (σ := σ) (c := c) pk hb hc hk hp (by rw [ok c (by omega) (by omega)]; exact h1) bn dk mt
  rw [hF]
  refine z.trans ?_
  rw [gX7_entersLast_l95, if_pos (by decide)]
  rw [show (2 : Int32) = Int32.ofInt ((2 : Nat) : Int) from rfl, show 5 + 1 = 6 from rfl, ep, ob_some]
/-- the way out that was kept comes back -/
def skp (I : Nat → Nat → Int32) (c : Nat) : Nat → (Nat → Nat → Int32)
  | 0 => I
  | k + 1 => u2 (skp I c k) 25 k (I (c + 1) k)
theorem skp_o {I : Nat → Nat → Int32} {c a : Nat} (h : a ≠ 25) : ∀ k, skp I c k a = I a := by
  intro k
  induction k with
  | zero => rfl
  | succ k ih =>
    funext j
    show u2 (skp I c k) 25 k (I (c + 1) k) a j = _
    rw [u2n (by omega), ih]
theorem skp_s {I : Nat → Nat → Int32} {c j : Nat} : ∀ k, j < k → skp I c k 25 j = I (c + 1) j := by
  intro k
  induction k with
  | zero => intro h; omega
  | succ k ih =>
    intro h
    show u2 (skp I c k) 25 k (I (c + 1) k) 25 j = _
    by_cases e : j = k
    · rw [e, u2_self]
    · rw [u2n (by omega)]; exact ih (by omega)
theorem slC {σ : Shp} {I : Nat → Nat → Int32} {R : Nat → Nat → Option Nat} {c : Nat} (hc : 202 ≤ c) (hk : kdx σ c = 4) (hr : R c 12 = some (c + 1)) (hk2 : kdx σ (c + 1) = 20) (hl : lnx σ (c + 1) = 6) : gX7_settleLast σ I R (some c) = if I 25 0 = 0 then some (skp I c 6) else if I 25 0 = 1 then (if I (c + 1) 0 = 1 then some (u2 I 25 4 (I (c + 1) 1)) else some I) else some I := by
  obtain ⟨F, hF⟩ : ∃ F, FUx = F + 7 := ⟨1999993, by rw [FUx_eq]⟩
  unfold gX7_settleLast
  rw [if_pos g00, c00, hF]
  have stp : ∀ (f k : Nat), k < 6 → gX7_settleLast_l11 σ R (f + 1) (skp I c k) (some c) (Int32.ofInt (k : Nat)) = gX7_settleLast_l11 σ R f (skp I c (k + 1)) (some c) (Int32.ofInt ((k + 1 : Nat) : Int)) := fun f k hk6 => by
    rw [gX7_settleLast_l11, if_neg (by rw [i_ler (by omega)]; omega), ob_some, if_pos hk, hr, ob_some, if_pos hk2, hl, if_pos (by rw [i_gd (by omega)]; exact id), t41 (by omega), if_pos (by rw [i_ltl (by omega)]; omega), iadd1, skp_o (a := c + 1) (by omega) k]
    rfl
  have z := (stp (F + 6) 0 (by omega)).trans ((stp (F + 5) 1 (by omega)).trans ((stp (F + 4) 2 (by omega)).trans ((stp (F + 3) 3 (by omega)).trans ((stp (F + 2) 4 (by omega)).trans (stp (F + 1) 5 (by omega))))))
  by_cases w : I 25 0 = 0
  · rw [if_pos w, if_pos w]
    refine z.trans ?_
    rw [gX7_settleLast_l11, if_pos (by decide)]
  · rw [if_neg w, if_neg w]
    by_cases w1 : I 25 0 = 1
    · rw [if_pos w1, if_pos w1, ob_some, if_pos hk, hr, ob_some, if_pos hk2, hl, if_pos (by decide)]
      by_cases w2 : I (c + 1) 0 = 1
      · rw [if_pos w2, if_pos w2, if_pos (by decide), if_pos (by decide), c01, c04]
      · rw [if_neg w2, if_neg w2]
    · rw [if_neg w1, if_neg w1]
/-- a LAST is entered, in the model -/
def laM (I : Nat → Nat → Int32) (t p b ch : Nat) : Nat → Nat → Int32 := u2 (u2 (u2 (u2 (u2 (u2 (u2 (u2 (u2 (puM (u2 (u2 I 114 57 (Int32.ofInt (p : Nat))) 114 58 (Int32.ofInt (b : Nat))) t 18 ch) 148 t (I 114 59)) 149 t (I 114 60)) 150 t (I 114 61)) 151 t (I 114 62)) 152 t (I 114 63)) 153 t (I 114 64)) 114 59 0) 114 68 (I 114 68 + 1)) 114 58 (Int32.ofInt ((b + 1 : Nat) : Int))
theorem bhM {n O : Nat → Nat} {A : Nat → Nat → Int32} {σ : Shp} {R : Nat → Nat → Option Nat} {I : Nat → Nat → Int32} {t p b ch : Nat} (hm : PlM n O A I) (hb : PlB n O) (hp : p < 4) (bn : b ≤ n p) (ht : t < 400) (h42 : I 114 42 = Int32.ofInt (t : Nat)) (h54 : I 114 54 = Int32.ofInt (ch : Nat)) : gX12_behind_b40 σ R I (Int32.ofInt (p : Nat)) (Int32.ofInt (b : Nat)) = if b < n p ∧ op O p b = 18 then some (laM I t p b ch) else some (u2 (u2 I 114 57 (Int32.ofInt (p : Nat))) 114 58 (Int32.ofInt (b : Nat))) := by
  have hn := hb.1 p hp
  have e : Int32.ofInt ((t + 1 : Nat) : Int) - 1 = Int32.ofInt (t : Nat) := by rw [i_subl]; congr 1; omega
  have gp : ¬ (Int32.ofInt (t : Int) < 0 ∨ 400 ≤ t) := by rw [i_ltl (by omega)]; omega
  unfold gX12_behind_b40
  try dsimp only
  rw [if_pos (p40 hp), t41 (by omega), u2n (by omega), u2n (by omega), hm.1 p hp]
  by_cases z : b < n p
  · rw [if_neg (by rw [i_le (by omega) (by omega)]; omega), iy40, if_pos (p16 (by omega)), t41 (by omega), u2n (by omega), u2n (by omega), (hm.2 _ (by omega)).1]
    by_cases z8 : op O p b = 18
    · rw [if_pos (by rw [show O (40 * p + b) = 18 from z8]; rfl), if_pos ⟨z, z8⟩, puI (t := t) (ch := ch) (by simp (disch := omega) only [u2n, u2s]; exact h42) ht (by simp (disch := omega) only [u2n, u2s]; exact h54), ob_some]
      try dsimp only
      have q42 : puM (u2 (u2 I 114 57 (Int32.ofInt (p : Nat))) 114 58 (Int32.ofInt (b : Nat))) t 18 ch 114 42 = Int32.ofInt ((t + 1 : Nat) : Int) := by unfold puM; simp (disch := omega) only [u2n, u2s]
      rw [q42, e, t41 (by omega), if_pos gp]
      unfold laM
      generalize eP : puM (u2 (u2 I 114 57 (Int32.ofInt (p : Nat))) 114 58 (Int32.ofInt (b : Nat))) t 18 ch = P
      have f : ∀ k, 59 ≤ k → k ≤ 68 → P 114 k = I 114 k := fun k h1 h2 => by rw [← eP]; unfold puM; simp (disch := omega) only [u2n, u2s]
      simp (disch := omega) only [u2n, u2s, f, iadd1, if_pos gp]
    · rw [if_neg (by rw [i_eql (by have := hb.2 (40 * p + b) (by omega); omega)]; exact fun q => z8 (by show O (40 * p + b) = 18; omega)), if_neg (fun q => z8 q.2)]
  · rw [if_pos (by rw [i_le (by omega) (by omega)]; omega), if_neg (fun q => z q.1)]
