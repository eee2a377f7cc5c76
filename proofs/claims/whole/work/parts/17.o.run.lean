/-! ===== a run: bodies are left: the common part ===== -/
def LvOk (n O : Nat → Nat) (A : Nat → Nat → Int32) (vd : Nat → Int32) (G : Nat → Nat → Nat) (N : Nat → Nat → Int32) (nb sb : Nat) (σ' : Shp) (R' : Nat → Nat → Option Nat) (σ : Shp) (I : Nat → Nat → Int32) (J : Nat → Nat → Int64) (R : Nat → Nat → Option Nat) (I' : Nat → Nat → Int32) (J' : Nat → Nat → Int64) (fc : Nat → Nat) (E : Nat → Nat → Nat) (t st : Nat) : Prop := ∃ I1 J1 R1 I1' J1' E1 V1 d1 st1 ch1, gX7_leave σ I J R (some (fc t)) = some (I1, J1, R1) ∧ (∀ f, gX12_run_l95 σ' R' (f + 1) I' J' = gX12_run_l95 σ' R' f I1' J1') ∧ Core n O A vd G N nb sb σ I1 J1 R1 I1' J1' fc E1 V1 d1 st1 ch1 ∧ Pc n O I1 I1' E1 d1 ∧ phi E1 d1 st1 < phi E (t + 1) st ∧ Ag WRc I I1 ∧ Ag WRc J J1 ∧ Ag WRc R R1 ∧ Ag WRm I' I1' ∧ Ag WRm J' J1'
theorem phiP {E E1 : Nat → Nat → Nat} {t st : Nat} : phi E1 t st < phi E (t + 1) st := by
  unfold phi
  rw [if_neg (show ¬ t + 1 = 0 by omega)]
  have : (2 - E1 (t - 1) 8) * 100 ≤ 200 := by
    have : 2 - E1 (t - 1) 8 ≤ 2 := by omega
    omega
  split <;> omega
/-- the uppermost frame goes, both sides -/
theorem Core.pop2 {n O : Nat → Nat} {A : Nat → Nat → Int32} {vd : Nat → Int32} {G : Nat → Nat → Nat} {N : Nat → Nat → Int32} {nb sb : Nat} {σ : Shp} {I : Nat → Nat → Int32} {J : Nat → Nat → Int64} {R : Nat → Nat → Option Nat} {I' : Nat → Nat → Int32} {J' : Nat → Nat → Int64} {fc : Nat → Nat} {E : Nat → Nat → Nat} {V : Nat → Nat → Int32} {t st ch ch1 : Nat} {I1 I1' : Nat → Nat → Int32} {J1 J1' : Nat → Nat → Int64} {R1 : Nat → Nat → Option Nat} (h : Core n O A vd G N nb sb σ I J R I' J' fc E V (t + 1) st ch) (s : Sto G N σ I1 J1 R1 I1' J1' ch1) (k : Skel σ R1) (aI : Ag [(5, 6), (17, 18), (19, 21), (22, 23), (25, 26)] I I1) (aR : Ag [(21, 22)] R R1) (aM : Ag [(140, 143), (154, 155), (1000042, 1000043), (1000054, 1000055), (1000057, 1000071)] I' I1') (e : I1 5 6 = Int32.ofInt (t : Nat)) (cc : Cnt I1 I1' E t st ch1) (w : Wy I1 I1') : Core n O A vd G N nb sb σ I1 J1 R1 I1' J1' fc E V t st ch1 := by
  have hn := h.hn
  obtain ⟨⟨p1, p2, p3⟩, -, ⟨k1, k2, k3⟩, cl, fr, -, -⟩ := h
  refine ⟨⟨p1.kp (aI.kp rfl), p2.kp (aI.kp rfl), p3.kp (aM.kp rfl)⟩, s, ⟨k, k2.kp (by omega) aR, k3⟩, cl.pop k2 e (fun q h1 h2 => aI.far rfl q h1 (by omega)) (fun j _ => aR 24 j rfl), fun j hj => (fr j (by omega)).kp rfl rfl rfl (aI.at1 15 (by decide) (by decide) rfl) (fun q h1 h2 => aM q j ?_), cc, w⟩
  rw [key_o (by omega) (by omega)]
  exact disW_no (C := [(143, 154)]) rfl (inW_iff.mpr ⟨(143, 154), List.mem_singleton.mpr rfl, h1, by omega⟩)
/-- what stands of the uppermost frame, both sides -/
theorem Core.tp {n O : Nat → Nat} {A : Nat → Nat → Int32} {vd : Nat → Int32} {G : Nat → Nat → Nat} {N : Nat → Nat → Int32} {nb sb : Nat} {σ : Shp} {I : Nat → Nat → Int32} {J : Nat → Nat → Int64} {R : Nat → Nat → Option Nat} {I' : Nat → Nat → Int32} {J' : Nat → Nat → Int64} {fc : Nat → Nat} {E : Nat → Nat → Nat} {V : Nat → Nat → Int32} {t st ch : Nat} (hb : PlB n O) (h : Core n O A vd G N nb sb σ I J R I' J' fc E V (t + 1) st ch) : kdx σ (fc t) = 4 ∧ 202 ≤ fc t ∧ fc t < 900000 ∧ t < 160 ∧ E t 0 ≤ 21 ∧ E t 1 < 4 ∧ E t 4 ≤ 40 ∧ E t 3 ≤ E t 4 ∧ I 5 6 = Int32.ofInt ((t + 1 : Nat) : Int) ∧ I' 114 42 = Int32.ofInt ((t + 1 : Nat) : Int) ∧ I (fc t) 0 = Int32.ofInt (E t 0 : Nat) ∧ I (fc t) 5 = V t 5 ∧ I (fc t) 6 = V t 6 ∧ I (fc t) 7 = V t 7 := by
  obtain ⟨f1, f2, f3, f4, -⟩ := h.fc (Nat.lt_succ_self t)
  have hn := h.hn
  obtain ⟨-, -, -, cl, fr, c, -⟩ := h
  obtain ⟨⟨a1, -, -, a4, -, a6, -⟩, b, -⟩ := fr t (Nat.lt_succ_self t)
  obtain ⟨⟨g0, -⟩, ⟨v5, v6, v7, -⟩, -⟩ := (cl.2.2 t (by omega)).2
  have := hb.1 _ a1
  have := cl.2.1
  refine ⟨f4, f2, by omega, by omega, ?_, a1, by omega, a4, cl.1, c.2.2.2.2.1, g0, v5, v6, v7⟩
  rcases b with b | b | b
  · omega
  · omega
  · omega
/-- the class's last act of leaving -/
theorem b169 {σ : Shp} {I : Nat → Nat → Int32} {J : Nat → Nat → Int64} {R : Nat → Nat → Option Nat} {c t o : Nat} (hk : kdx σ c = 4) (hc : 202 ≤ c) (h5 : I 5 6 = Int32.ofInt ((t + 1 : Nat) : Int)) (ho : I c 0 = Int32.ofInt (o : Nat)) (h21 : o ≤ 21) (q : o ≠ 20 ∨ I 25 0 ≠ 0) : gX7_leave_b169 σ I J R (some c) = some (u2 I 5 6 (Int32.ofInt (t : Nat)), J, R) := by
  have e : Int32.ofInt ((t + 1 : Nat) : Int) - 1 = Int32.ofInt (t : Nat) := by rw [i_subl]; congr 1; omega
  unfold gX7_leave_b169
  rw [h5, e, ob_some, if_pos hk]
  try dsimp only
  rw [u2n (by omega), ho]
  by_cases z : o = 20
  · rw [if_pos (by rw [z]; rfl), if_pos g00, c00, u2n (by omega), if_neg (q.resolve_left (fun w => w z))]
  · rw [if_neg (by rw [i_eql (by omega)]; omega)]
theorem gbN {I : Nat → Nat → Int32} {J : Nat → Nat → Int64} {t o : Nat} (ht : t < 400) (h : I 143 t = Int32.ofInt (o : Nat)) (ho : o ≤ 30 ∧ o ≠ 11 ∧ o ≠ 12 ∧ o ≠ 13) : gX12_giveBack I J (Int32.ofInt (t : Nat)) = some (I, J) := by
  have g : ¬ (Int32.ofInt (t : Int) < 0 ∨ 400 ≤ Int32.toNatClampNeg (Int32.ofInt (t : Int))) := by rw [i_gd (by omega)]; exact id
  have gp : ¬ (Int32.ofInt (t : Int) < 0 ∨ 400 ≤ t) := by rw [i_ltl (by omega)]; omega
  unfold gX12_giveBack
  rw [if_pos g, t41 (by omega), if_pos gp]
  try dsimp only
  rw [if_pos gp, h, if_neg (by rw [i_eql (by omega)]; omega), if_neg (by rw [i_eql (by omega)]; omega), if_neg (by rw [i_eql (by omega)]; omega)]
/-- what is given back, in the model -/
theorem gbM {n O : Nat → Nat} {A : Nat → Nat → Int32} {I : Nat → Nat → Int32} {J : Nat → Nat → Int64} {t o p q : Nat} (hm : PlM n O A I) (ht : t < 400) (hp : p < 4) (hq : q < 40) (h : I 143 t = Int32.ofInt (o : Nat)) (h4 : I 144 t = Int32.ofInt (p : Nat)) (h5 : I 145 t = Int32.ofInt (q : Nat)) : (∀ k : Nat, k < 3 → A 0 (40 * p + q) = Int32.ofInt (k : Nat) → o = 11 → gX12_giveBack I J (Int32.ofInt (t : Nat)) = some (u2 I 141 k (I 141 k - 1), J)) ∧ (∀ k : Nat, k < 6 → A 0 (40 * p + q) = Int32.ofInt (k : Nat) → o = 12 → gX12_giveBack I J (Int32.ofInt (t : Nat)) = gX12_changeStock I J (Int32.ofInt (k : Nat)) (J 139 k + Int32.toInt64 (A 1 (40 * p + q)))) ∧ (∀ k : Nat, k < 3 → A 0 (40 * p + q) = Int32.ofInt (k : Nat) → o = 13 → gX12_giveBack I J (Int32.ofInt (t : Nat)) = some (u2 I 140 k (A 2 (40 * p + q)), J)) := by
  have g : ¬ (Int32.ofInt (t : Int) < 0 ∨ 400 ≤ Int32.toNatClampNeg (Int32.ofInt (t : Int))) := by rw [i_gd (by omega)]; exact id
  have gp : ¬ (Int32.ofInt (t : Int) < 0 ∨ 400 ≤ t) := by rw [i_ltl (by omega)]; omega
  obtain ⟨-, y1, y2, y3⟩ := hm.2 (40 * p + q) (by omega)
  refine ⟨fun k hk ea eo => ?_, fun k hk ea eo => ?_, fun k hk ea eo => ?_⟩
  · unfold gX12_giveBack
    rw [if_pos g, t41 (by omega), if_pos gp]
    try dsimp only
    rw [if_pos gp, h, eo, if_pos (by rfl), h4, h5, iy40, if_pos (p16 (by omega)), t41 (by omega), y1, ea, if_pos (by rw [i_gd (by omega)]; exact id), t41 (by omega)]
  · unfold gX12_giveBack
    rw [if_pos g, t41 (by omega), if_pos gp]
    try dsimp only
    rw [if_pos gp, h, eo, if_neg (by decide), if_pos (by rfl), h4, h5, iy40, if_pos (p16 (by omega)), t41 (by omega), y1, ea, if_pos (by rw [i_gd (by omega)]; exact id), if_pos (p16p (by omega)), t41 (by omega), y2]
    generalize gX12_changeStock I J (Int32.ofInt (k : Nat)) (J 139 k + Int32.toInt64 (A 1 (40 * p + q))) = z
    cases z with
    | none => rfl
    | some r => rfl
  · unfold gX12_giveBack
    rw [if_pos g, t41 (by omega), if_pos gp]
    try dsimp only
    rw [if_pos gp, h, eo, if_neg (by decide), if_neg (by decide), if_pos (by rfl), h4, h5, iy40, if_pos (p16 (by omega)), t41 (by omega), if_pos (p16p (by omega)), y1, ea, if_pos (by rw [i_gd (by omega)]; exact id), t41 (by omega), y3]
/-- what the class does as a body is left, by its step -/
theorem lvC {σ : Shp} {I : Nat → Nat → Int32} {J : Nat → Nat → Int64} {R : Nat → Nat → Option Nat} {c o : Nat} (hk : kdx σ c = 4) (ho : I c 0 = Int32.ofInt (o : Nat)) (h21 : o ≤ 21) : (o = 10 → gX7_leave σ I J R (some c) = gX7_leave_b169 σ (u2 I 5 8 (I 5 8 - 1)) J R (some c)) ∧ (∀ k : Nat, k < 3 → I c 5 = Int32.ofInt (k : Nat) → o = 11 → gX7_leave σ I J R (some c) = gX7_leave_b169 σ (u2 I 20 k (I 20 k - 1)) J R (some c)) ∧ (∀ k : Nat, k < 6 → I c 5 = Int32.ofInt (k : Nat) → o = 12 → gX7_leave σ I J R (some c) = (gX8_changeStock σ I J R (Int32.ofInt (k : Nat)) (J 18 k + Int32.toInt64 (I c 6))).bind fun (I38, J39, R40) => gX7_leave_b169 σ I38 J39 R40 (some c)) ∧ (∀ k : Nat, k < 3 → I c 5 = Int32.ofInt (k : Nat) → o = 13 → gX7_leave σ I J R (some c) = gX7_leave_b169 σ (u2 I 19 k (I c 7)) J R (some c)) ∧ (o = 14 ∨ o = 21 → gX7_leave σ I J R (some c) = (gX7_undoFaulted σ I J R (some c)).bind fun (I32, J33) => gX7_leave_b169 σ I32 J33 R (some c)) ∧ (o = 15 → gX7_leave σ I J R (some c) = (gX7_goesAgain σ I J R (some c)).bind fun (I28, J29, r30) => if r30 = 0 then gX7_leave_b169 σ I28 J29 R (some c) else some (I28, J29, R)) ∧ (o = 16 → gX7_leave σ I J R (some c) = (gX7_goesOnTrying σ I R (some c)).bind fun (I25, r26) => if r26 = 0 then gX7_leave_b169 σ I25 J R (some c) else some (I25, J, R)) ∧ (o = 19 ∨ o = 20 → gX7_leave σ I J R (some c) = gX7_leave_b169 σ I J R (some c)) := by
  unfold gX7_leave
  rw [ob_some, if_pos hk, ho]
  try dsimp only
  refine ⟨fun e => ?_, fun k hk ea e => ?_, fun k hk ea e => ?_, fun k hk ea e => ?_, fun e => ?_, fun e => ?_, fun e => ?_, fun e => ?_⟩
  · rw [e, if_pos (by rfl)]
  · rw [e, if_neg (by decide), if_pos (by rfl), ea, if_pos (by rw [i_gd (by omega)]; exact id), t41 (by omega)]
  · rw [e, if_neg (by decide), if_neg (by decide), if_pos (by rfl), ea, if_pos (by rw [i_gd (by omega)]; exact id), t41 (by omega)]
  · rw [e, if_neg (by decide), if_neg (by decide), if_neg (by decide), if_pos (by rfl), ea, if_pos (by rw [i_gd (by omega)]; exact id), t41 (by omega)]
  · rcases e with e | e
    · rw [e, if_neg (by decide), if_neg (by decide), if_neg (by decide), if_neg (by decide), if_pos (by rfl)]
    · rw [e, if_neg (by decide), if_neg (by decide), if_neg (by decide), if_neg (by decide), if_neg (by decide), if_neg (by decide), if_neg (by decide), if_neg (by decide), if_neg (by decide), if_neg (by decide), if_neg (by decide), if_pos (by rfl)]
  · rw [e, if_neg (by decide), if_neg (by decide), if_neg (by decide), if_neg (by decide), if_neg (by decide), if_pos (by rfl)]
  · rw [e, if_neg (by decide), if_neg (by decide), if_neg (by decide), if_neg (by decide), if_neg (by decide), if_neg (by decide), if_pos (by rfl)]
  · rcases e with e | e
    · rw [e, if_neg (by decide), if_neg (by decide), if_neg (by decide), if_neg (by decide), if_neg (by decide), if_neg (by decide), if_neg (by decide), if_neg (by decide), if_neg (by decide), if_pos (by rfl)]
    · rw [e, if_neg (by decide), if_neg (by decide), if_neg (by decide), if_neg (by decide), if_neg (by decide), if_neg (by decide), if_neg (by decide), if_neg (by decide), if_neg (by decide), if_neg (by decide), if_pos (by rfl)]
