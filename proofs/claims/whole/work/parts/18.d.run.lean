/-! ===== a run: how it begins ===== -/
def zkp (I : Nat → Nat → Int32) : Nat → (Nat → Nat → Int32)
  | 0 => I
  | k + 1 => u2 (zkp I k) 25 k 0
theorem zkp_o {I : Nat → Nat → Int32} {a : Nat} (h : a ≠ 25) : ∀ k, zkp I k a = I a := by
  intro k
  induction k with
  | zero => rfl
  | succ k ih =>
    funext j
    show u2 (zkp I k) 25 k 0 a j = _
    rw [u2n (by omega), ih]
theorem zkp_s {I : Nat → Nat → Int32} {j : Nat} : ∀ k, j < k → zkp I k 25 j = 0 := by
  intro k
  induction k with
  | zero => intro h; omega
  | succ k ih =>
    intro h
    show u2 (zkp I k) 25 k 0 25 j = _
    by_cases e : j = k
    · rw [e, u2_self]
    · rw [u2n (by omega)]; exact ih (by omega)
theorem Ag_zkp {W : List (Nat × Nat)} {f g : Nat → Nat → Int32} (h : Ag W f g) (hw : (15, 26) ∈ W) : ∀ k, Ag W f (zkp g k) := by
  intro k
  induction k with
  | zero => exact h
  | succ k ih => exact Ag.st ih (inW_iff.mpr ⟨_, hw, by show 15 ≤ 25; omega, by show 25 < 26; omega⟩)
def rsC (I : Nat → Nat → Int32) : Nat → Nat → Int32 := zkp (u2 (u2 (u2 (u2 (u2 (u2 (u2 (u2 I 17 6 0) 5 8 0) 5 9 0) 5 10 0) 5 11 0) 5 12 0) 5 13 0) 5 6 0) 6
theorem wrC {σ : Shp} {I : Nat → Nat → Int32} {J : Nat → Nat → Int64} {R : Nat → Nat → Option Nat} {x : Int32} : gX7_wholeRun σ I J R x = (gX7_enterPlan σ (rsC I) R 21 x).bind fun (σ10, I11, R12) => gX7_wholeRun_l72 FUx σ10 I11 J R12 0 := by
  obtain ⟨F, hF⟩ : ∃ F, FUx = F + 7 := ⟨1999993, by rw [FUx_eq]⟩
  unfold gX7_wholeRun gX8_forgetChanges
  rw [ob_some]
  try dsimp only
  unfold rsC
  generalize u2 (u2 (u2 (u2 (u2 (u2 (u2 (u2 I 17 6 0) 5 8 0) 5 9 0) 5 10 0) 5 11 0) 5 12 0) 5 13 0) 5 6 0 = K
  have stp : ∀ (f k : Nat), k < 6 → gX7_wholeRun_l44 (f + 1) σ (zkp K k) J R x (Int32.ofInt (k : Nat)) = gX7_wholeRun_l44 f σ (zkp K (k + 1)) J R x (Int32.ofInt ((k + 1 : Nat) : Int)) := fun f k hk6 => by
    rw [gX7_wholeRun_l44, if_neg (by rw [i_ler (by omega)]; omega), if_pos (by rw [i_gd (by omega)]; exact id), t41 (by omega), iadd1]
    rfl
  have z := (stp (F + 6) 0 (by omega)).trans ((stp (F + 5) 1 (by omega)).trans ((stp (F + 4) 2 (by omega)).trans ((stp (F + 3) 3 (by omega)).trans ((stp (F + 2) 4 (by omega)).trans (stp (F + 1) 5 (by omega))))))
  obtain ⟨F2, hF2⟩ : ∃ F2, FUx = F2 := ⟨_, rfl⟩
  have z2 : gX7_wholeRun_l44 (F + 1) σ (zkp K (5 + 1)) J R x (Int32.ofInt ((5 + 1 : Nat) : Int)) = (gX7_enterPlan σ (zkp K 6) R 21 x).bind fun (σ10, I11, R12) => gX7_wholeRun_l72 F2 σ10 I11 J R12 0 := by
    rw [gX7_wholeRun_l44, if_pos (by decide)]
    unfold gX7_wholeRun_b70
    rw [hF2]
  rw [hF2]
  have e7 : F2 = F + 6 + 1 := by rw [← hF2, hF]
  rw [e7] at z2 ⊢
  exact z.trans z2
def rsM (I : Nat → Nat → Int32) (p : Nat) : Nat → Nat → Int32 := u2 (u2 (u2 (u2 (u2 (u2 (u2 (u2 (u2 (u2 (u2 I 114 59 0) 114 57 (Int32.ofInt (p : Nat))) 114 58 0) 114 65 0) 114 66 0) 114 67 0) 114 68 0) 114 69 0) 114 70 0) 114 54 0) 114 42 0
theorem start {n O : Nat → Nat} {A : Nat → Nat → Int32} {vd : Nat → Int32} {G : Nat → Nat → Nat} {C : Nat → Int64} {N : Nat → Nat → Int32} {nb sb : Nat} {σ : Shp} {I : Nat → Nat → Int32} {J : Nat → Nat → Int64} {R : Nat → Nat → Option Nat} {I' : Nat → Nat → Int32} {J' : Nat → Nat → Int64} {p : Nat} (hb : PlB n O) (h1 : PlC n O A I) (h2 : PlM n O A I) (h3 : PlM n O A I') (hp : p < 4) (hv : vd p = -1) (wf : PWf (op O p) (n p)) (bd : PBd (op O p) (n p) (fun q => I 15 (40 * p + q))) (hg : TSg G C N) (hc : TCl G C N σ I J R) (hm : TMo G C N I' J') (hst : ∀ k : Nat, k < 6 → J 18 k = J' 139 k) (hvv : ∀ k : Nat, k < 3 → I 19 k = I' 140 k ∧ I 20 k = I' 141 k) (htr : I 7 1 = I' 114 24 ∧ Rn (I' 114 24) 0 120 ∧ ∀ k : Nat, k < 120 → Int32.ofInt (k : Int) < I' 114 24 → I 8 k = I' 129 k) (hf : I' 114 1 = I 4 13) (hS : Skel σ R) (hG : GFrm σ R) (hnb : nxx σ + 2 ≤ nb ∧ nb ≤ 800000) (hsb : slx σ + 19 ≤ sb) : ∃ σ1 R1 fc E V I2 I2', gX7_enterPlan σ (rsC I) R 21 (Int32.ofInt (p : Nat)) = some (σ1, I2, R1) ∧ gX12_push (rsM I' p) 21 = some I2' ∧ Core n O A vd G N nb sb σ1 I2 J R1 I2' J' fc E V 1 0 0 ∧ Pc n O I2 I2' E 1 ∧ phi E 1 0 ≤ 300600 ∧ Ag WRc I I2 ∧ Ag WRc R R1 ∧ Ag WRm I' I2' := by
  have hn := hb.1 p hp
  have n1 := hS.1
  have aR : Ag [(5, 6), (15, 26)] I (rsC I) := Ag_zkp (Ag.st (Ag.st (Ag.st (Ag.st (Ag.st (Ag.st (Ag.st (Ag.st Ag.rf rfl) rfl) rfl) rfl) rfl) rfl) rfl) rfl) (by decide) 6
  have aR2 : Ag [(5, 6), (17, 18), (25, 26)] I (rsC I) := by
    intro a k ha
    by_cases z : a = 25
    · subst z; cases ha
    · unfold rsC
      rw [zkp_o z 6]
      have : Ag [(5, 6), (17, 18), (25, 26)] I (u2 (u2 (u2 (u2 (u2 (u2 (u2 (u2 I 17 6 0) 5 8 0) 5 9 0) 5 10 0) 5 11 0) 5 12 0) 5 13 0) 5 6 0) := Ag.st (Ag.st (Ag.st (Ag.st (Ag.st (Ag.st (Ag.st (Ag.st Ag.rf rfl) rfl) rfl) rfl) rfl) rfl) rfl) rfl
      exact this a k ha
  have r5 : ∀ f, f = 6 ∨ (8 ≤ f ∧ f ≤ 13) → rsC I 5 f = 0 := fun f hf => by
    unfold rsC
    rw [zkp_o (by decide) 6]
    rcases hf with rfl | hf
    · simp (disch := omega) only [u2n, u2s]
    · have : f = 8 ∨ f = 9 ∨ f = 10 ∨ f = 11 ∨ f = 12 ∨ f = 13 := by omega
      rcases this with rfl | rfl | rfl | rfl | rfl | rfl
      · simp (disch := omega) only [u2n, u2s]
      · simp (disch := omega) only [u2n, u2s]
      · simp (disch := omega) only [u2n, u2s]
      · simp (disch := omega) only [u2n, u2s]
      · simp (disch := omega) only [u2n, u2s]
      · simp (disch := omega) only [u2n, u2s]
  have r17 : rsC I 17 6 = 0 := by unfold rsC; rw [zkp_o (by decide) 6]; simp (disch := omega) only [u2n, u2s]
  have r25 : ∀ k, k < 6 → rsC I 25 k = 0 := fun k hk => zkp_s 6 hk
  have bR : Ag [(1000042, 1000043), (1000054, 1000055), (1000057, 1000071)] I' (rsM I' p) := Ag.st (Ag.st (Ag.st (Ag.st (Ag.st (Ag.st (Ag.st (Ag.st (Ag.st (Ag.st (Ag.st Ag.rf rfl) rfl) rfl) rfl) rfl) rfl) rfl) rfl) rfl) rfl) rfl
  generalize rsC I = K at *
  obtain ⟨M, eM⟩ : ∃ M, rsM I' p = M := ⟨_, rfl⟩
  have mf : ∀ f, f = 42 ∨ f = 54 ∨ f = 58 ∨ f = 59 ∨ (65 ≤ f ∧ f ≤ 70) → M 114 f = 0 := fun f hf => by
    rw [← eM]
    unfold rsM
    have : f = 42 ∨ f = 54 ∨ f = 58 ∨ f = 59 ∨ f = 65 ∨ f = 66 ∨ f = 67 ∨ f = 68 ∨ f = 69 ∨ f = 70 := by omega
    rcases this with rfl | rfl | rfl | rfl | rfl | rfl | rfl | rfl | rfl | rfl
    · simp (disch := omega) only [u2n, u2s]
    · simp (disch := omega) only [u2n, u2s]
    · simp (disch := omega) only [u2n, u2s]
    · simp (disch := omega) only [u2n, u2s]
    · simp (disch := omega) only [u2n, u2s]
    · simp (disch := omega) only [u2n, u2s]
    · simp (disch := omega) only [u2n, u2s]
    · simp (disch := omega) only [u2n, u2s]
    · simp (disch := omega) only [u2n, u2s]
    · simp (disch := omega) only [u2n, u2s]
  have m57 : M 114 57 = Int32.ofInt (p : Nat) := by rw [← eM]; unfold rsM; simp (disch := omega) only [u2n, u2s]
  rw [eM] at bR ⊢
  obtain ⟨σ1, R1, c, e0, e1, e2, e3, e4, e5, e6⟩ := newT (I := K) (d := 0) (ch := 0) hS hG (by rw [r5 6 (Or.inl rfl)]; rfl) (by omega) (by rw [r17]; rfl)
  have cg := e3.1 0 c (by omega) e1
  have sz : nxx σ1 ≤ nxx σ + 2 ∧ slx σ1 ≤ slx σ + 19 ∧ nxx σ ≤ nxx σ1 := by
    rcases e6 with ⟨rfl, -⟩ | ⟨rfl, -, -⟩
    · omega
    · rw [q_nA, q_nO, q_sA, q_sO]; omega
  have c1 : 202 ≤ c ∧ c < 1000000 := ⟨cg.1, by omega⟩
  obtain ⟨I2, eI⟩ : ∃ I2, u2 (u2 (u2 (u2 (u2 (nT K c 0 0) c 0 21) c 1 (Int32.ofInt (p : Nat))) c 2 0) c 3 0) c 4 (Int32.ofInt (n p : Nat)) = I2 := ⟨_, rfl⟩
  have hI : ∀ k, inW [(5, 6), (202, 1000000)] (key c k) = true := fun k => inF c1.1 c1.2 (by decide)
  have aI : Ag [(5, 6), (202, 1000000)] K I2 := by
    rw [← eI]
    exact Ag.st (Ag.st (Ag.st (Ag.st (Ag.st (Ag.st (Ag.st (Ag.st (Ag.st (Ag.st Ag.rf rfl) (hI _)) (hI _)) (hI _)) (hI _)) (hI _)) (hI _)) (hI _)) (hI _)) (hI _)
  have ao : ∀ q, 202 ≤ q → q ≠ c → I2 q = K q := fun q h1 h2 => by
    funext k
    rw [← eI]
    unfold nT
    simp (disch := omega) only [u2n, u2s]
  have i5 : ∀ f, f ≠ 6 → I2 5 f = K 5 f := fun f hf => by rw [← eI]; unfold nT; simp (disch := omega) only [u2n, u2s]
  have pu := puI (I := M) (t := 0) (ch := 0) (o := 21) (by rw [mf 42 (by omega)]; rfl) (by omega) (by rw [mf 54 (by omega)]; rfl)
  obtain ⟨I2', eI'⟩ : ∃ I2', puM M 0 21 0 = I2' := ⟨_, rfl⟩
  rw [eI'] at pu
  have bI : Ag [(143, 148), (1000042, 1000043)] M I2' := by rw [← eI']; exact Ag.st (Ag.st (Ag.st (Ag.st (Ag.st (Ag.st Ag.rf rfl) rfl) rfl) rfl) rfl) rfl
  have aT : Ag [(5, 6), (17, 18), (25, 26), (202, 1000000)] I I2 := (aR2.mv rfl).tr (aI.mv rfl)
  have bT : Ag [(143, 148), (1000042, 1000043), (1000054, 1000055), (1000057, 1000071)] I' I2' := (bR.mv rfl).tr (bI.mv rfl)
  have S0 : Sto G N σ K J R M J' 0 := ⟨C, hg, hc.ag ⟨n1, by omega⟩ aR2 Ag.rf Ag.rf rfl, hm.kp (bR.kp rfl) Kp.rf, hst, by rw [r17]; rfl, by rw [mf 54 (by omega)]; rfl, by omega, fun k hk => by omega⟩
  have w25 : I2 25 0 = 0 := by rw [aI 25 0 rfl]; exact r25 0 (by omega)
  refine ⟨σ1, R1, fun _ => c, fun _ f => [21, p, 0, 0, n p, 0, 0, 0, 0, 0, 0, 0, 0, 0, 0, 0, 0].getD f 0, fun _ f => if 20 ≤ f then I2 (c + 1) (f - 20) else I2 c f, I2, I2', ?_, pu, ⟨⟨h1.kp (aT.kp rfl), h2.kp (aT.kp rfl), h3.kp (bT.kp rfl)⟩, ?_, ⟨e4, e3, by omega, by omega, hnb.2⟩, ⟨?_, by omega, fun j hj => ?_⟩, fun j hj => ?_, ?_, ?_⟩, ?_, ?_, aT.mv rfl, ?_, bT.mv rfl⟩
  · unfold gX7_enterPlan
    rw [e0, ob_some]
    try dsimp only
    unfold gX7_enterPlan_b4
    rw [onl_s, if_pos e2]
    try dsimp only
    unfold gX6_lengthOf
    rw [if_pos (p40 hp), t41 (by omega)]
    have q : u2 (u2 (u2 (u2 (nT K c 0 0) c 0 21) c 1 (Int32.ofInt (p : Nat))) c 2 0) c 3 0 10 p = Int32.ofInt (n p : Nat) := by
      unfold nT
      simp (disch := omega) only [u2n, u2s]
      rw [aR2 10 p rfl]
      exact h1.1 p hp
    rw [q, ob_some, eI]
  · exact ((S0.mk (d := 0) ⟨n1, by omega⟩ e6).kpC ⟨by omega, by omega⟩ (aI 4 12 rfl) (fun q h1 h2 h3 => ao q h1 (fun e => by rw [e, e2] at h3; omega)) (aI 17 6 rfl) (aI.at1 22 (by decide) (by decide) rfl)).kpM (bI.kp rfl)
  · rw [← eI]; unfold nT; simp (disch := omega) only [u2n, u2s]
  · obtain rfl : j = 0 := by omega
    refine ⟨e1, ?_, ⟨rfl, rfl, rfl, rfl, rfl⟩, fun k hk => ?_⟩
    · show I2 c 0 = Int32.ofInt ((21 : Nat) : Int) ∧ I2 c 1 = Int32.ofInt (p : Nat) ∧ I2 c 2 = Int32.ofInt ((0 : Nat) : Int) ∧ I2 c 3 = Int32.ofInt ((0 : Nat) : Int) ∧ I2 c 4 = Int32.ofInt (n p : Nat) ∧ I2 c 8 = Int32.ofInt ((0 : Nat) : Int) ∧ I2 c 10 = Int32.ofInt ((0 : Nat) : Int)
      rw [← eI]
      unfold nT
      refine ⟨?_, ?_, ?_, ?_, ?_, ?_, ?_⟩
      · simp (disch := omega) only [u2n, u2s]; rfl
      · simp (disch := omega) only [u2n, u2s]
      · simp (disch := omega) only [u2n, u2s]; rfl
      · simp (disch := omega) only [u2n, u2s]; rfl
      · simp (disch := omega) only [u2n, u2s]
      · simp (disch := omega) only [u2n, u2s]; rfl
      · simp (disch := omega) only [u2n, u2s]
    · show I2 (c + 1) k = if 20 ≤ 20 + k then I2 (c + 1) (20 + k - 20) else _
      rw [if_pos (by omega), Nat.add_sub_cancel_left]
  · obtain rfl : j = 0 := by omega
    refine ⟨?_, Or.inl ⟨rfl, rfl, rfl, rfl, rfl⟩, ?_, hv, wf, ?_⟩
    · show p < 4 ∧ Bd (op O p) 0 (n p) ∧ 0 ≤ 0 ∧ 0 ≤ n p ∧ dq (op O p) 0 0 = 1 ∧ n p ≤ n p ∧ (0 = 0 → n p = n p) ∧ 2 * 0 + (n p + 1) ≤ 41 + 0 ∧ 0 ≤ 21 * 0 + 0 ∧ 0 ≤ 6 ∧ 0 ≤ 640 ∧ 0 ≤ 2
      exact ⟨hp, wf.bd, by omega, by omega, rfl, by omega, fun _ => rfl, by omega, by omega, by omega, by omega, by omega⟩
    · show I2' 143 0 = Int32.ofInt ((if (21 : Nat) = 16 then 16 + 0 else 21 : Nat) : Int) ∧ I2' 144 0 = Int32.ofInt ((if (21 : Nat) = 10 then p else p : Nat) : Int) ∧ I2' 145 0 = Int32.ofInt ((if (21 : Nat) = 10 then 0 - 1 else 0 : Nat) : Int) ∧ _
      refine ⟨?_, ?_, ?_, fun q => ?_, fun q => ?_, fun q => ?_, fun q => ?_⟩
      · rw [if_neg (by decide), ← eI']; unfold puM; simp (disch := omega) only [u2n, u2s]; rfl
      · rw [if_neg (by decide), ← eI']; unfold puM; simp (disch := omega) only [u2n, u2s]; exact m57
      · rw [if_neg (by decide), ← eI']; unfold puM; simp (disch := omega) only [u2n, u2s]; rw [mf 58 (by omega)]; rfl
      · exact absurd (show (21 : Nat) = 14 ∨ (21 : Nat) = 15 from q) (by decide)
      · exact absurd (show (21 : Nat) = 15 from q) (by decide)
      · exact absurd (show (21 : Nat) = 16 from q) (by decide)
      · exact absurd (show (21 : Nat) = 16 from q) (by decide)
    · show PBd (op O p) (n p) (fun q => I2 15 (40 * p + q))
      rw [aT.at1 15 (by decide) (by decide) rfl]
      exact bd
  · have m5 : ∀ f, f ≠ 42 → I2' 114 f = M 114 f := fun f hf => by rw [← eI']; unfold puM; simp (disch := omega) only [u2n, u2s]
    unfold Cnt
    rw [i5 9 (by decide), i5 8 (by decide), i5 10 (by decide), i5 11 (by decide), i5 12 (by decide), i5 13 (by decide), r5 9 (by omega), r5 8 (by omega), r5 10 (by omega), r5 11 (by omega), r5 12 (by omega), r5 13 (by omega), m5 65 (by decide), m5 66 (by decide), m5 67 (by decide), m5 68 (by decide), m5 69 (by decide), m5 70 (by decide), mf 65 (by omega), mf 66 (by omega), mf 67 (by omega), mf 68 (by omega), mf 69 (by omega), mf 70 (by omega), bT 114 1 rfl, bT 114 24 rfl, aT 4 13 rfl, aT 7 1 rfl]
    refine ⟨⟨rfl, rfl, by omega⟩, fun q hq => ?_, ⟨rfl, rfl, rfl, rfl, by rw [hf, Int32.add_zero]⟩, fun k hk => by rw [aT 19 k rfl, aT 20 k rfl, bT 140 k rfl, bT 141 k rfl]; exact hvv k hk, by rw [← eI']; unfold puM; simp (disch := omega) only [u2n, u2s], htr.1, htr.2.1, fun k hk => by rw [aT 8 k rfl, bT 129 k rfl]; exact htr.2.2 k hk⟩
    obtain rfl : q = 0 := by omega
    exact ⟨rfl, rfl, by show 0 + 0 ≤ 2 * 0; omega⟩
  · unfold Wy WyR
    have w59 : I2' 114 59 = 0 := by rw [bI 114 59 rfl]; exact mf 59 (by omega)
    rw [w25, w59]
    exact ⟨rfl, Or.inl rfl, fun q => absurd q (by decide), fun q => absurd q (by decide), fun q => absurd q (by decide)⟩
  · intro q hq _
    obtain rfl : q = 0 := by omega
    refine ⟨by rw [bI 114 57 rfl]; exact m57, 0, 0, by rw [bI 114 58 rfl, mf 58 (by omega)]; rfl, rfl, Nat.zero_le _, wf.ok (Nat.zero_le _) (Or.inl rfl)⟩
  · show 1000 * (300 - 0) + 300 * 1 + (if (1 : Nat) = 0 then 0 else (2 - 0) * 100 + (40 - 0)) ≤ 300600
    decide
  · rcases e6 with ⟨-, rfl⟩ | ⟨-, rfl, -⟩
    · exact Ag.rf
    · exact Ag.st (Ag.st Ag.rf (inF c1.1 c1.2 (by decide))) rfl
