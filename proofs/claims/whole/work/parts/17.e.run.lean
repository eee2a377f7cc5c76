/-! ===== a run: the relation of both machines ===== -/
theorem wrong_irr {σ σ' : Shp} {R R' : Nat → Nat → Option Nat} : ∀ (f : Nat) (I : Nat → Nat → Int32) (p d fl k : Int32), gX12_wrong_l7 σ R f I p d fl k = gX12_wrong_l7 σ' R' f I p d fl k := by
  intro f
  induction f with
  | zero => intros; rfl
  | succ f ih =>
    intro I p d fl k
    have e : gX12_wrong_l7 σ R f = gX12_wrong_l7 σ' R' f := by
      funext I p d fl k
      exact ih I p d fl k
    rw [gX12_wrong_l7, gX12_wrong_l7, e]
    rfl
theorem wrong_ir2 {σ σ' : Shp} {R R' : Nat → Nat → Option Nat} {I : Nat → Nat → Int32} {p : Int32} : gX12_wrong σ I R p = gX12_wrong σ' I R' p := by
  unfold gX12_wrong
  obtain ⟨F, hF⟩ : ∃ F, FUx = F := ⟨_, rfl⟩
  rw [hF]
  exact wrong_irr F _ _ _ _ _
/-- what both scans tell of a plan -/
def Vd (n O : Nat → Nat) (A : Nat → Nat → Int32) (p : Nat) (v : Int32) : Prop := (∀ (σ : Shp) (R : Nat → Nat → Option Nat) (I : Nat → Nat → Int32), PlC n O A I → PlM n O A I → ∃ I1, gX6_firstWrong σ I R (Int32.ofInt p) = some (I1, v) ∧ Ag [(15, 17)] I I1 ∧ (v = -1 → PWf (op O p) (n p) ∧ PBd (op O p) (n p) (fun q => I1 15 (40 * p + q))) ∧ ∀ k, (k < 40 * p ∨ 40 * p + 40 ≤ k) → I1 15 k = I 15 k) ∧ (∀ (σ : Shp) (R : Nat → Nat → Option Nat) (I : Nat → Nat → Int32), PlM n O A I → ∃ I2, gX12_wrong σ I R (Int32.ofInt p) = some (I2, v) ∧ Ag [(142, 143)] I I2)
theorem PlC.g {n O : Nat → Nat} {A : Nat → Nat → Int32} {I : Nat → Nat → Int32} (h : PlC n O A I) (h' : PlM n O A I) (hb : PlB n O) : GPlan I := by
  refine ⟨fun p hp => by rw [h.1 p hp, h'.1 p hp], fun p hp => ⟨(n p : Int), by omega, by have := hb.1 p hp; omega, h'.1 p hp⟩, fun k hk => by rw [(h.2 k hk).1, (h'.2 k hk).1], fun k hk => ⟨(O k : Int), by omega, by have := hb.2 k hk; omega, (h'.2 k hk).1⟩, fun k hk => by rw [(h.2 k hk).2.1, (h'.2 k hk).2.1], fun k hk => by rw [(h.2 k hk).2.2.1, (h'.2 k hk).2.2.1], fun k hk => by rw [(h.2 k hk).2.2.2, (h'.2 k hk).2.2.2]⟩
theorem Vd.ex {n O : Nat → Nat} {A : Nat → Nat → Int32} {I : Nat → Nat → Int32} (h : PlC n O A I) (h' : PlM n O A I) (hb : PlB n O) {p : Nat} (hp : p < 4) : ∃ v, Vd n O A p v := by
  have ok : ∀ I, PlM n O A I → pOk I p (op O p) := fun I q k hk => ⟨(q.2 _ (by omega)).1, hb.2 _ (by omega)⟩
  have z0 : Shp := ((0, 0), fun _ => 0, fun _ => 0)
  obtain ⟨I1, v, -, -, a3, -⟩ := fwCM (σ := z0) (R := fun _ _ => none) (h.g h' hb) hp (hb.1 p hp) (h'.1 p hp) (ok I h')
  have m : ∀ (σ : Shp) (R : Nat → Nat → Option Nat) (J : Nat → Nat → Int32), PlM n O A J → ∃ I2, gX12_wrong σ J R (Int32.ofInt p) = some (I2, v) ∧ Ag [(142, 143)] J I2 := fun σ R J hJ => by
    obtain ⟨I2, b1, b2⟩ := a3 J (by rw [hJ.1 p hp, h'.1 p hp]) (fun k hk => by rw [(hJ.2 _ (by omega)).1, (h'.2 _ (by omega)).1])
    exact ⟨I2, by rw [wrong_ir2 (σ := σ) (σ' := z0) (R := R) (R' := fun _ _ => none)]; exact b1, b2⟩
  refine ⟨v, fun σ R J c1 c2 => ?_, m⟩
  obtain ⟨I1, w, d1, d2, d3, d4, d5⟩ := fwCM (σ := σ) (R := R) (c1.g c2 hb) hp (hb.1 p hp) (c2.1 p hp) (ok J c2)
  obtain ⟨I2, e1, -⟩ := d3 J rfl (fun _ _ => rfl)
  obtain ⟨I3, f1, -⟩ := m σ R J c2
  rw [e1] at f1
  have : w = v := by cases f1; rfl
  subst this
  exact ⟨I1, d1, d2, d4, d5⟩
/-- a way out, both sides -/
def WyR (a b c d e f a' b' c' d' e' f' : Int32) : Prop := a' = a ∧ (a = 0 ∨ a = 1 ∨ a = 2 ∨ a = 3) ∧ (a = 1 → b = b' ∧ c = c' ∧ d = d' ∧ e = e') ∧ (a = 2 → f = f') ∧ (a = 1 → b ≠ 0)
def Wy (I I' : Nat → Nat → Int32) : Prop := WyR (I 25 0) (I 25 1) (I 25 2) (I 25 3) (I 25 4) (I 25 5) (I' 114 59) (I' 114 60) (I' 114 61) (I' 114 62) (I' 114 63) (I' 114 64)
/-- frame j: how it lies in its plan -/
def RSa (n O : Nat → Nat) (E : Nat → Nat → Nat) (j : Nat) : Prop := E j 1 < 4 ∧ Bd (op O (E j 1)) (E j 16) (E j 4) ∧ E j 16 ≤ E j 3 ∧ E j 3 ≤ E j 4 ∧ dq (op O (E j 1)) (E j 16) (E j 3) = 1 ∧ E j 4 ≤ n (E j 1) ∧ (E j 16 = 0 → E j 4 = n (E j 1)) ∧ 2 * E j 13 + (E j 4 + 1) ≤ 41 + E j 16 ∧ j ≤ 21 * E j 14 + E j 13 ∧ E j 14 ≤ 6 ∧ E j 10 ≤ 640 ∧ E j 8 ≤ 2
/-- frame j: what it is -/
def RSb (O : Nat → Nat) (A : Nat → Nat → Int32) (E : Nat → Nat → Nat) (V : Nat → Nat → Int32) (j : Nat) : Prop :=
  (E j 0 = 21 ∧ j = 0 ∧ E j 16 = 0 ∧ E j 10 = 0 ∧ E j 15 = 0) ∨ (E j 0 = 10 ∧ 1 ≤ j ∧ E j 16 = 0 ∧ E j 14 = E (j - 1) 14 + 1 ∧ E j 15 = E (j - 1) 15 ∧ 1 ≤ E (j - 1) 3 ∧ op O (E (j - 1) 1) (E (j - 1) 3 - 1) = 10) ∨
  ((11 ≤ E j 0 ∧ E j 0 ≤ 20 ∧ E j 0 ≠ 17 ∧ E j 0 ≠ 18) ∧ 1 ≤ j ∧ E j 16 = E j 12 + 1 ∧ E j 1 = E (j - 1) 1 ∧ op O (E j 1) (E j 2) = E j 0 ∧ 1 ≤ E (j - 1) 3 ∧ Mt (op O (E j 1)) (E j 2) (E (j - 1) 3 - 1) ∧ Mt (op O (E j 1)) (E j 12) (E j 4) ∧ E j 14 = E (j - 1) 14 ∧ E j 15 = E (j - 1) 15 + (if E j 0 = 12 then 1 else 0) ∧
    (V j 5 = A 0 (40 * E j 1 + E j 2) ∧ V j 6 = A 1 (40 * E j 1 + E j 2) ∧ V j 7 = A 2 (40 * E j 1 + E j 2) ∧ (E j 0 = 11 ∨ E j 0 = 13 → Rn (V j 5) 0 2) ∧ (E j 0 = 12 → Rn (V j 5) 0 5)) ∧
    (E j 0 ≠ 16 → E j 12 = E j 2) ∧ (E j 0 = 16 → (E j 8 = 0 ∧ E j 12 = E j 2) ∨ (E j 8 = 1 ∧ op O (E j 1) (E j 12) = 17 ∧ ∃ m, Ch (op O (E j 1)) 0 m (E (j - 1) 3) (E j 12)) ∨ (E j 8 = 2 ∧ op O (E j 1) (E j 12) = 18 ∧ ∃ m, Ch (op O (E j 1)) 0 m (E (j - 1) 3) (E j 12))) ∧ E (j - 1) 16 ≤ E j 2 ∧ E j 13 = E (j - 1) 13 + 1)
/-- frame j in the model -/
def RMo (I' : Nat → Nat → Int32) (E : Nat → Nat → Nat) (V : Nat → Nat → Int32) (j : Nat) : Prop :=
  I' 143 j = Int32.ofInt ((if E j 0 = 16 then 16 + E j 8 else E j 0 : Nat) : Int) ∧ I' 144 j = Int32.ofInt ((if E j 0 = 10 then E (j - 1) 1 else E j 1 : Nat) : Int) ∧ I' 145 j = Int32.ofInt ((if E j 0 = 10 then E (j - 1) 3 - 1 else E j 12 : Nat) : Int) ∧ (E j 0 = 14 ∨ E j 0 = 15 → I' 146 j = Int32.ofInt (E j 10 : Nat)) ∧ (E j 0 = 15 → I' 147 j = V j 9) ∧ (E j 0 = 16 → E j 8 = 1 → I' 149 j = V j 11) ∧ (E j 0 = 16 → E j 8 = 2 → V j 20 ≠ 3 ∧ WyR (V j 20) (V j 21) (V j 22) (V j 23) (V j 24) (V j 25) (I' 148 j) (I' 149 j) (I' 150 j) (I' 151 j) (I' 152 j) (I' 153 j))
/-- frame j: its plan is well formed -/
def RPf (n O : Nat → Nat) (vd : Nat → Int32) (I : Nat → Nat → Int32) (E : Nat → Nat → Nat) (j : Nat) : Prop := vd (E j 1) = -1 ∧ PWf (op O (E j 1)) (n (E j 1)) ∧ PBd (op O (E j 1)) (n (E j 1)) (fun q => I 15 (40 * E j 1 + q))
def Frm (n O : Nat → Nat) (A : Nat → Nat → Int32) (vd : Nat → Int32) (I I' : Nat → Nat → Int32) (E : Nat → Nat → Nat) (V : Nat → Nat → Int32) (j : Nat) : Prop := RSa n O E j ∧ RSb O A E V j ∧ RMo I' E V j ∧ RPf n O vd I E j
theorem Frm.kp {n O : Nat → Nat} {A : Nat → Nat → Int32} {vd : Nat → Int32} {I I1 I' I1' : Nat → Nat → Int32} {E E1 : Nat → Nat → Nat} {V V1 : Nat → Nat → Int32} {j : Nat} (h : Frm n O A vd I I' E V j) (e1 : E1 j = E j) (e2 : E1 (j - 1) = E (j - 1)) (e3 : V1 j = V j) (e4 : I1 15 = I 15) (e5 : ∀ a, 143 ≤ a → a ≤ 153 → I1' a j = I' a j) : Frm n O A vd I1 I1' E1 V1 j := by
  unfold Frm RSa RSb RMo RPf at h ⊢
  rw [e1, e2, e3, e4, e5 143 (by omega) (by omega), e5 144 (by omega) (by omega), e5 145 (by omega) (by omega), e5 146 (by omega) (by omega), e5 147 (by omega) (by omega), e5 148 (by omega) (by omega), e5 149 (by omega) (by omega), e5 150 (by omega) (by omega), e5 151 (by omega) (by omega), e5 152 (by omega) (by omega), e5 153 (by omega) (by omega)]
  exact h
/-- counters, stores and the trace -/
def Cnt (I I' : Nat → Nat → Int32) (E : Nat → Nat → Nat) (d st ch : Nat) : Prop :=
  (I 5 9 = Int32.ofInt (st : Nat) ∧ I' 114 65 = Int32.ofInt (st : Nat) ∧ st ≤ 300) ∧ (∀ t, d = t + 1 → I 5 8 = Int32.ofInt (E t 14 : Nat) ∧ I' 114 66 = Int32.ofInt (E t 14 : Nat) ∧ ch + E t 15 ≤ 2 * st) ∧ (I 5 10 = I' 114 67 ∧ I 5 11 = I' 114 68 ∧ I 5 12 = I' 114 69 ∧ I 5 13 = I' 114 70 ∧ I' 114 1 = I 4 13 + I 5 13) ∧ (∀ k : Nat, k < 3 → I 19 k = I' 140 k ∧ I 20 k = I' 141 k) ∧ I' 114 42 = Int32.ofInt (d : Nat) ∧ (I 7 1 = I' 114 24 ∧ Rn (I' 114 24) 0 120 ∧ ∀ k : Nat, k < 120 → Int32.ofInt (k : Int) < I' 114 24 → I 8 k = I' 129 k)
/-- where the model stands, if a run goes on -/
def Pc (n O : Nat → Nat) (I I' : Nat → Nat → Int32) (E : Nat → Nat → Nat) (d : Nat) : Prop := ∀ t, d = t + 1 → I 25 0 = 0 → I' 114 57 = Int32.ofInt (E t 1 : Nat) ∧ ∃ pc m, I' 114 58 = Int32.ofInt (pc : Nat) ∧ Ch (op O (E t 1)) 1 m (E t 3) pc ∧ pc ≤ n (E t 1) ∧ (pc = n (E t 1) ∨ (op O (E t 1) pc ≠ 17 ∧ op O (E t 1) pc ≠ 18))
def Core (n O : Nat → Nat) (A : Nat → Nat → Int32) (vd : Nat → Int32) (G : Nat → Nat → Nat) (N : Nat → Nat → Int32) (nb sb : Nat) (σ : Shp) (I : Nat → Nat → Int32) (J : Nat → Nat → Int64) (R : Nat → Nat → Option Nat) (I' : Nat → Nat → Int32) (J' : Nat → Nat → Int64) (fc : Nat → Nat) (E : Nat → Nat → Nat) (V : Nat → Nat → Int32) (d st ch : Nat) : Prop :=
  (PlC n O A I ∧ PlM n O A I ∧ PlM n O A I') ∧ Sto G N σ I J R I' J' ch ∧ (Skel σ R ∧ GFrm σ R ∧ nxx σ ≤ nb + 2 * st ∧ slx σ ≤ sb + 19 * st ∧ nb ≤ 800000) ∧ ClS I R fc E V d ∧ (∀ j, j < d → Frm n O A vd I I' E V j) ∧ Cnt I I' E d st ch ∧ Wy I I'
def WRc : List (Nat × Nat) := [(5, 6), (7, 9), (15, 26), (202, 1000000)]
def WRm : List (Nat × Nat) := [(119, 120), (129, 133), (139, 156), (1000001, 1000002), (1000024, 1000025), (1000029, 1000031), (1000042, 1000043), (1000054, 1000055), (1000057, 1000071)]
def phi (E : Nat → Nat → Nat) (d st : Nat) : Nat := 1000 * (300 - st) + 300 * d + (if d = 0 then 0 else (2 - E (d - 1) 8) * 100 + (40 - E (d - 1) 3))
/-- a step that may not follow -/
theorem PWf.nb {O : Nat → Nat} {n k : Nat} (h : PWf O n) (hk : k < n) (c : O k = 17 ∨ O k = 18) : 1 ≤ k ∧ O (k - 1) = 0 ∧ ∀ r, Mt O r (k - 1) → O r = 16 ∨ O r = 17 := by
  obtain ⟨h1, r, h2, h3⟩ := h.1 k hk c
  refine ⟨h1, h2.2.1, fun q hq => ?_⟩
  rw [hq.uo h2]
  exact h3
/-- nothing but a step behind a TRY's or a CATCH's body is a CATCH or a LAST -/
theorem PWf.ok {O : Nat → Nat} {n k : Nat} (h : PWf O n) (hk : k ≤ n) (c : k = 0 ∨ O (k - 1) ≠ 0 ∨ ∃ r, Mt O r (k - 1) ∧ O r ≠ 16 ∧ O r ≠ 17) : k = n ∨ (O k ≠ 17 ∧ O k ≠ 18) := by
  by_cases e : k = n
  · exact Or.inl e
  · refine Or.inr ?_
    have z : ¬ (O k = 17 ∨ O k = 18) := fun q => by
      obtain ⟨a1, a2, a3⟩ := h.nb (by omega) q
      rcases c with c | c | ⟨r, c1, c2, c3⟩
      · omega
      · exact c a2
      · rcases a3 r c1 with z | z
        · exact c2 z
        · exact c3 z
    omega
/-! the machines' heads -/
theorem g00 : ¬ ((0 : Int32) < 0 ∨ 6 ≤ Int32.toNatClampNeg (0 : Int32)) := by decide
theorem g01 : ¬ ((1 : Int32) < 0 ∨ 6 ≤ Int32.toNatClampNeg (1 : Int32)) := by decide
theorem g02 : ¬ ((2 : Int32) < 0 ∨ 6 ≤ Int32.toNatClampNeg (2 : Int32)) := by decide
theorem g03 : ¬ ((3 : Int32) < 0 ∨ 6 ≤ Int32.toNatClampNeg (3 : Int32)) := by decide
theorem g04 : ¬ ((4 : Int32) < 0 ∨ 6 ≤ Int32.toNatClampNeg (4 : Int32)) := by decide
theorem g05 : ¬ ((5 : Int32) < 0 ∨ 6 ≤ Int32.toNatClampNeg (5 : Int32)) := by decide
theorem c00 : Int32.toNatClampNeg (0 : Int32) = 0 := by decide
theorem c01 : Int32.toNatClampNeg (1 : Int32) = 1 := by decide
theorem c02 : Int32.toNatClampNeg (2 : Int32) = 2 := by decide
theorem c03 : Int32.toNatClampNeg (3 : Int32) = 3 := by decide
theorem c04 : Int32.toNatClampNeg (4 : Int32) = 4 := by decide
theorem c05 : Int32.toNatClampNeg (5 : Int32) = 5 := by decide
theorem topC {I : Nat → Nat → Int32} {R : Nat → Nat → Option Nat} {fc : Nat → Nat} {E : Nat → Nat → Nat} {V : Nat → Nat → Int32} {t : Nat} (h : ClS I R fc E V (t + 1)) : gX7_top I R = some (some (fc t)) := by
  have := h.2.1
  have e : Int32.ofInt ((t + 1 : Nat) : Int) - 1 = Int32.ofInt (t : Int) := by rw [i_subl]; congr 1; omega
  unfold gX7_top
  rw [h.1, if_neg (by rw [i_lel (by omega)]; omega), if_neg (by rw [i_ltr (by omega)]; omega), e, if_pos (by rw [i_gd (by omega)]; exact id), t41 (by omega), (h.2.2 t (by omega)).1]
/-- a body is left -/
theorem hdL {σ : Shp} {I : Nat → Nat → Int32} {J : Nat → Nat → Int64} {R : Nat → Nat → Option Nat} {fc : Nat → Nat} {E : Nat → Nat → Nat} {V : Nat → Nat → Int32} {t x f : Nat} {I1 : Nat → Nat → Int32} {J1 : Nat → Nat → Int64} {R1 : Nat → Nat → Option Nat} (h : ClS I R fc E V (t + 1)) (hk : kdx σ (fc t) = 4) (hx : x < 1000000) (hb : E t 3 ≤ 1000 ∧ E t 4 ≤ 1000) (c : I 25 0 ≠ 0 ∨ E t 4 ≤ E t 3) (e : gX7_leave σ I J R (some (fc t)) = some (I1, J1, R1)) : gX7_wholeRun_l72 (f + 1) σ I J R (Int32.ofInt (x : Int)) = gX7_wholeRun_l72 f σ I1 J1 R1 (Int32.ofInt ((x + 1 : Nat) : Int)) := by
  have := h.2.1
  have fr := (h.2.2 t (by omega)).2.1
  rw [gX7_wholeRun_l72, if_neg (by rw [i_ler (by omega)]; omega), h.1, if_neg (by rw [i_lel (by omega)]; omega), topC h, ob_some, onl_s, if_pos g00, c00]
  by_cases w : I 25 0 = 0
  · rw [if_pos w, if_pos hk, fr.2.2.2.1, fr.2.2.2.2.1, if_neg (by rw [i_lt (by omega) (by omega)]; rcases c with c | c; exact absurd w c; omega), e, ob_some]
    unfold gX7_wholeRun_b176
    try dsimp only
    rw [iadd1]
  · rw [if_neg w, e, ob_some]
    unfold gX7_wholeRun_b176
    try dsimp only
    rw [iadd1]
/-- a step is passed over, or is one too many -/
theorem hdN {σ : Shp} {I : Nat → Nat → Int32} {J : Nat → Nat → Int64} {R : Nat → Nat → Option Nat} {fc : Nat → Nat} {E : Nat → Nat → Nat} {V : Nat → Nat → Int32} {t x f : Nat} {I1 : Nat → Nat → Int32} (h : ClS I R fc E V (t + 1)) (hk : kdx σ (fc t) = 4) (hx : x < 1000000) (hb : E t 3 < E t 4 ∧ E t 4 ≤ 1000) (w : I 25 0 = 0) (e : gX7_stepBegins σ I R (some (fc t)) = some (I1, 0)) : gX7_wholeRun_l72 (f + 1) σ I J R (Int32.ofInt (x : Int)) = gX7_wholeRun_l72 f σ I1 J R (Int32.ofInt ((x + 1 : Nat) : Int)) := by
  have := h.2.1
  have fr := (h.2.2 t (by omega)).2.1
  rw [gX7_wholeRun_l72, if_neg (by rw [i_ler (by omega)]; omega), h.1, if_neg (by rw [i_lel (by omega)]; omega), topC h, ob_some, onl_s, if_pos g00, c00, if_pos w, if_pos hk, fr.2.2.2.1, fr.2.2.2.2.1, if_pos (by rw [i_lt (by omega) (by omega)]; omega), e, ob_some]
  try dsimp only
  rw [if_pos rfl]
  unfold gX7_wholeRun_b176
  try dsimp only
  rw [iadd1]
/-- a step begins -/
theorem hdS {σ σ1 : Shp} {I : Nat → Nat → Int32} {J : Nat → Nat → Int64} {R : Nat → Nat → Option Nat} {fc : Nat → Nat} {E : Nat → Nat → Nat} {V : Nat → Nat → Int32} {t x f : Nat} {I1 I2 : Nat → Nat → Int32} {J2 : Nat → Nat → Int64} {R2 : Nat → Nat → Option Nat} {o a : Int32} (h : ClS I R fc E V (t + 1)) (hk : kdx σ (fc t) = 4) (hx : x < 1000000) (hb : E t 3 < E t 4 ∧ E t 4 ≤ 1000) (w : I 25 0 = 0) (e : gX7_stepBegins σ I R (some (fc t)) = some (I1, 1)) (e1 : gX6_opAt I1 (I1 (fc t) 1) (I1 5 7) = some o) (e2 : gX6_aAt I1 (I1 (fc t) 1) (I1 5 7) = some a) (e3 : gX7_perform σ I1 J R (I1 (fc t) 1) o a = some (σ1, I2, J2, R2)) : gX7_wholeRun_l72 (f + 1) σ I J R (Int32.ofInt (x : Int)) = gX7_wholeRun_l72 f σ1 I2 J2 R2 (Int32.ofInt ((x + 1 : Nat) : Int)) := by
  have := h.2.1
  have fr := (h.2.2 t (by omega)).2.1
  rw [gX7_wholeRun_l72, if_neg (by rw [i_ler (by omega)]; omega), h.1, if_neg (by rw [i_lel (by omega)]; omega), topC h, ob_some, onl_s, if_pos g00, c00, if_pos w, if_pos hk, fr.2.2.2.1, fr.2.2.2.2.1, if_pos (by rw [i_lt (by omega) (by omega)]; omega), e, ob_some]
  try dsimp only
  rw [if_neg n10, e1, ob_some, e2, ob_some, e3, ob_some]
  unfold gX7_wholeRun_b176
  try dsimp only
  rw [iadd1]
theorem hmU {σ : Shp} {R : Nat → Nat → Option Nat} {I I1 : Nat → Nat → Int32} {J J1 : Nat → Nat → Int64} {t f : Nat} (ht : t < 400) (hd : I 114 42 = Int32.ofInt ((t + 1 : Nat) : Int)) (w : I 114 59 ≠ 0) (e : gX12_unwind σ I J R = some (I1, J1)) : gX12_run_l95 σ R (f + 1) I J = gX12_run_l95 σ R f I1 J1 := by
  rw [gX12_run_l95, hd, if_neg (by rw [i_lel (by omega)]; omega), if_neg w, e, ob_some]
theorem hmC {n O : Nat → Nat} {A : Nat → Nat → Int32} {σ : Shp} {R : Nat → Nat → Option Nat} {I I1 : Nat → Nat → Int32} {J J1 : Nat → Nat → Int64} {t f p k : Nat} (ht : t < 400) (hm : PlM n O A I) (hb : PlB n O) (hp : p < 4) (hk : k < n p) (hd : I 114 42 = Int32.ofInt ((t + 1 : Nat) : Int)) (w : I 114 59 = 0) (e1 : I 114 57 = Int32.ofInt (p : Nat)) (e2 : I 114 58 = Int32.ofInt (k : Nat)) (z : op O p k = 0) (e : gX12_close σ I J R = some (I1, J1)) : gX12_run_l95 σ R (f + 1) I J = gX12_run_l95 σ R f I1 J1 := by
  have hn := hb.1 p hp
  rw [gX12_run_l95, hd, if_neg (by rw [i_lel (by omega)]; omega), if_pos w, e1, e2, if_pos (p40 hp), t41 (by omega), hm.1 p hp, if_neg (by rw [i_eq (by omega) (by omega)]; omega), iy40, if_pos (p16 (by omega)), t41 (by omega), (hm.2 _ (by omega)).1, if_pos (by rw [show O (40 * p + k) = 0 from z]; rfl), e, ob_some]
theorem hmB {n O : Nat → Nat} {A : Nat → Nat → Int32} {σ : Shp} {R : Nat → Nat → Option Nat} {I I1 : Nat → Nat → Int32} {J J1 : Nat → Nat → Int64} {t f p k : Nat} (ht : t < 400) (hm : PlM n O A I) (hb : PlB n O) (hp : p < 4) (hk : k < n p) (hd : I 114 42 = Int32.ofInt ((t + 1 : Nat) : Int)) (w : I 114 59 = 0) (e1 : I 114 57 = Int32.ofInt (p : Nat)) (e2 : I 114 58 = Int32.ofInt (k : Nat)) (z : op O p k ≠ 0) (e : gX12_begin σ I J R (Int32.ofInt (op O p k : Nat)) = some (I1, J1)) : gX12_run_l95 σ R (f + 1) I J = gX12_run_l95 σ R f I1 J1 := by
  have hn := hb.1 p hp
  have h20 : O (40 * p + k) ≤ 20 := hb.2 _ (by omega)
  have z' : O (40 * p + k) ≠ 0 := z
  rw [gX12_run_l95, hd, if_neg (by rw [i_lel (by omega)]; omega), if_pos w, e1, e2, if_pos (p40 hp), t41 (by omega), hm.1 p hp, if_neg (by rw [i_eq (by omega) (by omega)]; omega), iy40, if_pos (p16 (by omega)), t41 (by omega), (hm.2 _ (by omega)).1, if_neg (by rw [i_eql (by omega)]; omega), show Int32.ofInt (O (40 * p + k) : Nat) = Int32.ofInt (op O p k : Nat) from rfl, e, ob_some]
