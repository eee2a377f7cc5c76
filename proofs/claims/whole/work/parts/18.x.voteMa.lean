/-! ===== minute: the model's vote, all of it ===== -/
/-- how many of a house read -/
def nrM (J : Nat → Nat → Int64) (h : Nat) : Nat := (rdM J h).toNat + (rdM J (h + 3)).toNat + (rdM J (h + 6)).toNat
/-- the value, the model's way -/
def valM3 (I : Nat → Nat → Int32) (J : Nat → Nat → Int64) (h : Nat) : Int64 := vC (inM I J h) (inM I J (h + 3)) (inM I J (h + 6)) (decide (okk (J 165 h) ≤ okk (J 165 (h + 3)))) (decide (okk (J 165 h) ≤ okk (J 165 (h + 6)))) (decide (okk (J 165 (h + 3)) ≤ okk (J 165 (h + 6)))) (J 165 h) (J 165 (h + 3)) (J 165 (h + 6))
/-- moved marks by themselves -/
def otS (m : Nat → Int32) (p : Nat) (x : Int32) (q : Nat) : Int32 := if x = 0 then (if q = p then 0 else if m q = 0 then 0 else 1) else 1
def othS (m : Nat → Int32) (h p : Nat) : Int32 := otS m p (otS m p (otS m p 0 h) (h + 3)) (h + 6)
/-- what the model makes of a probe -/
def resM (I : Nat → Nat → Int32) (J : Nat → Nat → Int64) (D : Nat → Nat → UInt64) (h p : Nat) (v : Int64) : Int32 × Int32 × Int32 × Int32 := jd (rdM J p && decide (¬ smM I J p < 8 ∧ othS (fun q => mvM I J q) h p ≠ 0)) (I 167 p) (I 168 p) (fN (rdM J p && (decide (nrM J h = 3) && decide (v ≠ 9221120237041090560))) (frM J D p v) (I 169 p)) (nN (rdM J p && (decide (nrM J h = 3) && decide (v ≠ 9221120237041090560))) (frM J D p v) (I 170 p))
theorem vote_M {σ : Shp} {R : Nat → Nat → Option Nat} {I : Nat → Nat → Int32} {J : Nat → Nat → Int64} {D : Nat → Nat → UInt64} {h : Nat} (hS : Skel σ R) (hh : h < 3) (hb : ∀ p, p < 9 → NumC (J 165 p)) (hP : FP.Core.val64 (D 114 94) ≠ .nan) (ho : ∀ p, p < 9 → I 167 p = 0 ∨ I 167 p = 1) : ∃ I' J', gX12_vote σ I J D R (Int32.ofInt (h : Int)) = some (I', J') ∧ (∀ p, (p = h ∨ p = h + 3 ∨ p = h + 6) → PM I' p (resM I J D h p (valM3 I J h)) ∧ I' 171 p = smM I J p ∧ J' 166 p = J 165 p) ∧ J' 173 h = valM3 I J h ∧ (∀ a k, ¬ ((167 ≤ a ∧ a ≤ 172) ∧ (k = h ∨ k = h + 3 ∨ k = h + 6)) → I' a k = I a k) ∧ (∀ a k, ¬ (a = 166 ∧ (k = h ∨ k = h + 3 ∨ k = h + 6)) → ¬ (a = 173 ∧ k = h) → J' a k = J a k) := by
  obtain ⟨F, hF⟩ : ∃ F, FUx = F := ⟨_, rfl⟩
  have hF' : F = 2000000 := by rw [← hF, FUx_eq]
  obtain ⟨f, rfl⟩ : ∃ f, F = f + 4 := ⟨F - 4, by omega⟩
  -- the value
  obtain ⟨J1, f1, f2, f3⟩ := find_all (σ := σ) (R := R) (I := I) (J := J) hh
  have f2 : J1 173 h = valM3 I J h := f2
  have vm : valM3 I J h = 9221120237041090560 ∨ J 165 h = valM3 I J h ∨ J 165 (h + 3) = valM3 I J h ∨ J 165 (h + 6) = valM3 I J h := vC_mem
  generalize hv : valM3 I J h = v at *
  have j165 : J1 165 = J 165 := by funext k; exact f3 165 k (by omega)
  have j166 : J1 166 = J 166 := by funext k; exact f3 166 k (by omega)
  have hv' : NumC (J1 173 h) := by
    rw [f2]
    rcases vm with q | q | q | q
    · exact Or.inr q
    · rw [← q]; exact hb h (by omega)
    · rw [← q]; exact hb (h + 3) (by omega)
    · rw [← q]; exact hb (h + 6) (by omega)
  have hb1 : ∀ p, p < 9 → NumC (J1 165 p) := fun p hp => by rw [j165]; exact hb p hp
  have rd1 : ∀ p, rdM J1 p = rdM J p := fun p => by unfold rdM; rw [j165]
  have fr1 : ∀ p, frM J1 D p v = frM J D p v := fun p => by unfold frM; rw [j165]
  have lk1 : ∀ p c, lkM J1 h p c = (rdM J p && (decide (c = 3) && decide (v ≠ 9221120237041090560))) := fun p c => by unfold lkM; rw [rd1, f2]
  have sm1 : ∀ (K : Nat → Nat → Int32) p, (K 114 85 = I 114 85) → K 171 p = I 171 p → smM K J1 p = smM I J p := fun K p a b => by unfold smM; rw [a, b, j165, j166]
  have mv1 : ∀ (K : Nat → Nat → Int32) p, (K 114 85 = I 114 85) → mvM K J1 p = mvM I J p := fun K p a => by unfold mvM; rw [a, j165, j166]
  have b0 := bt1 (rdM J h)
  have b1 := bt1 (rdM J (h + 3))
  have b2 := bt1 (rdM J (h + 6))
  -- minutes alike
  have cin : ∃ I2, gX12_countIn σ I J1 D R (Int32.ofInt (h : Int)) = gX12_countIn_l104 σ J1 D R (f + 4) I2 (Int32.ofInt (h : Int)) (Int32.ofInt (nrM J h : Int)) (Int32.ofInt (h : Int)) ∧ (∀ p, (p = h ∨ p = h + 3 ∨ p = h + 6) → I2 172 p = mvM I J p ∧ I2 171 p = smM I J p) ∧ (∀ a k, ¬ ((a = 171 ∨ a = 172) ∧ (k = h ∨ k = h + 3 ∨ k = h + 6)) → I2 a k = I a k) := by
    have z : (0 : Int32) = Int32.ofInt ((0 : Nat) : Int) := rfl
    unfold gX12_countIn
    rw [hF, z, ci_step hS (by omega) (by decide), Nat.zero_add, ci_step hS (by omega) (by rw [rd1]; omega), show h + 3 + 3 = h + 6 by omega, ci_step hS (by omega) (by rw [rd1, rd1]; omega), show h + 6 + 3 = h + 9 by omega, rd1, rd1, rd1, gX12_countIn_l4, if_pos (by rw [i_ler (by omega)]; omega), hF]
    refine ⟨_, rfl, fun p hp => ?_, fun a k q => ?_⟩
    · rcases hp with rfl | rfl | rfl
      · refine ⟨?_, ?_⟩
        · simp (disch := omega) only [u2n, u2s]; exact mv1 I _ rfl
        · simp (disch := omega) only [u2n, u2s]; exact sm1 I _ rfl rfl
      · refine ⟨?_, ?_⟩
        · simp (disch := omega) only [u2n, u2s]; exact mv1 _ _ (by simp (disch := omega) only [u2n, u2s])
        · simp (disch := omega) only [u2n, u2s]; exact sm1 _ _ (by simp (disch := omega) only [u2n, u2s]) (by simp (disch := omega) only [u2n, u2s])
      · refine ⟨?_, ?_⟩
        · simp (disch := omega) only [u2n, u2s]; exact mv1 _ _ (by simp (disch := omega) only [u2n, u2s])
        · simp (disch := omega) only [u2n, u2s]; exact sm1 _ _ (by simp (disch := omega) only [u2n, u2s]) (by simp (disch := omega) only [u2n, u2s])
    · simp (disch := omega) only [u2n, u2s]
  obtain ⟨I2, c1, c2, c3⟩ := cin
  -- off and near
  have cnt : ∃ I3, gX12_countIn_l104 σ J1 D R (f + 4) I2 (Int32.ofInt (h : Int)) (Int32.ofInt (nrM J h : Int)) (Int32.ofInt (h : Int)) = some I3 ∧ (∀ p, (p = h ∨ p = h + 3 ∨ p = h + 6) → I3 169 p = fN (rdM J p && (decide (nrM J h = 3) && decide (v ≠ 9221120237041090560))) (frM J D p v) (I 169 p) ∧ I3 170 p = nN (rdM J p && (decide (nrM J h = 3) && decide (v ≠ 9221120237041090560))) (frM J D p v) (I 170 p)) ∧ (∀ a k, ¬ ((a = 169 ∨ a = 170) ∧ (k = h ∨ k = h + 3 ∨ k = h + 6)) → I3 a k = I2 a k) := by
    have nb : nrM J h < 9 := by unfold nrM; omega
    rw [cn_step hS hh (by omega) nb (hb1 _ (by omega)) hv' hP, cn_step hS hh (by omega) nb (hb1 _ (by omega)) hv' hP, show h + 3 + 3 = h + 6 by omega, cn_step hS hh (by omega) nb (hb1 _ (by omega)) hv' hP, show h + 6 + 3 = h + 9 by omega, gX12_countIn_l104, if_pos (by rw [i_ler (by omega)]; omega), f2]
    refine ⟨_, rfl, fun p hp => ?_, fun a k q => ?_⟩
    · have e9 := c3 169 p (by omega)
      have e0 := c3 170 p (by omega)
      rcases hp with rfl | rfl | rfl
      · refine ⟨?_, ?_⟩
        · simp (disch := omega) only [u2n, u2s]; rw [lk1, fr1, e9]
        · simp (disch := omega) only [u2n, u2s]; rw [lk1, fr1, e0]
      · refine ⟨?_, ?_⟩
        · simp (disch := omega) only [u2n, u2s]; rw [lk1, fr1, e9]
        · simp (disch := omega) only [u2n, u2s]; rw [lk1, fr1, e0]
      · refine ⟨?_, ?_⟩
        · simp (disch := omega) only [u2n, u2s]; rw [lk1, fr1, e9]
        · simp (disch := omega) only [u2n, u2s]; rw [lk1, fr1, e0]
    · simp (disch := omega) only [u2n, u2s]
  obtain ⟨I3, d1, d2, d3⟩ := cnt
  -- judging
  have mk : ∀ (K : Nat → Nat → Int32) p, (p = h ∨ p = h + 3 ∨ p = h + 6) → (∀ a, 167 ≤ a → a ≤ 170 → K a p = I3 a p) → PM K p (I 167 p, I 168 p, fN (rdM J p && (decide (nrM J h = 3) && decide (v ≠ 9221120237041090560))) (frM J D p v) (I 169 p), nN (rdM J p && (decide (nrM J h = 3) && decide (v ≠ 9221120237041090560))) (frM J D p v) (I 170 p)) := fun K p hp hK => ⟨by rw [hK 167 (by decide) (by decide), d3 167 p (by omega), c3 167 p (by omega)], by rw [hK 168 (by decide) (by decide), d3 168 p (by omega), c3 168 p (by omega)], by rw [hK 169 (by decide) (by decide)]; exact (d2 p hp).1, by rw [hK 170 (by decide) (by decide)]; exact (d2 p hp).2⟩
  have s71 : ∀ p, (p = h ∨ p = h + 3 ∨ p = h + 6) → I3 171 p = smM I J p := fun p hp => by rw [d3 171 p (by omega)]; exact (c2 p hp).2
  have s72 : ∀ p, (p = h ∨ p = h + 3 ∨ p = h + 6) → I3 172 p = mvM I J p := fun p hp => by rw [d3 172 p (by omega)]; exact (c2 p hp).1
  have ot : ∀ (K : Nat → Nat → Int32) p, (∀ q, K 172 q = I3 172 q) → oth K h p = othS (fun q => mvM I J q) h p := fun K p hK => by
    have e : ∀ x q, (q = h ∨ q = h + 3 ∨ q = h + 6) → oS K p x q = otS (fun q => mvM I J q) p x q := fun x q hq => by
      unfold oS otS
      rw [hK, s72 q hq]
    unfold oth othS
    rw [e _ _ (Or.inl rfl), e _ _ (Or.inr (Or.inl rfl)), e _ _ (Or.inr (Or.inr rfl))]
  obtain ⟨I4, s1, s2, s3⟩ := vm_step (σ := σ) (R := R) (n := f + 3) (J := J1) (D := D) (h := h) (p := h) hh (by omega) (ho h (by omega)) (mk I3 h (Or.inl rfl) (fun _ _ _ => rfl))
  rw [rd1, s71 h (Or.inl rfl), ot I3 h (fun _ => rfl)] at s2
  obtain ⟨I5, t1, t2, t3⟩ := vm_step (σ := σ) (R := R) (n := f + 2) (J := J1) (D := D) (h := h) (p := h + 3) hh (by omega) (ho (h + 3) (by omega)) (mk I4 (h + 3) (Or.inr (Or.inl rfl)) (fun a _ _ => s3 _ _ (by omega)))
  rw [rd1, s3 171 (h + 3) (by omega), s71 (h + 3) (Or.inr (Or.inl rfl)), ot I4 (h + 3) (fun q => s3 _ _ (by omega))] at t2
  obtain ⟨I6, w1, w2, w3⟩ := vm_step (σ := σ) (R := R) (n := f + 1) (J := J1) (D := D) (h := h) (p := h + 6) hh (by omega) (ho (h + 6) (by omega)) (mk I5 (h + 6) (Or.inr (Or.inr rfl)) (fun a _ _ => by rw [t3 _ _ (by omega), s3 _ _ (by omega)]))
  rw [rd1, t3 171 (h + 6) (by omega), s3 171 (h + 6) (by omega), s71 (h + 6) (Or.inr (Or.inr rfl)), ot I5 (h + 6) (fun q => by rw [t3 _ _ (by omega), s3 _ _ (by omega)])] at w2
  have e2 : gX12_vote_l219 σ D R (f + 4) I6 J1 (Int32.ofInt (h : Int)) = some (I6, u2 (u2 (u2 J1 166 h (J1 165 h)) 166 (h + 3) (u2 J1 166 h (J1 165 h) 165 (h + 3))) 166 (h + 6) (u2 (u2 J1 166 h (J1 165 h)) 166 (h + 3) (u2 J1 166 h (J1 165 h) 165 (h + 3)) 165 (h + 6))) := by
    rw [bf_step (by omega), bf_step (by omega), show h + 3 + 3 = h + 6 by omega, bf_step (by omega), show h + 6 + 3 = h + 9 by omega, gX12_vote_l219, if_pos (by rw [i_ler (by omega)]; omega)]
  obtain ⟨J6, hJ6⟩ : ∃ J6, u2 (u2 (u2 J1 166 h (J1 165 h)) 166 (h + 3) (u2 J1 166 h (J1 165 h) 165 (h + 3))) 166 (h + 6) (u2 (u2 J1 166 h (J1 165 h)) 166 (h + 3) (u2 J1 166 h (J1 165 h) 165 (h + 3)) 165 (h + 6)) = J6 := ⟨_, rfl⟩
  rw [hJ6] at e2
  refine ⟨I6, J6, ?_, fun p hp => ?_, ?_, fun a k q => ?_, fun a k q1 q2 => ?_⟩
  · unfold gX12_vote
    rw [f1, ob_some, c1, d1, ob_some, hF, s1, t1, show h + 3 + 3 = h + 6 by omega, w1, show h + 6 + 3 = h + 9 by omega, gX12_vote_l12, if_pos (by rw [i_ler (by omega)]; omega), hF, e2]
  · unfold resM
    rcases hp with rfl | rfl | rfl
    · refine ⟨?_, ?_, ?_⟩
      · obtain ⟨a1, a2, a3, a4⟩ := s2
        exact ⟨by rw [w3 _ _ (by omega), t3 _ _ (by omega)]; exact a1, by rw [w3 _ _ (by omega), t3 _ _ (by omega)]; exact a2, by rw [w3 _ _ (by omega), t3 _ _ (by omega)]; exact a3, by rw [w3 _ _ (by omega), t3 _ _ (by omega)]; exact a4⟩
      · rw [w3 _ _ (by omega), t3 _ _ (by omega), s3 _ _ (by omega), s71 _ (Or.inl rfl)]
      · rw [← hJ6]; simp (disch := omega) only [u2n, u2s]; rw [j165]
    · refine ⟨?_, ?_, ?_⟩
      · obtain ⟨a1, a2, a3, a4⟩ := t2
        exact ⟨by rw [w3 _ _ (by omega)]; exact a1, by rw [w3 _ _ (by omega)]; exact a2, by rw [w3 _ _ (by omega)]; exact a3, by rw [w3 _ _ (by omega)]; exact a4⟩
      · rw [w3 _ _ (by omega), t3 _ _ (by omega), s3 _ _ (by omega), s71 _ (Or.inr (Or.inl rfl))]
      · rw [← hJ6]; simp (disch := omega) only [u2n, u2s]; rw [j165]
    · refine ⟨w2, ?_, ?_⟩
      · rw [w3 _ _ (by omega), t3 _ _ (by omega), s3 _ _ (by omega), s71 _ (Or.inr (Or.inr rfl))]
      · rw [← hJ6]; simp (disch := omega) only [u2n, u2s]; rw [j165]
  · rw [← hJ6]; simp (disch := omega) only [u2n, u2s]; exact f2
  · rw [w3 _ _ (by omega), t3 _ _ (by omega), s3 _ _ (by omega), d3 _ _ (by omega), c3 _ _ (by omega)]
  · rw [← hJ6]; simp (disch := omega) only [u2n, u2s]; exact f3 a k q2
