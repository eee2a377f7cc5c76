/-! ===== work: the rows' invariant ===== -/
def Pm (w : Nat → Nat) : Prop := (∀ r, r < 3 → w r < 3) ∧ ∀ r s, r < 3 → s < 3 → w r = w s → r = s
def QQ (K : Nat → Int) (w : Nat → Nat) : Nat → Nat → Int := fun r => Rw0 K (w r)
/-- k pivots found, in the columns v 0, v 1 .. -/
def WI (K : Nat → Int) (k : Nat) (U L : Nat → Nat → Int) (v : Nat → Nat) : Prop := ∃ w, Pm w ∧ MtR U L (NN (QQ K w) k (v 0) (v 1) (v 2)) (dD (QQ K w) k (v 0) (v 1) (v 2)) ∧ ∀ j, j < k → v j < 4
theorem qq_b {K : Nat → Int} (hK : KB K) {w : Nat → Nat} (hw : Pm w) : ∀ r, r < 3 → RwB (QQ K w r) := fun r hr => Rw0_b hK (hw.1 r hr)
theorem wi_b {K : Nat → Int} {k : Nat} {U L : Nat → Nat → Int} {v : Nat → Nat} (hK : KB K) (h : WI K k U L v) (hk : k ≤ 3) {r c : Nat} (hr : r < 3) (hc : c < 8) : (U r c).natAbs ≤ 58747194 ∧ 0 < L r c ∧ (L r c).natAbs ≤ 5821794 ∧ (k < 3 → (L r c).natAbs ≤ 19602) := by
  obtain ⟨w, hw, hM, hv⟩ := h
  have f := hM r c hr hc
  have b := nn_b (qq_b hK hw) hk (a := v 0) (b := v 1) (e := v 2) (fun x => hv 0 x) (fun x => hv 1 x) (fun x => hv 2 x) hr hc
  have x1 := f.bu
  have x2 := f.bl
  exact ⟨by omega, f.2.1, by omega, fun x => by have := b.2.2 x; omega⟩
theorem pm_s {w : Nat → Nat} {f p : Nat} (h : Pm w) (hf : f < 3) (hp : p < 3) : Pm (fun r => w (swp f p r)) := ⟨fun r hr => h.1 _ (swp_lt hf hp hr), fun r s hr hs e => swp_inj (h.2 _ _ (swp_lt hf hp hr) (swp_lt hf hp hs) e)⟩
/-- the rows' places changed -/
theorem nn_s {Q Q' : Nat → Nat → Int} {k a b e f : Nat} (hk : k < 3) (h1 : k ≤ f) (h2 : f < 3) (eQ : ∀ r, Q' r = Q (swp f k r)) : (∀ r c, r < 3 → NN Q k a b e (swp f k r) c = NN Q' k a b e r c) ∧ dD Q k a b e = dD Q' k a b e := by
  obtain rfl | rfl | rfl : k = 0 ∨ k = 1 ∨ k = 2 := by omega
  · refine ⟨fun r c _ => ?_, rfl⟩
    show Q (swp f 0 r) c = Q' r c
    rw [eQ]
  · have q0 : Q' 0 = Q 0 := by rw [eQ, swp_o (by omega) (by omega)]
    refine ⟨fun r c hr => ?_, by show Q 0 a = Q' 0 a; rw [q0]⟩
    by_cases z : r = 0
    · subst z
      rw [swp_o (by omega) (by omega)]
      show Q 0 c = Q' 0 c
      rw [q0]
    · obtain ⟨s, rfl⟩ : ∃ s, r = s + 1 := ⟨r - 1, by omega⟩
      have n0 : swp f 1 (s + 1) ≠ 0 := by unfold swp; split <;> (try split) <;> omega
      obtain ⟨t, ht⟩ : ∃ t, swp f 1 (s + 1) = t + 1 := ⟨swp f 1 (s + 1) - 1, by omega⟩
      rw [ht]
      show m2 (Q 0) (Q (t + 1)) a c = m2 (Q' 0) (Q' (s + 1)) a c
      rw [q0, eQ (s + 1), ht]
  · obtain rfl : f = 2 := by omega
    have sw : ∀ r, swp 2 2 r = r := fun r => by unfold swp; split <;> omega
    have qe : Q' = Q := funext fun r => by rw [eQ, sw]
    subst qe
    exact ⟨fun r c _ => by rw [sw], rfl⟩
theorem wi_step {K : Nat → Int} {k f q : Nat} {U L : Nat → Nat → Int} {v : Nat → Nat} (hK : KB K) (h : WI K k U L v) (hk : k < 3) (h1 : k ≤ f) (h2 : f < 3) (hq : q < 4) (u0 : U f q ≠ 0) : ∃ N d, MtR (fun r => U (swp f k r)) (fun r => L (swp f k r)) N d ∧ StB N d k q ∧ N k q ≠ 0 ∧ WI K (k + 1) (mxU (fun r => U (swp f k r)) (fun r => L (swp f k r)) k q 3) (mxL (fun r => U (swp f k r)) (fun r => L (swp f k r)) k q 3) (fun j => if j = k then q else v j) := by
  obtain ⟨w, hw, hM, hv⟩ := h
  have hw' := pm_s hw h2 hk
  have es := nn_s (Q := QQ K w) (Q' := QQ K (fun r => w (swp f k r))) (a := v 0) (b := v 1) (e := v 2) hk h1 h2 (fun r => rfl)
  have hM' : MtR (fun r => U (swp f k r)) (fun r => L (swp f k r)) (NN (QQ K (fun r => w (swp f k r))) k (v 0) (v 1) (v 2)) (dD (QQ K (fun r => w (swp f k r))) k (v 0) (v 1) (v 2)) := fun r c hr hc => by
    have := hM (swp f k r) c (swp_lt h2 hk hr) hc
    rwa [es.1 r c hr, es.2] at this
  have hb := qq_b hK hw'
  have hv' : ∀ j, j < k + 1 → (fun j => if j = k then q else v j) j < 4 := fun j hj => by
    show (if j = k then q else v j) < 4
    by_cases e : j = k
    · rw [if_pos e]; exact hq
    · rw [if_neg e]; exact hv j (by omega)
  generalize hQ : QQ K (fun r => w (swp f k r)) = Q at hM' hb
  have n0 : NN Q k (v 0) (v 1) (v 2) k q ≠ 0 := fun e => by
    have : U (swp f k k) q = 0 := (fr_z (hM' k q hk (by omega))).mpr e
    have sf : swp f k k = f := by
      by_cases e : k = f
      · subst e; exact swp_f
      · exact swp_p e
    rw [sf] at this
    exact u0 this
  have st : StN Q k (v 0) (v 1) (v 2) q (NN Q (k + 1) ((fun j => if j = k then q else v j) 0) ((fun j => if j = k then q else v j) 1) ((fun j => if j = k then q else v j) 2)) (dD Q (k + 1) ((fun j => if j = k then q else v j) 0) ((fun j => if j = k then q else v j) 1) ((fun j => if j = k then q else v j) 2)) := by
    obtain rfl | rfl | rfl : k = 0 ∨ k = 1 ∨ k = 2 := by omega
    · exact stn0 hb hq
    · exact stn1 hb (hv 0 (by decide)) hq
    · exact stn2 hb (hv 0 (by decide)) (hv 1 (by decide)) hq
  obtain ⟨s1, s2, s3, s4⟩ := st
  refine ⟨_, _, hM', s1, n0, _, hw', ?_, hv'⟩
  rw [hQ]
  have := mx_fr hM' hk (by omega) n0 s2 s3
  rwa [s4] at this
/-- the rows behind the pivots have an entry of their own -/
theorem wi_own {K : Nat → Int} {k : Nat} {U L : Nat → Nat → Int} {v : Nat → Nat} (h : WI K k U L v) {r : Nat} (h1 : k ≤ r) (h2 : r < 3) : ∃ j, j < 3 ∧ U r (5 + j) ≠ 0 := by
  obtain ⟨w, hw, hM, hv⟩ := h
  have hd : dD (QQ K w) k (v 0) (v 1) (v 2) ≠ 0 := (hM r 0 h2 (by decide)).2.2.2
  have q1 : ∀ s, s < 3 → QQ K w s (5 + w s) = 1 := fun s hs => by
    have := hw.1 s hs
    show Rw0 K (w s) (5 + w s) = 1
    unfold Rw0
    rw [if_neg (by omega), if_neg (by omega), if_pos rfl]
  have q0 : ∀ s t, s < 3 → t < 3 → s ≠ t → QQ K w s (5 + w t) = 0 := fun s t hs ht e => by
    have := hw.1 s hs
    have n : w t ≠ w s := fun x => e (hw.2 s t hs ht x.symm)
    show Rw0 K (w s) (5 + w t) = 0
    unfold Rw0
    rw [if_neg (by omega), if_neg (by omega), if_neg (by omega)]
  have wr := hw.1 r h2
  refine ⟨w r, wr, fun e => hd ?_⟩
  have nz := (fr_z (hM r (5 + w r) h2 (by omega))).mp e
  have k2 : k ≤ 2 := by omega
  obtain rfl | rfl | rfl : k = 0 ∨ k = 1 ∨ k = 2 := by omega
  · have : QQ K w r (5 + w r) = 0 := nz
    rw [q1 r h2] at this
    exact absurd this (by decide)
  · obtain ⟨s, rfl⟩ : ∃ s, r = s + 1 := ⟨r - 1, by omega⟩
    have : m2 (QQ K w 0) (QQ K w (s + 1)) (v 0) (5 + w (s + 1)) = 0 := nz
    unfold m2 at this
    rw [q1 (s + 1) h2, q0 0 (s + 1) (by decide) h2 (by omega)] at this
    show QQ K w 0 (v 0) = 0
    omega
  · obtain rfl : r = 2 := by omega
    have : m3 (QQ K w 0) (QQ K w 1) (QQ K w 2) (v 0) (v 1) (5 + w 2) = 0 := nz
    unfold m3 m2 at this
    rw [q1 2 h2, q0 0 2 (by decide) h2 (by omega), q0 1 2 (by decide) h2 (by omega)] at this
    show m2 (QQ K w 0) (QQ K w 1) (v 0) (v 1) = 0
    unfold m2
    grind
/-- the start -/
theorem wi_0 {K : Nat → Int} {U L : Nat → Nat → Int} {v : Nat → Nat} (eU : ∀ r c, U r c = Rw0 K r c) (eL : ∀ r c, L r c = 1) : WI K 0 U L v := by
  refine ⟨fun r => r, ⟨fun r hr => hr, fun r s _ _ e => e⟩, fun r c _ _ => ?_, fun j hj => by omega⟩
  rw [eU, eL]
  exact ⟨rfl, by decide, Int.gcd_one, by show (1 : Int) ≠ 0; decide⟩
