/-! ===== the start: Rel 0, and the whole ===== -/
theorem rn_d {x : Int32} {lo hi : Int} (h : lo ≤ x.toInt ∧ x.toInt ≤ hi) : Rn x lo hi := ⟨x.toInt, h.1, h.2, (Int32.ofInt_toInt x).symm⟩
theorem rnJ_d {x : Int64} {lo hi : Int} (h : lo ≤ x.toInt ∧ x.toInt ≤ hi) : RnJ x lo hi := ⟨x.toInt, h.1, h.2, (Int64.ofInt_toInt x).symm⟩
theorem z_I {a k : Nat} (h : inW W0I (key a k) = false) : mi25 a k = 0 := agmi25 a k h
theorem z_J {a k : Nat} (h : inW W0J (key a k) = false) : mj36 a k = 0 := agmj36 a k h
theorem z_R {a k : Nat} (h : inW W0R (key a k) = false) : mr170 a k = none := agmr170 a k h
theorem skel0 : Skel sg154 mr170 := ⟨by decide +kernel, by decide +kernel, by decide +kernel, by decide +kernel⟩
theorem gscal0 : GScal mi25 := ⟨by decide +kernel, by decide +kernel, by decide +kernel, by decide +kernel, by decide +kernel, by decide +kernel, by decide +kernel, by decide +kernel⟩
theorem gplan0 : GPlan mi25 := ⟨by decide +kernel, fun p hp => rn_d ((by decide +kernel : ∀ p, p < 4 → 0 ≤ (mi25 134 p).toInt ∧ (mi25 134 p).toInt ≤ 40) p hp), by decide +kernel, fun p hp => rn_d ((by decide +kernel : ∀ p, p < 160 → 0 ≤ (mi25 135 p).toInt ∧ (mi25 135 p).toInt ≤ 20) p hp), by decide +kernel, by decide +kernel, by decide +kernel⟩
theorem gstore0 : GStore mi25 mj36 := ⟨by decide +kernel, by decide +kernel, by decide +kernel⟩
theorem gtrace0 : GTrace mi25 := ⟨by decide +kernel, rn_d (by decide +kernel), fun k _ _ => by rw [z_I (a := 8) (k := k) rfl, z_I (a := 129) (k := k) rfl]⟩
theorem gran0 : GRan mi25 := ⟨by decide +kernel, by decide +kernel, by decide +kernel, by decide +kernel, by decide +kernel, by decide +kernel, by decide +kernel, by decide +kernel, by decide +kernel, by decide +kernel, by decide +kernel, by decide +kernel, by decide +kernel⟩
theorem gtab0 : GTab mi25 := ⟨by decide +kernel, fun t ht => rn_d ((by decide +kernel : ∀ t, t < 3 → 0 ≤ (mi25 156 t).toInt ∧ (mi25 156 t).toInt ≤ 8) t ht),
  fun t k ht hk => (by decide +kernel : ∀ t, t < 3 → ∀ k, k < 8 → mi25 (29 + t) k = mi25 157 (8 * t + k)) t ht k hk,
  fun t k ht hk => (by decide +kernel : ∀ t, t < 3 → ∀ k, k < 8 → mi25 (33 + t) k = mi25 158 (8 * t + k)) t ht k hk,
  fun t ht => rn_d ((by decide +kernel : ∀ t, t < 24 → -1000000 ≤ (mi25 157 t).toInt ∧ (mi25 157 t).toInt ≤ 1000000) t ht),
  fun t ht => rn_d ((by decide +kernel : ∀ t, t < 24 → -1000000 ≤ (mi25 158 t).toInt ∧ (mi25 158 t).toInt ≤ 1000000) t ht),
  fun t k ht hk => (by decide +kernel : ∀ t : Nat, t < 3 → ∀ k : Nat, k < 7 → Int32.ofInt ((k : Int) + 1) < mi25 156 t → mi25 157 (8 * t + k) < mi25 157 (8 * t + k + 1)) t ht k hk,
  by decide +kernel, fun t ht => rn_d ((by decide +kernel : ∀ t, t < 3 → -1 ≤ (mi25 159 t).toInt ∧ (mi25 159 t).toInt ≤ 2) t ht),
  by decide +kernel, fun t ht => rn_d ((by decide +kernel : ∀ t, t < 3 → 0 ≤ (mi25 162 t).toInt ∧ (mi25 162 t).toInt ≤ 3) t ht),
  by decide +kernel, by decide +kernel, by decide +kernel, fun t ht => rn_d ((by decide +kernel : ∀ t, t < 3 → 0 ≤ (mi25 160 t).toInt ∧ (mi25 160 t).toInt ≤ 1) t ht),
  by decide +kernel, by decide +kernel, by decide +kernel, rn_d (by decide +kernel), by decide +kernel⟩
theorem ghouse0 : GHouse mi25 mj36 mdd2 := ⟨by decide +kernel, fun p hp => rn_d ((by decide +kernel : ∀ p, p < 9 → 0 ≤ (mi25 167 p).toInt ∧ (mi25 167 p).toInt ≤ 1) p hp),
  by decide +kernel, by decide +kernel, by decide +kernel, by decide +kernel, by decide +kernel,
  fun p hp => Or.inr ((by decide +kernel : ∀ p, p < 9 → mj36 165 p = 9221120237041090560) p hp), by decide +kernel,
  fun p hp => by
    have e := (by decide +kernel : ∀ p, p < 9 → mj36 165 p = 9221120237041090560) p hp
    have f := (by decide +kernel : ∀ p, p < 9 → mdd2 53 p = 0) p hp
    rw [e, f]
    exact ⟨fun q => absurd q (by unfold isNum; decide), fun _ => rfl⟩,
  by decide +kernel, fun p hp => Or.inr ((by decide +kernel : ∀ p, p < 3 → mj36 173 p = 9221120237041090560) p hp), by decide +kernel,
  by
    have e := (by decide +kernel : mdd2 114 94 = 4611686018427387904)
    rw [e]
    unfold NumP
    decide,
  by decide +kernel, by decide +kernel, by decide +kernel, by decide +kernel, by decide +kernel, by decide +kernel,
  fun h k hh hk => (by decide +kernel : ∀ h, h < 3 → ∀ k, k < 5 → mj36 (58 + h) (6 + k) = mj36 180 (6 * h + 1 + k)) h hh k hk,
  fun t ht => rn_d ((by decide +kernel : ∀ t, t < 3 → 0 ≤ (mi25 177 t).toInt ∧ (mi25 177 t).toInt ≤ 100) t ht),
  fun t ht => rn_d ((by decide +kernel : ∀ t, t < 3 → 0 ≤ (mi25 178 t).toInt ∧ (mi25 178 t).toInt ≤ 100) t ht),
  fun t ht => rn_d ((by decide +kernel : ∀ t, t < 3 → -4000 ≤ (mi25 179 t).toInt ∧ (mi25 179 t).toInt ≤ 4000) t ht),
  by decide +kernel, fun t ht => rn_d ((by decide +kernel : ∀ t, t < 5 → -40000 ≤ (mi25 174 t).toInt ∧ (mi25 174 t).toInt ≤ 60000) t ht),
  by decide +kernel, fun t ht => rn_d ((by decide +kernel : ∀ t, t < 3 → 0 ≤ (mi25 181 t).toInt ∧ (mi25 181 t).toInt ≤ 6) t ht),
  fun h k hh hk => (by decide +kernel : ∀ h, h < 3 → ∀ k, k < 6 → mi25 (63 + h) k = mi25 182 (6 * h + k)) h hh k hk,
  fun h k hh hk => (by decide +kernel : ∀ h, h < 3 → ∀ k, k < 6 → mi25 (67 + h) k = mi25 183 (6 * h + k)) h hh k hk,
  fun t ht => rn_d ((by decide +kernel : ∀ t, t < 18 → 0 ≤ (mi25 182 t).toInt ∧ (mi25 182 t).toInt ≤ 1439) t ht),
  fun t ht => rn_d ((by decide +kernel : ∀ t, t < 18 → -50000 ≤ (mi25 183 t).toInt ∧ (mi25 183 t).toInt ≤ 60000) t ht),
  fun h k hh hk => (by decide +kernel : ∀ h : Nat, h < 3 → ∀ k : Nat, k < 5 → Int32.ofInt ((k : Int) + 1) < mi25 181 h → mi25 182 (6 * h + k) < mi25 182 (6 * h + k + 1)) h hh k hk,
  by decide +kernel, rn_d (by decide +kernel), by decide +kernel, fun t ht => rn_d ((by decide +kernel : ∀ t, t < 9 → 0 ≤ (mi25 171 t).toInt ∧ (mi25 171 t).toInt ≤ 100000) t ht)⟩
theorem gfeed0 : GFeed mi25 mj36 := ⟨fun s j hs hj => (by decide +kernel : ∀ s, s < 6 → ∀ j, j < 3 → mi25 (73 + s) j = mi25 188 (3 * s + j)) s hs j hj,
  fun t ht => rn_d ((by decide +kernel : ∀ t, t < 12 → 0 ≤ (mi25 188 t).toInt ∧ (mi25 188 t).toInt ≤ 99) t ht),
  fun t ht => rn_d ((by decide +kernel : ∀ t, t < 6 → 0 ≤ (mi25 188 (12 + t)).toInt ∧ (mi25 188 (12 + t)).toInt ≤ 999) t ht),
  by decide +kernel, by decide +kernel, by decide +kernel, by decide +kernel, by decide +kernel, rn_d (by decide +kernel), rn_d (by decide +kernel)⟩
theorem gpest0 : GPest mi25 mj36 := ⟨fun p s hp hs => (by decide +kernel : ∀ p, p < 2 → ∀ s, s < 4 → mj36 (93 + p) s = mj36 195 (4 * p + s)) p hp s hs,
  fun t ht => rnJ_d ((by decide +kernel : ∀ t, t < 8 → 0 ≤ (mj36 195 t).toInt ∧ (mj36 195 t).toInt ≤ 1000000000) t ht),
  fun p s hp hs => (by decide +kernel : ∀ p, p < 2 → ∀ s, s < 4 → mi25 (96 + p) s = mi25 196 (4 * p + s)) p hp s hs,
  fun t ht => rn_d ((by decide +kernel : ∀ t, t < 8 → 0 ≤ (mi25 196 t).toInt ∧ (mi25 196 t).toInt ≤ 1000) t ht),
  fun p s hp hs => (by decide +kernel : ∀ p, p < 2 → ∀ s, s < 4 → mi25 (99 + p) s = mi25 197 (4 * p + s)) p hp s hs,
  fun t ht => rn_d ((by decide +kernel : ∀ t, t < 8 → 0 ≤ (mi25 197 t).toInt ∧ (mi25 197 t).toInt ≤ 1000) t ht),
  fun p s hp hs => (by decide +kernel : ∀ p, p < 2 → ∀ s, s < 4 → mi25 (102 + p) s = mi25 198 (4 * p + s)) p hp s hs,
  fun t ht => rn_d ((by decide +kernel : ∀ t, t < 8 → 0 ≤ (mi25 198 t).toInt ∧ (mi25 198 t).toInt ≤ 1000) t ht),
  by decide +kernel, by decide +kernel, rn_d (by decide +kernel), rn_d (by decide +kernel)⟩
theorem gbook0 : GBook mi25 := ⟨fun k _ => by rw [z_I (a := 109) (k := k) rfl, z_I (a := 200) (k := k) rfl], fun k _ => by rw [z_I (a := 200) (k := k) rfl]; exact ⟨0, by decide, by decide, rfl⟩, by decide +kernel, by decide +kernel, by decide +kernel, by decide +kernel, rn_d (by decide +kernel), rn_d (by decide +kernel), rn_d (by decide +kernel), rn_d (by decide +kernel)⟩
theorem goff0 : GOff mi25 := ⟨0, by decide, by decide +kernel, fun t ht => ⟨0, Nat.le_refl 0, (by decide +kernel : ∀ t, t < 3 → mi25 162 t = Int32.ofInt ((0 : Nat) : Int)) t ht⟩⟩
theorem gsame0 : GSame mi25 := fun p hp => ⟨0, 0, (by decide +kernel : ∀ t, t < 9 → mi25 171 t = Int32.ofInt ((0 : Nat) : Int)) p hp, by decide +kernel, Nat.le_refl 0, Nat.zero_le _⟩
theorem gwalk0 : GWalk 0 mi25 := ⟨0, Nat.le_refl 0, by decide +kernel, fun t _ => ⟨0, Nat.le_refl 0, by rw [z_I (a := 133) (k := t) rfl]; rfl⟩⟩
theorem gpart0 : GPart mdd2 := by
  have e := (by decide +kernel : mdd2 114 94 = 4611686018427387904)
  unfold GPart
  rw [e]
  decide +kernel
theorem gfrm0 : GFrm sg154 mr170 := ⟨fun j c _ h => (by rw [z_R (a := 24) (k := j) rfl] at h; cases h), fun j j' c _ _ h => (by rw [z_R (a := 24) (k := j) rfl] at h; cases h)⟩
theorem gthing0 : GThing sg154 mi25 mj36 mr170 := by
  have o0 : Int32.ofInt ((0 : Nat) : Int) = 0 := rfl
  refine ⟨fun _ _ => 0, fun _ => 0, fun _ _ => 0, ⟨⟨by decide, by decide, by decide⟩, fun _ _ => Nat.le_refl 0, fun t h1 h2 => absurd h2 (by show ¬ t ≤ 0; omega), fun t u h1 h2 h3 => absurd h3 (by show ¬ u ≤ 0; omega), fun _ _ => ⟨rfl, rfl, rfl, rfl, rfl, rfl, rfl, fun _ => rfl⟩, fun _ _ => rfl, fun _ _ => rfl, fun t h1 h2 => absurd h2 (by show ¬ t ≤ 0; omega)⟩, ⟨by decide +kernel, fun b _ => z_R (a := 6) (k := b) rfl, fun t h1 h2 => absurd h2 (by show ¬ t ≤ 0; omega), ⟨fun t h1 h2 => absurd h2 (by show ¬ t ≤ 0; omega), fun t u h1 h2 h3 => absurd h3 (by show ¬ u ≤ 0; omega)⟩, fun a h1 h2 => ?_⟩, ⟨⟨by decide +kernel, by decide +kernel, by decide +kernel⟩, fun b _ => by rw [z_I (a := 115) (k := b) rfl]; exact o0.symm, fun t _ => ?_, fun k _ => z_J (a := 119) (k := k) rfl, fun k _ => by rw [z_I (a := 120) (k := k) rfl]; exact o0.symm⟩⟩
  · have h3 : 202 ≤ a := h1
    refine ⟨hk154 a h3, fun k => ⟨?_, ?_, ?_⟩⟩
    · rw [Ag.far agmi25 rfl a h3 h2]
    · rw [Ag.far agmj36 rfl a h3 h2]
    · rw [Ag.far agmr170 rfl a h3 h2]
  · unfold TMt
    rw [z_I (a := 116) (k := t) rfl, z_I (a := 117) (k := t) rfl, z_I (a := 118) (k := t) rfl, z_I (a := 121) (k := t) rfl, z_I (a := 122) (k := t) rfl, z_I (a := 123) (k := t) rfl, z_I (a := 124) (k := t) rfl, z_I (a := 125) (k := t) rfl, z_I (a := 126) (k := t) rfl, z_I (a := 127) (k := t) rfl, z_I (a := 133) (k := t) rfl]
    exact ⟨o0.symm, o0.symm, o0.symm, rfl, o0.symm, rfl, rfl, o0.symm, o0.symm, o0.symm, rfl⟩
theorem rel0 : Rel 0 sg154 mi25 mj36 mdd2 mr170 := ⟨⟨skel0, by decide +kernel, by decide +kernel, gfrm0, gthing0⟩, ⟨gscal0, gplan0, gtrace0, gran0, gtab0, gbook0, goff0, gsame0, gwalk0⟩, ⟨gstore0, gfeed0, gpest0, ghouse0, gpart0⟩⟩
theorem hpure : HPure := fun L xs hL => by
  obtain ⟨F, hF⟩ : ∃ F, FUx = F := ⟨_, rfl⟩
  have hF' : F = 2000000 := by rw [← hF, FUx_eq]
  have lp := loop (xs := xs) hL 513 F 0 0 sg154 mi25 mj36 mdd2 mr170 rel0 rfl rfl (by omega) (Nat.zero_le _)
  unfold fL_law
  rw [hF]
  refine sg (show nxx sg1 ≤ 600000 ∧ slx sg1 ≤ 7300000 by decide +kernel) ?_
  refine sg (show kdx sg1 4 = 12 by decide +kernel) ?_
  refine sb in1 ?_
  refine sg (show nxx sg66 ≤ 600000 ∧ slx sg66 ≤ 7300000 by decide +kernel) ?_
  refine sg (show nxx sg67 ≤ 600000 ∧ slx sg67 ≤ 7300000 by decide +kernel) ?_
  refine sg (show kdx sg67 114 = 13 by decide +kernel) ?_
  refine sb in99 ?_
  refine sg (show nxx sg154 ≤ 600000 ∧ slx sg154 ≤ 7300000 by decide +kernel) ?_
  exact lp
