/-! ===== new things: the ghosts ===== -/
def gNew (G : Nat → Nat → Nat) (a f z k d l q : Nat) : Nat → Nat → Nat := fun x t =>
  if x = 10 then (if t = 0 then G 10 0 + 1 else if t = 1 then G 10 1 + nC f z else if t = 2 then G 10 2 + (if 8 ≤ f ∧ f ≤ 15 then z else 0) else G 10 t)
  else if t = G 10 0 + 1 ∧ x ≠ 4 ∧ x ≠ 9 then (if x = 0 then a else if x = 1 then f else if x = 2 then z else if x = 3 then (if f = 16 then G 3 t else if 8 ≤ f ∧ f ≤ 15 then G 10 2 else G 10 1) else if x = 5 then l else if x = 6 then q else if x = 7 then k else if x = 8 then d else G x t)
  else G x t
section
variable {G : Nat → Nat → Nat} {a f z k d l q : Nat}
theorem gN0 : gNew G a f z k d l q 10 0 = G 10 0 + 1 := rfl
theorem gN1 : gNew G a f z k d l q 10 1 = G 10 1 + nC f z := rfl
theorem gN2 : gNew G a f z k d l q 10 2 = G 10 2 + (if 8 ≤ f ∧ f ≤ 15 then z else 0) := rfl
theorem gNo {x t : Nat} (h : t ≠ G 10 0 + 1) (hx : x ≠ 10) : gNew G a f z k d l q x t = G x t := by
  unfold gNew; rw [if_neg hx, if_neg (fun q => h q.1)]
theorem gN4 {t : Nat} : gNew G a f z k d l q 4 t = G 4 t := by
  unfold gNew; rw [if_neg (by decide), if_neg (fun q => q.2.1 rfl)]
theorem gN9 {t : Nat} : gNew G a f z k d l q 9 t = G 9 t := by
  unfold gNew; rw [if_neg (by decide), if_neg (fun q => q.2.2 rfl)]
theorem gNa : gNew G a f z k d l q 0 (G 10 0 + 1) = a := by
  unfold gNew; rw [if_neg (by decide), if_pos ⟨rfl, by decide, by decide⟩, if_pos rfl]
theorem gNf : gNew G a f z k d l q 1 (G 10 0 + 1) = f := by
  unfold gNew; rw [if_neg (by decide), if_pos ⟨rfl, by decide, by decide⟩]; rfl
theorem gNz : gNew G a f z k d l q 2 (G 10 0 + 1) = z := by
  unfold gNew; rw [if_neg (by decide), if_pos ⟨rfl, by decide, by decide⟩]; rfl
theorem gNs : gNew G a f z k d l q 3 (G 10 0 + 1) = (if f = 16 then G 3 (G 10 0 + 1) else if 8 ≤ f ∧ f ≤ 15 then G 10 2 else G 10 1) := by
  unfold gNew; rw [if_neg (by decide), if_pos ⟨rfl, by decide, by decide⟩]; rfl
theorem gNl : gNew G a f z k d l q 5 (G 10 0 + 1) = l := by
  unfold gNew; rw [if_neg (by decide), if_pos ⟨rfl, by decide, by decide⟩]; rfl
theorem gNq : gNew G a f z k d l q 6 (G 10 0 + 1) = q := by
  unfold gNew; rw [if_neg (by decide), if_pos ⟨rfl, by decide, by decide⟩]; rfl
theorem gNk : gNew G a f z k d l q 7 (G 10 0 + 1) = k := by
  unfold gNew; rw [if_neg (by decide), if_pos ⟨rfl, by decide, by decide⟩]; rfl
theorem gNd : gNew G a f z k d l q 8 (G 10 0 + 1) = d := by
  unfold gNew; rw [if_neg (by decide), if_pos ⟨rfl, by decide, by decide⟩]; rfl
end
theorem nC_le {f z : Nat} (z1 : f ≤ 7 → z ≤ 40) : nC f z ≤ 40 := by
  unfold nC
  split
  · rename_i q; exact z1 q
  · split <;> omega
theorem TSg.new {G : Nat → Nat → Nat} {C : Nat → Int64} {N N' : Nat → Nat → Int32} {a f z k d l q : Nat} (h : TSg G C N) (hN : ∀ x t, t ≠ G 10 0 + 1 → N' x t = N x t) (hm : G 10 0 + 1 ≤ 4050) (hf : f ≤ 17) (hk : k ≤ 5) (hd : d ≤ 4) (z1 : f ≤ 7 → z ≤ 40) (z2 : 8 ≤ f → z ≤ 10) (z3 : f = 11 → z ≤ 4) (z4 : 16 ≤ f → z = 0) (hl : l ≤ G 10 0) (hq : q ≤ G 10 0) (hc : f = 17 → l = 0 ∧ q = 0) (hp : f = 16 → k = 2 → 1 ≤ d ∧ (l ≠ 0 → G 1 l = 16 ∧ G 8 l < d) ∧ (q ≠ 0 → G 1 q = 16 ∧ G 8 q < d)) : TSg (gNew G a f z k d l q) C N' := by
  obtain ⟨⟨h1, h2, h3⟩, hb, ht, hpr, hz, hC, hP⟩ := h
  have n40 := nC_le z1
  have pz : (if 8 ≤ f ∧ f ≤ 15 then z else 0) ≤ 10 := by split <;> omega
  refine ⟨⟨?_, ?_, ?_⟩, fun b hb' => ?_, fun t t1 t2 => ?_, fun t u t1 tu u2' => ?_, fun t ht' => ?_, fun j hj => ?_, fun j hj => ?_, fun t t1 t2 ht' j hj => ?_⟩
  · rw [gN0]; exact hm
  · rw [gN0, gN1]; omega
  · rw [gN0, gN2]; omega
  · rw [gN9, gN0]; have := hb b hb'; omega
  · rw [gN0] at t2
    by_cases c : t = G 10 0 + 1
    · subst c
      unfold TSt
      rw [gNf, gNz, gNk, gNd, gNl, gNq, gNs, gN0, gN1, gN2]
      refine ⟨hf, hk, hd, z1, z2, z3, z4, fun r => ?_, fun r1 r2 => ?_, fun r1 r2 j hj => ?_, by omega, by omega, fun r => ?_, fun r1 r2 => ?_⟩
      · rw [if_neg (by omega), if_neg (by omega)]; omega
      · rw [if_neg (by omega), if_pos ⟨r1, r2⟩, if_pos ⟨r1, r2⟩]; omega
      · rw [if_neg (by omega), if_pos ⟨r1, r2⟩, gN4, hP.1 _ (by omega)]
        exact ⟨by omega, fun q => absurd rfl q⟩
      · obtain ⟨e1, e2⟩ := hc r
        exact ⟨fun w => absurd e1 w, fun w => absurd e2 w⟩
      · obtain ⟨p1, p2, p3⟩ := hp r1 r2
        rw [gNo (by omega) (by decide), gNo (by omega) (by decide), gNo (by omega) (by decide), gNo (by omega) (by decide)]
        exact ⟨p1, p2, p3⟩
    · obtain ⟨c1, c2, c3, c4, c5, c6, c7, c8, c9, c10, c11, c12, c13, c14⟩ := ht t t1 (by omega)
      unfold TSt
      rw [gNo (x := 1) c (by decide), gNo (x := 2) c (by decide), gNo (x := 3) c (by decide), gNo (x := 5) c (by decide), gNo (x := 6) c (by decide), gNo (x := 7) c (by decide), gNo (x := 8) c (by decide), gN0, gN1, gN2]
      refine ⟨c1, c2, c3, c4, c5, c6, c7, fun r => by have := c8 r; omega, fun r1 r2 => by have := c9 r1 r2; omega, fun r1 r2 j hj => ?_, by omega, by omega, fun r => ?_, fun r1 r2 => ?_⟩
      · rw [gN4]
        obtain ⟨e1, e2⟩ := c10 r1 r2 j hj
        refine ⟨by omega, fun w => ?_⟩
        rw [gNo (by omega) (by decide)]
        exact e2 w
      · rw [gNo (by omega) (by decide), gNo (by omega) (by decide)]
        exact c13 r
      · rw [gNo (by omega) (by decide), gNo (by omega) (by decide), gNo (by omega) (by decide), gNo (by omega) (by decide)]
        exact c14 r1 r2
  · rw [gN0] at u2'
    have ct : t ≠ G 10 0 + 1 := by omega
    rw [gNo (x := 1) ct (by decide), gNo (x := 2) ct (by decide), gNo (x := 3) ct (by decide)]
    obtain ⟨-, -, -, -, -, -, -, c8, c9, -⟩ := ht t t1 (by omega)
    by_cases c : u = G 10 0 + 1
    · subst c
      rw [gNf, gNs]
      refine ⟨fun r1 r2 => ?_, fun r1 r2 r3 r4 => ?_⟩
      · rw [if_neg (by omega), if_neg (by omega)]; exact c8 r1
      · rw [if_neg (by omega), if_pos ⟨r3, r4⟩]; exact c9 r1 r2
    · rw [gNo (x := 1) c (by decide), gNo (x := 3) c (by decide)]
      exact hpr t u t1 tu (by omega)
  · rw [gN0] at ht'
    have c : t ≠ G 10 0 + 1 := by omega
    rw [gNo (x := 5) c (by decide), gNo (x := 6) c (by decide), gNo (x := 7) c (by decide), gNo (x := 8) c (by decide), hN 4 t c, hN 5 t c, hN 6 t c, hN 8 t c]
    exact hz t (by omega)
  · rw [gN1] at hj; exact hC j (by omega)
  · rw [gN2] at hj; rw [gN4]; exact hP.1 j (by omega)
  · rw [gN0] at t2
    by_cases c : t = G 10 0 + 1
    · subst c
      rw [gNf] at ht'
      rw [gNs, if_neg (by omega), if_neg (by omega), hC _ (by omega)]
      rfl
    · rw [gNo (x := 1) c (by decide)] at ht'
      rw [gNo (x := 2) c (by decide)] at hj
      rw [gNo (x := 3) c (by decide)]
      exact hP.2 t t1 (by omega) ht' j hj
