/-! ===== a run: steps that begin ===== -/
theorem Core.hn {n O : Nat → Nat} {A : Nat → Nat → Int32} {vd : Nat → Int32} {G : Nat → Nat → Nat} {N : Nat → Nat → Int32} {nb sb : Nat} {σ : Shp} {I : Nat → Nat → Int32} {J : Nat → Nat → Int64} {R : Nat → Nat → Option Nat} {I' : Nat → Nat → Int32} {J' : Nat → Nat → Int64} {fc : Nat → Nat} {E : Nat → Nat → Nat} {V : Nat → Nat → Int32} {d st ch : Nat} (h : Core n O A vd G N nb sb σ I J R I' J' fc E V d st ch) : 198 ≤ nxx σ ∧ nxx σ ≤ 800600 := by
  obtain ⟨-, -, ⟨s, -, r1, -, r3⟩, -, -, c, -⟩ := h
  have := c.1.2.2
  exact ⟨s.1, by omega⟩
theorem Core.fc {n O : Nat → Nat} {A : Nat → Nat → Int32} {vd : Nat → Int32} {G : Nat → Nat → Nat} {N : Nat → Nat → Int32} {nb sb : Nat} {σ : Shp} {I : Nat → Nat → Int32} {J : Nat → Nat → Int64} {R : Nat → Nat → Option Nat} {I' : Nat → Nat → Int32} {J' : Nat → Nat → Int64} {fc : Nat → Nat} {E : Nat → Nat → Nat} {V : Nat → Nat → Int32} {d st ch j : Nat} (h : Core n O A vd G N nb sb σ I J R I' J' fc E V d st ch) (hj : j < d) : R 24 j = some (fc j) ∧ 202 ≤ fc j ∧ fc j + 1 < nxx σ + 4 ∧ kdx σ (fc j) = 4 ∧ R (fc j) 12 = some (fc j + 1) ∧ kdx σ (fc j + 1) = 20 ∧ lnx σ (fc j + 1) = 6 := by
  obtain ⟨-, -, ⟨-, g, -⟩, c, -⟩ := h
  have a := (c.2.2 j hj).1
  exact ⟨a, g.1 j (fc j) (by have := c.2.1; omega) a⟩
/-- other cells of a run are written -/
theorem Core.kp2 {n O : Nat → Nat} {A : Nat → Nat → Int32} {vd : Nat → Int32} {G : Nat → Nat → Nat} {N : Nat → Nat → Int32} {nb sb : Nat} {σ : Shp} {I : Nat → Nat → Int32} {J : Nat → Nat → Int64} {R : Nat → Nat → Option Nat} {I' : Nat → Nat → Int32} {J' : Nat → Nat → Int64} {fc : Nat → Nat} {E : Nat → Nat → Nat} {V : Nat → Nat → Int32} {d st ch st1 : Nat} {I1 I1' : Nat → Nat → Int32} (h : Core n O A vd G N nb sb σ I J R I' J' fc E V d st ch) (a : Ag [(5, 6), (7, 9), (19, 21), (25, 26)] I I1) (b : Ag [(129, 133), (140, 143), (1000001, 1000002), (1000024, 1000025), (1000029, 1000031), (1000042, 1000043), (1000057, 1000071)] I' I1') (k : I1 5 6 = I 5 6) (c : Cnt I1 I1' E d st1 ch) (w : Wy I1 I1') (hs : st ≤ st1) : Core n O A vd G N nb sb σ I1 J R I1' J' fc E V d st1 ch := by
  have hn := h.hn
  obtain ⟨⟨p1, p2, p3⟩, s, ⟨k1, k2, k3, k4, k5⟩, cl, fr, -, -⟩ := h
  refine ⟨⟨p1.kp (a.kp rfl), p2.kp (a.kp rfl), p3.kp (b.kp rfl)⟩, ?_, ⟨k1, k2, by omega, by omega, k5⟩, cl.kp k2 k (fun q h1 h2 => a.far rfl q h1 (by omega)) (fun _ _ => rfl), fun j hj => (fr j hj).kp rfl rfl rfl (a.at1 15 (by decide) (by decide) rfl) (fun q h1 h2 => b q j ?_), c, w⟩
  · exact (s.kpC ⟨hn.1, by omega⟩ (a 4 12 rfl) (fun q h1 h2 _ => a.far rfl q h1 h2) (a 17 6 rfl) (a.at1 22 (by decide) (by decide) rfl)).kpM (b.kp rfl)
  · rw [key_o (by omega) (by omega)]
    exact disW_no (C := [(143, 154)]) rfl (inW_iff.mpr ⟨(143, 154), List.mem_singleton.mpr rfl, h1, by omega⟩)
def sI (I : Nat → Nat → Int32) (c x y : Nat) : Nat → Nat → Int32 := u2 (u2 I 5 7 (Int32.ofInt (x : Int))) c 3 (Int32.ofInt (y : Int))
theorem Frm.x3 {n O : Nat → Nat} {A : Nat → Nat → Int32} {vd : Nat → Int32} {I I' : Nat → Nat → Int32} {E : Nat → Nat → Nat} {V : Nat → Nat → Int32} {t y : Nat} (h : Frm n O A vd I I' E V t) (h1 : E t 16 ≤ y) (h2 : y ≤ E t 4) (h3 : dq (op O (E t 1)) (E t 16) y = 1) : Frm n O A vd I I' (u2 E t 3 y) V t := by
  have e : ∀ f, f ≠ 3 → u2 E t 3 y t f = E t f := fun f hf => u2n (by omega)
  have e3 : u2 E t 3 y t 3 = y := u2_self _ _ _ _
  obtain ⟨a, b, c, d⟩ := h
  refine ⟨?_, ?_, ?_, ?_⟩
  · unfold RSa at a ⊢
    simp only [e 0 (by decide), e 1 (by decide), e 4 (by decide), e 8 (by decide), e 10 (by decide), e 13 (by decide), e 14 (by decide), e 16 (by decide), e3]
    obtain ⟨a1, a2, a3, a4, a5, a6⟩ := a
    exact ⟨a1, a2, h1, h2, h3, a6⟩
  · by_cases t0 : t = 0
    · rcases b with b | b | b
      · unfold RSb
        simp only [e 0 (by decide), e 10 (by decide), e 15 (by decide), e 16 (by decide)]
        exact Or.inl b
      · omega
      · omega
    · have ep : u2 E t 3 y (t - 1) = E (t - 1) := by funext f; exact u2n (by omega)
      unfold RSb at b ⊢
      simp only [e 0 (by decide), e 1 (by decide), e 2 (by decide), e 4 (by decide), e 8 (by decide), e 10 (by decide), e 12 (by decide), e 13 (by decide), e 14 (by decide), e 15 (by decide), e 16 (by decide), ep]
      exact b
  · by_cases t0 : t = 0
    · have n10' : E t 0 ≠ 10 := by
        rcases b with b | b | b
        · omega
        · omega
        · omega
      unfold RMo at c ⊢
      simp only [e 0 (by decide), e 1 (by decide), e 8 (by decide), e 10 (by decide), e 12 (by decide), if_neg n10'] at c ⊢
      exact c
    · have ep : u2 E t 3 y (t - 1) = E (t - 1) := by funext f; exact u2n (by omega)
      unfold RMo at c ⊢
      simp only [e 0 (by decide), e 1 (by decide), e 8 (by decide), e 10 (by decide), e 12 (by decide), ep]
      exact c
  · unfold RPf at d ⊢
    rw [e 1 (by decide)]
    exact d
theorem inF {c : Nat} (h1 : 202 ≤ c) (h2 : c < 1000000) {k : Nat} {W : List (Nat × Nat)} (h : (202, 1000000) ∈ W) : inW W (key c k) = true := by
  rw [key_o (by omega) (by omega)]
  exact inW_iff.mpr ⟨_, h, h1, h2⟩
theorem Core.next {n O : Nat → Nat} {A : Nat → Nat → Int32} {vd : Nat → Int32} {G : Nat → Nat → Nat} {N : Nat → Nat → Int32} {nb sb : Nat} {σ : Shp} {I : Nat → Nat → Int32} {J : Nat → Nat → Int64} {R : Nat → Nat → Option Nat} {I' : Nat → Nat → Int32} {J' : Nat → Nat → Int64} {fc : Nat → Nat} {E : Nat → Nat → Nat} {V : Nat → Nat → Int32} {t st ch x y : Nat} (h : Core n O A vd G N nb sb σ I J R I' J' fc E V (t + 1) st ch) (h1 : E t 16 ≤ y) (h2 : y ≤ E t 4) (h3 : dq (op O (E t 1)) (E t 16) y = 1) : Core n O A vd G N nb sb σ (sI I (fc t) x y) J R I' J' fc (u2 E t 3 y) V (t + 1) st ch ∧ Ag [(5, 6), (202, 1000000)] I (sI I (fc t) x y) := by
  have hn := h.hn
  obtain ⟨f1, f2, f3, f4, -⟩ := h.fc (Nat.lt_succ_self t)
  have a : Ag [(5, 6), (202, 1000000)] I (sI I (fc t) x y) := Ag.st (Ag.st Ag.rf rfl) (inF f2 (by omega) (by decide))
  refine ⟨?_, a⟩
  obtain ⟨⟨p1, p2, p3⟩, s, ⟨k1, k2, k3⟩, cl, fr, c, w⟩ := h
  have o : ∀ q, 202 ≤ q → q ≠ fc t → sI I (fc t) x y q = I q := fun q h1 h2 => by
    funext k
    unfold sI
    rw [u2n (by omega), u2n (by omega)]
  have ee : ∀ j f, j ≠ t → u2 E t 3 y j f = E j f := fun j f hj => u2n (by omega)
  refine ⟨⟨p1.kp (a.kp rfl), p2.kp (a.kp rfl), p3⟩, ?_, ⟨k1, k2, k3⟩, ?_, fun j hj => ?_, ?_, ?_⟩
  · exact s.kpC ⟨hn.1, by omega⟩ (a 4 12 rfl) (fun q h1 h2 h3 => o q h1 (fun e => by rw [e, f4] at h3; omega)) (a 17 6 rfl) (a.at1 22 (by decide) (by decide) rfl)
  · refine cl.top k2 ?_ (fun q h1 h2 _ => o q h1 h2) ee (fun _ _ _ => rfl) ?_
    · unfold sI; rw [u2n (by omega), u2n (by omega)]
    · obtain ⟨⟨g0, g1, g2, g3, g4, g8, g10⟩, ⟨v5, v6, v7, v9, v11⟩, wt⟩ := (cl.2.2 t (by omega)).2
      have z : ∀ f, f ≠ 3 → sI I (fc t) x y (fc t) f = I (fc t) f := fun f hf => by unfold sI; rw [u2n (by omega), u2n (by omega)]
      refine ⟨⟨?_, ?_, ?_, ?_, ?_, ?_, ?_⟩, ⟨?_, ?_, ?_, ?_, ?_⟩, fun k hk => ?_⟩
      · rw [z 0 (by decide), u2n (by omega)]; exact g0
      · rw [z 1 (by decide), u2n (by omega)]; exact g1
      · rw [z 2 (by decide), u2n (by omega)]; exact g2
      · unfold sI; rw [u2_self, u2_self]
      · rw [z 4 (by decide), u2n (by omega)]; exact g4
      · rw [z 8 (by decide), u2n (by omega)]; exact g8
      · rw [z 10 (by decide), u2n (by omega)]; exact g10
      · rw [z 5 (by decide)]; exact v5
      · rw [z 6 (by decide)]; exact v6
      · rw [z 7 (by decide)]; exact v7
      · rw [z 9 (by decide)]; exact v9
      · rw [z 11 (by decide)]; exact v11
      · rw [o (fc t + 1) (by omega) (by omega)]; exact wt k hk
  · by_cases e : j = t
    · subst e
      exact ((fr j hj).x3 h1 h2 h3).kp rfl rfl rfl (a.at1 15 (by decide) (by decide) rfl) (fun _ _ _ => rfl)
    · exact (fr j hj).kp (by funext f; exact ee j f e) (by funext f; exact ee (j - 1) f (by omega)) rfl (a.at1 15 (by decide) (by decide) rfl) (fun _ _ _ => rfl)
  · have z : ∀ f, f ≠ 7 → sI I (fc t) x y 5 f = I 5 f := fun f hf => by unfold sI; rw [u2n (by omega), u2n (by omega)]
    obtain ⟨c1, c2, c3, c4, c5, c6⟩ := c
    unfold Cnt
    rw [z 9 (by decide), z 8 (by decide), z 10 (by decide), z 11 (by decide), z 12 (by decide), z 13 (by decide), a 4 13 rfl, a 7 1 rfl]
    refine ⟨c1, fun q hq => ?_, c3, fun k hk => by rw [a 19 k rfl, a 20 k rfl]; exact c4 k hk, c5, c6.1, c6.2.1, fun k hk => by rw [a 8 k rfl]; exact c6.2.2 k hk⟩
    obtain rfl : q = t := by omega
    rw [u2n (by omega), u2n (by omega)]
    exact c2 q rfl
  · unfold Wy
    rw [a 25 0 rfl, a 25 1 rfl, a 25 2 rfl, a 25 3 rfl, a 25 4 rfl, a 25 5 rfl]
    exact w
/-- where the next step lies -/
theorem Core.nx {n O : Nat → Nat} {A : Nat → Nat → Int32} {vd : Nat → Int32} {G : Nat → Nat → Nat} {N : Nat → Nat → Int32} {nb sb : Nat} {σ : Shp} {I : Nat → Nat → Int32} {J : Nat → Nat → Int64} {R : Nat → Nat → Option Nat} {I' : Nat → Nat → Int32} {J' : Nat → Nat → Int64} {fc : Nat → Nat} {E : Nat → Nat → Nat} {V : Nat → Nat → Int32} {t st ch : Nat} (h : Core n O A vd G N nb sb σ I J R I' J' fc E V (t + 1) st ch) (hx : E t 3 < E t 4) : E t 1 < 4 ∧ E t 3 < n (E t 1) ∧ n (E t 1) ≤ 40 ∨ True := Or.inr trivial
/-- how a step begins, in the class -/
theorem stB {n O : Nat → Nat} {A : Nat → Nat → Int32} {vd : Nat → Int32} {G : Nat → Nat → Nat} {N : Nat → Nat → Int32} {nb sb : Nat} {σ : Shp} {I : Nat → Nat → Int32} {J : Nat → Nat → Int64} {R : Nat → Nat → Option Nat} {I' : Nat → Nat → Int32} {J' : Nat → Nat → Int64} {fc : Nat → Nat} {E : Nat → Nat → Nat} {V : Nat → Nat → Int32} {t st ch : Nat} (hb : PlB n O) (h : Core n O A vd G N nb sb σ I J R I' J' fc E V (t + 1) st ch) (hx : E t 3 < E t 4) : ∃ y, E t 16 ≤ y ∧ y ≤ E t 4 ∧ dq (op O (E t 1)) (E t 16) y = 1 ∧ E t 3 < y ∧ (op O (E t 1) (E t 3) < 11 → y = E t 3 + 1) ∧ (11 ≤ op O (E t 1) (E t 3) → 1 ≤ y ∧ Mt (op O (E t 1)) (E t 3) (y - 1)) ∧ ((op O (E t 1) (E t 3) = 17 ∨ op O (E t 1) (E t 3) = 18) → gX7_stepBegins σ I R (some (fc t)) = some (sI I (fc t) (E t 3) y, 0)) ∧ (op O (E t 1) (E t 3) ≠ 17 → op O (E t 1) (E t 3) ≠ 18 → op O (E t 1) (E t 3) ≠ 0 ∧ gX7_stepBegins σ I R (some (fc t)) = if st < 300 then some (u2 (sI I (fc t) (E t 3) y) 5 9 (Int32.ofInt ((st + 1 : Nat) : Int)), 1) else some (u2 (sI I (fc t) (E t 3) y) 25 0 3, 0)) := by
  obtain ⟨f1, f2, f3, f4, -⟩ := h.fc (Nat.lt_succ_self t)
  obtain ⟨⟨p1, -, -⟩, -, -, cl, fr, c, -⟩ := h
  obtain ⟨⟨a1, a2, a3, a4, a5, a6, a7, -⟩, -, -, ⟨-, d2, d3⟩⟩ := fr t (Nat.lt_succ_self t)
  obtain ⟨⟨g0, g1, g2, g3, g4, g8, g10⟩, -, -⟩ := (cl.2.2 t (by omega)).2
  have hn := hb.1 _ a1
  have o20 : op O (E t 1) (E t 3) ≤ 20 := hb.2 _ (by omega)
  have nz := a2.nz a3 hx a5
  have k3 : kdx σ (fc t) = 4 := f4
  have P3 : PlC n O A (u2 I 5 7 (Int32.ofInt (E t 3 : Nat))) := p1.kp (fun q k hq => by
    rw [u2n]
    rintro ⟨rfl, -⟩
    revert hq; exact fun z => by cases z)
  have cnt : ∀ y, gX7_counted (sI I (fc t) (E t 3) y) = if st < 300 then some (u2 (sI I (fc t) (E t 3) y) 5 9 (Int32.ofInt ((st + 1 : Nat) : Int)), 1) else some (u2 (sI I (fc t) (E t 3) y) 25 0 3, 0) := fun y => by
    have e9 : sI I (fc t) (E t 3) y 5 9 = Int32.ofInt (st : Nat) := by unfold sI; rw [u2n (by omega), u2n (by omega)]; exact c.1.1
    have := c.1.2.2
    unfold gX7_counted
    rw [e9]
    by_cases q : st < 300
    · rw [if_pos (by rw [i_ltl (by omega)]; omega), if_pos q, iadd1]
    · rw [if_neg (by rw [i_ltl (by omega)]; omega), if_neg q, if_pos g00, c00]
  have mk : ∀ y, (op O (E t 1) (E t 3) < 11 → y = E t 3 + 1) → (11 ≤ op O (E t 1) (E t 3) → 1 ≤ y ∧ Mt (op O (E t 1)) (E t 3) (y - 1)) → gX7_stepBegins σ I R (some (fc t)) = gX7_stepBegins_b57 σ R (u2 I 5 7 (Int32.ofInt (E t 3 : Nat))) (Int32.ofInt (op O (E t 1) (E t 3) : Nat)) (some (fc t)) (Int32.ofInt (y : Nat)) := fun y y1 y2 => by
    unfold gX7_stepBegins
    rw [ob_some, if_pos k3]
    try dsimp only
    rw [g3, u2n (by omega), u2_self, g1, opK P3 hb a1 (by omega), ob_some, if_pos (show E t 3 < n (E t 1) by omega)]
    by_cases q : op O (E t 1) (E t 3) < 11
    · rw [if_pos (by rw [i_ltl (by omega)]; omega), iadd1, y1 q]
    · obtain ⟨y3, y4⟩ := y2 (by omega)
      have d4 : PBd (op O (E t 1)) (n (E t 1)) (fun q => u2 I 5 7 (Int32.ofInt (E t 3 : Nat)) 15 (40 * E t 1 + q)) := by
        have e : (fun q => u2 I 5 7 (Int32.ofInt (E t 3 : Nat)) 15 (40 * E t 1 + q)) = fun q => I 15 (40 * E t 1 + q) := by
          funext q
          rw [u2n (by omega)]
        rw [e]
        exact d3
      rw [if_neg (by rw [i_ltl (by omega)]; omega), eC P3 hb a1 (by omega) d4 y4, ob_some, iadd1, show y - 1 + 1 = y by omega]
  have fin : ∀ y, gX7_stepBegins σ I R (some (fc t)) = gX7_stepBegins_b57 σ R (u2 I 5 7 (Int32.ofInt (E t 3 : Nat))) (Int32.ofInt (op O (E t 1) (E t 3) : Nat)) (some (fc t)) (Int32.ofInt (y : Nat)) → ((op O (E t 1) (E t 3) = 17 ∨ op O (E t 1) (E t 3) = 18) → gX7_stepBegins σ I R (some (fc t)) = some (sI I (fc t) (E t 3) y, 0)) ∧ (op O (E t 1) (E t 3) ≠ 17 → op O (E t 1) (E t 3) ≠ 18 → op O (E t 1) (E t 3) ≠ 0 ∧ gX7_stepBegins σ I R (some (fc t)) = if st < 300 then some (u2 (sI I (fc t) (E t 3) y) 5 9 (Int32.ofInt ((st + 1 : Nat) : Int)), 1) else some (u2 (sI I (fc t) (E t 3) y) 25 0 3, 0)) := fun y hy => by
    rw [hy]
    unfold gX7_stepBegins_b57
    rw [ob_some, if_pos k3]
    try dsimp only
    refine ⟨fun q => ?_, fun q1 q2 => ⟨nz, ?_⟩⟩
    · rcases q with q | q
      · rw [q, if_pos (by rfl)]; rfl
      · rw [q, if_neg (by decide), if_pos (by rfl)]; rfl
    · rw [if_neg (by rw [i_eql (by omega)]; omega), if_neg (by rw [i_eql (by omega)]; omega), if_neg (by rw [i_eql (by omega)]; omega)]
      have := cnt y
      unfold sI at this ⊢
      rw [this]
      by_cases z : st < 300
      · rw [if_pos z, ob_some, if_neg n10]
      · rw [if_neg z, ob_some, if_pos rfl]
  by_cases q : op O (E t 1) (E t 3) < 11
  · have hy := mk (E t 3 + 1) (fun _ => rfl) (fun _ => by omega)
    exact ⟨E t 3 + 1, by omega, by omega, a2.pl a3 hx a5 q, by omega, fun _ => rfl, fun _ => by omega, fin _ hy⟩
  · obtain ⟨e, m1, m2, m3⟩ := d3.ex (show E t 3 < n (E t 1) by omega) (by omega)
    have lt := m1.1
    obtain ⟨s1, s2⟩ := a2.sk a3 hx a5 m1 (fun z => by rw [a7 z]; exact m2)
    have hy := mk (e + 1) (fun _ => by omega) (fun _ => ⟨by omega, m1⟩)
    exact ⟨e + 1, by omega, by omega, s2, by omega, fun _ => by omega, fun _ => ⟨by omega, m1⟩, fin _ hy⟩
