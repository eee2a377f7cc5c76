/-! ===== a run: TRY's body or a CATCH's is left ===== -/
theorem endK {n O : Nat → Nat} {A : Nat → Nat → Int32} {I : Nat → Nat → Int32} {p k e : Nat} (h : PlC n O A I) (hb : PlB n O) (hp : p < 4) (hk : k < n p) (hE : PBd (op O p) (n p) (fun q => I 15 (40 * p + q))) (m : Mt (op O p) k e) : gX6_endAt I (Int32.ofInt p) (Int32.ofInt k) = some (Int32.ofInt (e : Nat)) := eC h hb hp hk hE m
theorem lvS01 {n O : Nat → Nat} {A : Nat → Nat → Int32} {vd : Nat → Int32} {G : Nat → Nat → Nat} {N : Nat → Nat → Int32} {nb sb : Nat} {σ : Shp} {I : Nat → Nat → Int32} {J : Nat → Nat → Int64} {R : Nat → Nat → Option Nat} {I' : Nat → Nat → Int32} {J' : Nat → Nat → Int64} {fc : Nat → Nat} {E : Nat → Nat → Nat} {V : Nat → Nat → Int32} {σ' : Shp} {R' : Nat → Nat → Option Nat} {t st ch : Nat} (hb : PlB n O) (h : Core n O A vd G N nb sb σ I J R I' J' fc E V (t + 1) st ch) (hp : Pc n O I I' E (t + 1)) (md : I 25 0 ≠ 0 ∨ E t 3 = E t 4) (eo : E t 0 = 16) (e8 : E t 8 < 2) : LvOk n O A vd G N nb sb σ' R' σ I J R I' J' fc E t st := by
  obtain ⟨t1, t2, t3, t4, t5, t6, t7, t8, t9, t10, t11, -⟩ := h.tp hb
  have hf := h.fc (Nat.lt_succ_self t)
  obtain ⟨q, hq, c1, c2, c3, c4, c5, c6, c7, c8, c9, m3, m4, m5, c10⟩ := h.tr eo
  obtain ⟨⟨ra, -, -, -, -, r6, -⟩, -, F3, ⟨-, wf, bd⟩⟩ := h.2.2.2.2.1 t (Nat.lt_succ_self t)
  obtain ⟨⟨-, g1, g2, -, -, g8, -⟩, ⟨-, -, -, -, v11⟩, wt⟩ := (h.2.2.2.1.2.2 t (by omega)).2
  have wy := h.2.2.2.2.2.2
  have w' : I' 114 59 = I 25 0 := wy.1
  have c61 := c6.1
  have c51 := c5.1
  have hn := hb.1 _ t6
  have e4 : E t 4 < n (E t 1) := (bd.mt (by omega) c6).1
  obtain ⟨C, -, -, -, -, h17, h54, h640, -⟩ := id h.2.1
  obtain ⟨m, b, e, a1, a2, a3, a4, a5, a6⟩ := lastX (σ' := σ') (R' := R') hb h eo hq e8
  have b0 : Ag [(1000042, 1000043)] I' (u2 I' 114 42 (Int32.ofInt (t : Nat))) := Ag.st Ag.rf rfl
  have k0 : E t 8 ≠ 2 := by omega
  have g82 : ¬ I (fc t) 8 = 2 := by rw [g8, i_eql (by omega)]; omega
  -- the class, once no CATCH is met
  have eC : ∀ Ia, Ag [(25, 26)] I Ia → gX7_leave σ I J R (some (fc t)) = (gX7_entersLast σ Ia R (some (fc t))).bind (fun (I25, r26) => if r26 = 0 then gX7_leave_b169 σ I25 J R (some (fc t)) else some (I25, J, R)) → gX7_leave σ I J R (some (fc t)) = if b < n (E t 1) ∧ op O (E t 1) b = 18 then some (u2 (u2 (u2 (u2 (wkp (u2 Ia 5 11 (Ia 5 11 + 1)) (fc t) 6) (fc t) 8 (Int32.ofInt ((2 : Nat) : Int))) (fc t) 3 (Int32.ofInt ((b + 1 : Nat) : Int))) (fc t) 4 (Int32.ofInt (e : Nat))) 25 0 0, J, R) else gX7_leave_b169 σ Ia J R (some (fc t)) := fun Ia aa hC => by
    rw [hC, a5 Ia aa]
    by_cases z : b < n (E t 1) ∧ op O (E t 1) b = 18
    · rw [if_pos z, if_pos z, ob_some]
      try dsimp only
      rw [if_neg n10]
    · rw [if_neg z, if_neg z, ob_some]
      try dsimp only
      rw [if_pos rfl]
  have b54 : ∀ Ia, (gX7_entersLast σ Ia R (some (fc t))).bind (fun (I17, r18) => if r18 = 0 ∨ r18 = 1 then some (I17, r18) else none) = gX7_entersLast σ Ia R (some (fc t)) ∨ ¬ Ag [(25, 26)] I Ia := fun Ia => by
    by_cases aa : Ag [(25, 26)] I Ia
    · left
      rw [a5 Ia aa]
      by_cases z : b < n (E t 1) ∧ op O (E t 1) b = 18
      · rw [if_pos z, ob_some]
        try dsimp only
        rw [if_pos (Or.inr rfl)]
      · rw [if_neg z, ob_some]
        try dsimp only
        rw [if_pos (Or.inl rfl)]
    · exact Or.inr aa
  have bE : ∀ Ia, Ag [(25, 26)] I Ia → (gX7_entersLast σ Ia R (some (fc t))).bind (fun (I17, r18) => if r18 = 0 ∨ r18 = 1 then some (I17, r18) else none) = gX7_entersLast σ Ia R (some (fc t)) := fun Ia aa => (b54 Ia).resolve_right (fun z => z aa)
  have bC : gX7_goesOnTrying_b54 σ R I (some (fc t)) = if E t 8 = 1 ∧ I 25 0 = 1 then gX7_entersLast σ (u2 I 25 4 (V t 11)) R (some (fc t)) else gX7_entersLast σ I R (some (fc t)) := by
    unfold gX7_goesOnTrying_b54
    rw [ob_some, if_pos t1, g8]
    by_cases z : E t 8 = 1
    · rw [if_pos (by rw [z]; rfl), if_pos g00, c00]
      by_cases z1 : I 25 0 = 1
      · rw [if_pos z1, if_pos g04, c04, v11, if_pos ⟨z, z1⟩]
        exact bE _ (Ag.st Ag.rf rfl)
      · rw [if_neg z1, if_neg (fun y => z1 y.2)]
        exact bE _ Ag.rf
    · rw [if_neg (by rw [i_eql (by omega)]; omega), if_neg (fun y => z y.1)]
      exact bE _ Ag.rf
  -- what comes of a LAST or of none
  have fin : ∀ (Ia Ia' : Nat → Nat → Int32), I 25 0 ≠ 0 → Ag [(25, 26)] I Ia → Ag [(1000042, 1000043), (1000063, 1000064)] I' Ia' → Ia' 114 42 = Int32.ofInt (t : Nat) → Wy Ia Ia' → Ia 25 0 = I 25 0 → I 25 0 ≠ 3 → gX7_leave σ I J R (some (fc t)) = (gX7_entersLast σ Ia R (some (fc t))).bind (fun (I25, r26) => if r26 = 0 then gX7_leave_b169 σ I25 J R (some (fc t)) else some (I25, J, R)) → gX12_unwind σ' I' J' R' = (gX12_leave σ' Ia' R' (Int32.ofInt (E t 1 : Nat)) (Int32.ofInt (E t 12 : Nat))).bind (fun I38 => some (I38, J')) → LvOk n O A vd G N nb sb σ' R' σ I J R I' J' fc E t st := fun Ia Ia' w aa ba m42 wya wa w3 hC hM => by
    have hC := eC Ia aa hC
    rw [(a6 Ia' ba m42).1, ob_some] at hM
    have em : ∀ f, gX12_run_l95 σ' R' (f + 1) I' J' = gX12_run_l95 σ' R' f _ J' := fun f => hmU (by omega) t10 (by rw [w']; exact w) hM
    by_cases z : b < n (E t 1) ∧ op O (E t 1) b = 18
    · rw [if_pos z] at hC em
      exact lvLast hb h eo hq e8 a1 z.1 z.2 (a4 z) aa ba wya (by rw [wa]; exact w3) hC em
    · rw [if_neg z] at hC em
      exact lvTp hb h eo aa (ba.mv rfl) m42 wya (fun y hy v => absurd (by rw [← wa]; exact v) w) hC em
  by_cases w3 : I 25 0 = 3
  · -- spent
    have w : I 25 0 ≠ 0 := by rw [w3]; decide
    have hC : gX7_leave σ I J R (some (fc t)) = gX7_leave_b169 σ I J R (some (fc t)) := by
      rw [(lvC t1 t11 t5).2.2.2.2.2.2.1 eo]
      unfold gX7_goesOnTrying
      rw [if_pos g00, c00, if_pos w3, ob_some]
      try dsimp only
      rw [if_pos rfl]
    obtain ⟨I0', e0, u0, u1, -⟩ := unT (σ' := σ') (R' := R') hb h eo w
    subst e0
    have w59 : u2 I' 114 42 (Int32.ofInt (t : Nat)) 114 59 = 3 := by rw [b0 114 59 rfl, w']; exact w3
    by_cases s : E t 8 = 0
    · have un := u0 s
      rw [if_neg (by rw [w59]; decide), if_pos w59] at un
      exact lvTp hb h eo Ag.rf (b0.mv rfl) (u2_self _ _ _ _) (h.wy1 (fun _ _ => rfl) (fun f h1 h2 => by rw [u2n (by omega)])) (fun z hz y => absurd y w) hC (fun f => hmU (by omega) t10 (by rw [w']; exact w) un)
    · have un := u1 (by omega)
      rw [if_pos w59] at un
      have bb : Ag [(1000042, 1000043), (1000063, 1000064)] I' (u2 (u2 I' 114 42 (Int32.ofInt (t : Nat))) 114 63 (u2 I' 114 42 (Int32.ofInt (t : Nat)) 114 63)) := Ag.st (b0.mv rfl) rfl
      exact lvTp hb h eo Ag.rf (bb.mv rfl) (by simp (disch := omega) only [u2n, u2s]) (h.wy1 (fun _ _ => rfl) (fun f h1 h2 => by
        by_cases z : f = 63
        · rw [z, u2_self, u2n (by omega)]
        · rw [u2n (by omega), u2n (by omega)])) (fun z hz y => absurd y w) hC (fun f => hmU (by omega) t10 (by rw [w']; exact w) un)
  have hG : gX7_goesOnTrying σ I R (some (fc t)) = if E t 8 = 0 ∧ I 25 0 = 1 then (gX7_meets σ I R (some (fc t))).bind fun (I21, r22) => if r22 = 0 then gX7_goesOnTrying_b54 σ R I21 (some (fc t)) else some (I21, 1) else gX7_goesOnTrying_b54 σ R I (some (fc t)) := by
    unfold gX7_goesOnTrying
    rw [if_pos g00, c00, if_neg w3, ob_some, if_pos t1, if_neg g82, g8]
    by_cases s : E t 8 = 0
    · rw [if_pos (by rw [s]; rfl)]
      by_cases w1 : I 25 0 = 1
      · rw [if_pos w1, if_pos ⟨s, w1⟩]
      · rw [if_neg w1, if_neg (fun y => w1 y.2)]
    · rw [if_neg (by rw [i_eql (by omega)]; omega), if_neg (fun y => s y.1)]
  by_cases w : I 25 0 = 0
  · -- the body is over as it should
    have hx : E t 3 = E t 4 := md.resolve_left (fun z => z w)
    obtain ⟨y1, y2, y3, y4, -⟩ := pcE hb h hp w hx
    obtain ⟨y4, y5⟩ := y4 (by omega)
    have hC := eC I Ag.rf (by
      rw [(lvC t1 t11 t5).2.2.2.2.2.2.1 eo, hG, if_neg (fun y => absurd y.2 (by rw [w]; decide)), bC, if_neg (fun y => absurd y.2 (by rw [w]; decide))])
    have ee : Int32.ofInt ((t + 1 : Nat) : Int) - 1 = Int32.ofInt (t : Nat) := by rw [i_subl]; congr 1; omega
    have g : ¬ (Int32.ofInt (t : Int) < 0 ∨ 400 ≤ Int32.toNatClampNeg (Int32.ofInt (t : Int))) := by rw [i_gd (by omega)]; exact id
    have em : ∀ f, gX12_run_l95 σ' R' (f + 1) I' J' = gX12_run_l95 σ' R' f (if b < n (E t 1) ∧ op O (E t 1) b = 18 then laM (u2 I' 114 42 (Int32.ofInt (t : Nat))) t (E t 1) b ch else u2 (u2 (u2 I' 114 42 (Int32.ofInt (t : Nat))) 114 57 (Int32.ofInt (E t 1 : Nat))) 114 58 (Int32.ofInt (b : Nat))) J' := fun f => by
      refine hmC (by omega) h.1.2.2 hb t6 y5 t10 y3 y1 y2 y4 ?_
      have BH := (a6 (u2 I' 114 42 (Int32.ofInt (t : Nat))) (b0.mv rfl) (u2_self _ _ _ _)).2
      unfold gX12_close
      rw [t10, ee, if_pos g, t41 (by omega), gbN (by omega) m3 (by omega), ob_some]
      try dsimp only
      rw [t10, ee, u2n (b := 114) (j := 57) (by omega), u2n (b := 114) (j := 58) (by omega), y1, y2, iadd1, BH, ob_some]
      by_cases s : E t 8 = 0
      · rw [if_pos (by rw [m3, s]; rfl)]
      · have s1 : E t 8 = 1 := by omega
        rw [if_neg (by rw [m3, s1]; decide), if_pos (by rw [m3, s1]; rfl)]
    by_cases z : b < n (E t 1) ∧ op O (E t 1) b = 18
    · rw [if_pos z] at hC em
      exact lvLast hb h eo hq e8 a1 z.1 z.2 (a4 z) Ag.rf (b0.mv rfl) (h.wy1 (fun _ _ => rfl) (fun f h1 h2 => by rw [u2n (by omega)])) w3 hC em
    · rw [if_neg z] at hC em
      have bb : Ag [(1000042, 1000043), (1000057, 1000065)] I' (u2 (u2 (u2 I' 114 42 (Int32.ofInt (t : Nat))) 114 57 (Int32.ofInt (E t 1 : Nat))) 114 58 (Int32.ofInt (b : Nat))) := Ag.st (Ag.st (Ag.st Ag.rf rfl) rfl) rfl
      refine lvTp hb h eo Ag.rf bb (by simp (disch := omega) only [u2n, u2s]) (h.wy1 (fun _ _ => rfl) (fun f h1 h2 => by simp (disch := omega) only [u2n, u2s])) (PcT (pc := b) h eo hq (by simp (disch := omega) only [u2n, u2s]) (u2_self _ _ _ _) a1.up a2 ?_) hC em
      by_cases zn : b = n (E t 1)
      · exact Or.inl zn
      · exact Or.inr ⟨a3.resolve_left zn, fun y => z ⟨by omega, y⟩⟩
  obtain ⟨I0', e0, u0, u1, -⟩ := unT (σ' := σ') (R' := R') hb h eo w
  subst e0
  have w59 : u2 I' 114 42 (Int32.ofInt (t : Nat)) 114 59 = I 25 0 := by rw [b0 114 59 rfl, w']
  by_cases s : E t 8 = 1
  · -- a CATCH's body
    have un := u1 s
    rw [if_neg (by rw [w59]; exact w3), w59] at un
    have m149 := F3.2.2.2.2.2.1 eo s
    by_cases w1 : I 25 0 = 1
    · rw [if_pos w1, b0 149 t rfl, m149] at un
      obtain ⟨k1, k2, k3, k4⟩ := wy
      have := k3 w1
      have bb : Ag [(1000042, 1000043), (1000063, 1000064)] I' (u2 (u2 I' 114 42 (Int32.ofInt (t : Nat))) 114 63 (V t 11)) := Ag.st (b0.mv rfl) rfl
      refine fin (u2 I 25 4 (V t 11)) _ w (Ag.st Ag.rf rfl) bb (by simp (disch := omega) only [u2n, u2s]) ?_ (u2n (by omega)) w3 ?_ un
      · have x : ∀ k, k ≠ 4 → u2 I 25 4 (V t 11) 25 k = I 25 k := fun k hk => u2n (by omega)
        unfold Wy WyR
        rw [x 0 (by decide), x 1 (by decide), x 2 (by decide), x 3 (by decide), u2_self I, x 5 (by decide), bb 114 59 rfl, bb 114 60 rfl, bb 114 61 rfl, bb 114 62 rfl, u2_self (u2 I' 114 42 (Int32.ofInt (t : Nat))), bb 114 64 rfl]
        exact ⟨k1, k2, fun _ => ⟨this.1, this.2.1, this.2.2.1, rfl⟩, k4⟩
      · rw [(lvC t1 t11 t5).2.2.2.2.2.2.1 eo, hG, if_neg (fun y => by omega), bC, if_pos ⟨s, w1⟩]
    · rw [if_neg w1] at un
      have bb : Ag [(1000042, 1000043), (1000063, 1000064)] I' (u2 (u2 I' 114 42 (Int32.ofInt (t : Nat))) 114 63 (u2 I' 114 42 (Int32.ofInt (t : Nat)) 114 63)) := Ag.st (b0.mv rfl) rfl
      refine fin I _ w Ag.rf bb (by simp (disch := omega) only [u2n, u2s]) (h.wy1 (fun _ _ => rfl) (fun f h1 h2 => by
        by_cases z : f = 63
        · rw [z, u2_self, u2n (by omega)]
        · rw [u2n (by omega), u2n (by omega)])) rfl w3 ?_ un
      rw [(lvC t1 t11 t5).2.2.2.2.2.2.1 eo, hG, if_neg (fun y => w1 y.2), bC, if_neg (fun y => w1 y.2)]
  have s0 : E t 8 = 0 := by omega
  have un := u0 s0
  have k12 : E t 12 = E t 2 ∧ E t 4 + 1 = E q 3 := by
    rcases c10 with z | z | z
    · exact z.2
    · omega
    · omega
  rw [w59] at un
  by_cases w1 : I 25 0 = 1
  case neg =>
    rw [if_neg w1, if_neg w3] at un
    refine fin I _ w Ag.rf (b0.mv rfl) (u2_self _ _ _ _) (h.wy1 (fun _ _ => rfl) (fun f h1 h2 => by rw [u2n (by omega)])) rfl w3 ?_ un
    rw [(lvC t1 t11 t5).2.2.2.2.2.2.1 eo, hG, if_neg (fun y => w1 y.2), bC, if_neg (fun y => w1 y.2)]
  -- a fault in a TRY's body
  rw [if_pos w1] at un
  obtain ⟨F, hF⟩ : ∃ F, FUx = F := ⟨_, rfl⟩
  have hF' : F = 2000000 := by rw [← hF, FUx_eq]
  have k60 : I 25 1 = u2 I' 114 42 (Int32.ofInt (t : Nat)) 114 60 := by rw [b0 114 60 rfl]; exact (wy.2.2.1 w1).1
  have pM : PlM n O A (u2 I' 114 42 (Int32.ofInt (t : Nat))) := h.1.2.2.kp (b0.kp rfl)
  obtain ⟨mk, bk, z1, z2⟩ := catches (σ := σ) (R := R) (σ' := σ') (R' := R') h.1.1 pM hb t6 bd t1 g1 k60 (n (E t 1) - E q 3) (E q 3) (by omega)
  have lek := z1.le
  have bkn : bk ≤ n (E t 1) := by
    rcases z2 with ⟨q1, -⟩ | ⟨q1, -⟩
    · omega
    · exact q1
  have mC : ∀ X, gX7_meets_l20 σ R F I (some (fc t)) (Int32.ofInt (E q 3 : Nat)) (Int32.ofInt ((0 : Nat) : Int)) = X → gX7_meets σ I R (some (fc t)) = X := fun X hX => by
    unfold gX7_meets
    rw [ob_some, if_pos t1, g1, g2, endK h.1.1 hb t6 (show E t 2 < n (E t 1) by omega) bd c5, ob_some]
    try dsimp only
    rw [iadd1, show E q 3 - 1 + 1 = E q 3 by omega, hF]
    exact hX
  have mM : ∀ X, gX12_isMet_l9 σ' R' F (u2 I' 114 42 (Int32.ofInt (t : Nat))) (Int32.ofInt (E t 1 : Nat)) (Int32.ofInt (E q 3 : Nat)) = X → gX12_isMet σ' (u2 I' 114 42 (Int32.ofInt (t : Nat))) R' (Int32.ofInt (E t 1 : Nat)) (Int32.ofInt (E t 12 : Nat)) = X := fun X hX => by
    unfold gX12_isMet
    rw [endM pM hb t6 c6 (by omega), ob_some]
    try dsimp only
    rw [iadd1, k12.2, hF]
    exact hX
  rcases z2 with ⟨q1, q2, q3, q4⟩ | ⟨q1, q3, q4⟩
  · -- met
    obtain ⟨ek, mtk, ekn, -⟩ := bd.ex q1 (by omega)
    have cm := mC _ (q3 F 0 (by omega) (by omega))
    have mm := mM _ (q4 F (by omega))
    obtain ⟨K, eK⟩ : ∃ K, u2 (u2 I 5 10 (I 5 10 + 1)) (fc t) 11 (I 25 1) = K := ⟨_, rfl⟩
    obtain ⟨L, eL⟩ : ∃ L, u2 (u2 (u2 (u2 K (fc t) 8 (Int32.ofInt ((1 : Nat) : Int))) (fc t) 3 (Int32.ofInt ((bk + 1 : Nat) : Int))) (fc t) 4 (Int32.ofInt (ek : Nat))) 25 0 0 = L := ⟨_, rfl⟩
    have Kp' : ∀ z k, z ≠ 5 → z ≠ fc t → K z k = I z k := fun z k h1 h2 => by rw [← eK]; simp (disch := omega) only [u2n, u2s]
    have pk : PlC n O A K := ⟨fun p hp => by rw [Kp' 10 p (by omega) (by omega)]; exact h.1.1.1 p hp, fun k hk => by rw [Kp' 11 k (by omega) (by omega), Kp' 12 k (by omega) (by omega), Kp' 13 k (by omega) (by omega), Kp' 14 k (by omega) (by omega)]; exact h.1.1.2 k hk⟩
    have dk : PBd (op O (E t 1)) (n (E t 1)) (fun z => K 15 (40 * E t 1 + z)) := by
      have : (fun z => K 15 (40 * E t 1 + z)) = fun z => I 15 (40 * E t 1 + z) := by
        funext z
        exact Kp' 15 _ (by omega) (by omega)
      rw [this]
      exact bd
    have ep := epC (s := 1) (σ := σ) (c := fc t) pk hb t2 t1 t6 (by rw [← eK]; simp (disch := omega) only [u2n, u2s]; exact g1) q1 dk mtk
    rw [eL] at ep
    have hC : gX7_leave σ I J R (some (fc t)) = some (L, J, R) := by
      rw [(lvC t1 t11 t5).2.2.2.2.2.2.1 eo, hG, if_pos ⟨s0, w1⟩, cm]
      unfold gX7_meets_b73
      rw [if_pos g01, c01, ob_some, if_pos t1]
      try dsimp only
      rw [u2n (by omega), eK, show (1 : Int32) = Int32.ofInt ((1 : Nat) : Int) from rfl, ep, ob_some, ob_some]
      try dsimp only
      rw [if_neg (by decide), ob_some]
      try dsimp only
      rw [if_neg (by decide)]
    obtain ⟨L', eL'⟩ : ∃ L', u2 (u2 (u2 (u2 (puM (u2 (u2 (u2 I' 114 42 (Int32.ofInt (t : Nat))) 114 57 (Int32.ofInt (E t 1 : Nat))) 114 58 (Int32.ofInt (bk : Nat))) t 17 ch) 149 t (I' 114 60)) 114 67 (I' 114 67 + 1)) 114 59 0) 114 58 (Int32.ofInt ((bk + 1 : Nat) : Int)) = L' := ⟨_, rfl⟩
    have ee : Int32.ofInt ((t + 1 : Nat) : Int) - 1 = Int32.ofInt (t : Nat) := by rw [i_subl]; congr 1; omega
    have gp : ¬ (Int32.ofInt (t : Int) < 0 ∨ 400 ≤ t) := by rw [i_ltl (by omega)]; omega
    have hM : gX12_unwind σ' I' J' R' = some (L', J') := by
      rw [un, mm]
      unfold gX12_isMet_b62
      try dsimp only
      rw [puI (t := t) (ch := ch) (by simp (disch := omega) only [u2n, u2s]) (by omega) (by simp (disch := omega) only [u2n, u2s]; exact h54), ob_some]
      try dsimp only
      have p42 : puM (u2 (u2 (u2 I' 114 42 (Int32.ofInt (t : Nat))) 114 57 (Int32.ofInt (E t 1 : Nat))) 114 58 (Int32.ofInt (bk : Nat))) t 17 ch 114 42 = Int32.ofInt ((t + 1 : Nat) : Int) := by unfold puM; simp (disch := omega) only [u2n, u2s]
      have p60 : puM (u2 (u2 (u2 I' 114 42 (Int32.ofInt (t : Nat))) 114 57 (Int32.ofInt (E t 1 : Nat))) 114 58 (Int32.ofInt (bk : Nat))) t 17 ch 114 60 = I' 114 60 := by unfold puM; simp (disch := omega) only [u2n, u2s]
      have p67 : puM (u2 (u2 (u2 I' 114 42 (Int32.ofInt (t : Nat))) 114 57 (Int32.ofInt (E t 1 : Nat))) 114 58 (Int32.ofInt (bk : Nat))) t 17 ch 114 67 = I' 114 67 := by unfold puM; simp (disch := omega) only [u2n, u2s]
      have p58 : puM (u2 (u2 (u2 I' 114 42 (Int32.ofInt (t : Nat))) 114 57 (Int32.ofInt (E t 1 : Nat))) 114 58 (Int32.ofInt (bk : Nat))) t 17 ch 114 58 = Int32.ofInt (bk : Nat) := by unfold puM; simp (disch := omega) only [u2n, u2s]
      rw [p42, ee, t41 (by omega), if_pos gp, p60, u2n (b := 114) (j := 67) (by omega), p67, u2n (b := 114) (j := 58) (by omega), u2n (b := 114) (j := 58) (by omega), u2n (b := 114) (j := 58) (by omega), p58, iadd1, eL', ob_some]
      try dsimp only
      rw [if_neg n10]
    have hI : ∀ k, inW [(5, 6), (25, 26), (202, 1000000)] (key (fc t) k) = true := fun k => inF t2 (by omega) (by decide)
    have aL : Ag [(5, 6), (25, 26), (202, 1000000)] I L := by
      rw [← eL, ← eK]
      exact Ag.st (Ag.st (Ag.st (Ag.st (Ag.st (Ag.st Ag.rf rfl) (hI _)) (hI _)) (hI _)) (hI _)) rfl
    have bL : Ag [(143, 154), (1000042, 1000043), (1000057, 1000069)] I' L' := by
      rw [← eL']
      unfold puM
      exact Ag.st (Ag.st (Ag.st (Ag.st (Ag.st (Ag.st (Ag.st (Ag.st (Ag.st (Ag.st (Ag.st (Ag.st (Ag.st Ag.rf rfl) rfl) rfl) rfl) rfl) rfl) rfl) rfl) rfl) rfl) rfl) rfl) rfl
    refine lvPart (s := 1) (I1 := L) (I1' := L') (V1 := u2 V t 11 (I 25 1)) hb h eo hq (Or.inl rfl) (by omega) z1 q1 q2 mtk aL (fun z h1 h2 h3 => ?_) (by rw [← eL, ← eK]; simp (disch := omega) only [u2n, u2s]) (fun f h1 h2 h3 h4 => by rw [← eL, ← eK]; simp (disch := omega) only [u2n, u2s]) (by rw [← eL]; simp (disch := omega) only [u2n, u2s]) (by rw [← eL]; simp (disch := omega) only [u2n, u2s]) (by rw [← eL]; simp (disch := omega) only [u2n, u2s]) (by rw [u2_self V, ← eL, ← eK]; simp (disch := omega) only [u2n, u2s]) (fun k hk => ?_) (fun f h1 h2 => u2n (by omega)) (fun j f hj => u2n (by omega)) bL (fun z j h1 h2 h3 => ?_) ?_ ?_ ?_ (fun _ => ?_) (fun z => by omega) ?_ ?_ ?_ ?_ ?_ hC (fun f => hmU (by omega) t10 (by rw [w']; exact w) hM)
    · funext k
      rw [← eL, ← eK]
      simp (disch := omega) only [u2n, u2s]
    · rw [u2n (f := V) (by omega), ← eL, ← eK]
      simp (disch := omega) only [u2n, u2s]
      exact wt k hk
    · rw [← eL']; unfold puM; simp (disch := omega) only [u2n, u2s]
    · rw [← eL']; unfold puM; simp (disch := omega) only [u2n, u2s]; rfl
    · rw [← eL']; unfold puM; simp (disch := omega) only [u2n, u2s]
    · rw [← eL']; unfold puM; simp (disch := omega) only [u2n, u2s]
    · rw [u2_self V, ← eL']; unfold puM; simp (disch := omega) only [u2n, u2s]; exact (wy.2.2.1 w1).1.symm
    · obtain ⟨d1, d2, d3, d4, d5, d6⟩ := h.2.2.2.2.2.1
      have L5 : ∀ f, f ≠ 10 → L 5 f = I 5 f := fun f hf => by rw [← eL, ← eK]; simp (disch := omega) only [u2n, u2s]
      have L10 : L 5 10 = I 5 10 + 1 := by rw [← eL, ← eK]; simp (disch := omega) only [u2n, u2s]
      have m67 : L' 114 67 = I' 114 67 + 1 := by rw [← eL']; unfold puM; simp (disch := omega) only [u2n, u2s]
      have m5 : ∀ f, 65 ≤ f → f ≤ 70 → f ≠ 67 → L' 114 f = I' 114 f := fun f h1 h2 h3 => by rw [← eL']; unfold puM; simp (disch := omega) only [u2n, u2s]
      unfold Cnt
      rw [L5 9 (by decide), L5 8 (by decide), L10, L5 11 (by decide), L5 12 (by decide), L5 13 (by decide), aL 4 13 rfl, aL 7 1 rfl, m5 65 (by omega) (by omega) (by omega), m5 66 (by omega) (by omega) (by omega), m67, m5 68 (by omega) (by omega) (by omega), m5 69 (by omega) (by omega) (by omega), m5 70 (by omega) (by omega) (by omega), bL 114 1 rfl, bL 114 24 rfl]
      refine ⟨d1, d2, ⟨by rw [d3.1], d3.2⟩, fun k hk => by rw [aL 19 k rfl, aL 20 k rfl, bL 140 k rfl, bL 141 k rfl]; exact d4 k hk, ?_, d6.1, d6.2.1, fun k hk => by rw [aL 8 k rfl, bL 129 k rfl]; exact d6.2.2 k hk⟩
      rw [← eL']; unfold puM; simp (disch := omega) only [u2n, u2s]
    · rw [← eL]; simp (disch := omega) only [u2n, u2s]
    · rw [← eL']; unfold puM; simp (disch := omega) only [u2n, u2s]
    · rw [← eL']; unfold puM; simp (disch := omega) only [u2n, u2s]
    · rw [← eL']; unfold puM; simp (disch := omega) only [u2n, u2s]
  · -- not met
    rw [mM _ (q4 F (by omega)), ob_some] at un
    try dsimp only at un
    rw [if_pos rfl, w59, if_neg w3] at un
    refine fin I _ w Ag.rf (b0.mv rfl) (u2_self _ _ _ _) (h.wy1 (fun _ _ => rfl) (fun f h1 h2 => by rw [u2n (by omega)])) rfl w3 ?_ un
    rw [(lvC t1 t11 t5).2.2.2.2.2.2.1 eo, hG, if_pos ⟨s0, w1⟩, mC _ (q3 F 0 (by omega) (by omega)), ob_some]
    try dsimp only
    rw [if_pos rfl, bC, if_neg (fun y => by omega)]
