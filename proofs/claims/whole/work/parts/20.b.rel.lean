/-! ===== between two calls ===== -/
theorem GWalk.kq {n : Nat} {I I' : Nat → Nat → Int32} (h : GWalk n I) (e : ∀ k, I' 133 k = I 133 k) (f : I' 114 32 = I 114 32) : GWalk n I' := by
  obtain ⟨W, h1, h2, h3⟩ := h
  exact ⟨W, h1, by rw [f]; exact h2, fun t ht => by rw [e]; exact h3 t ht⟩
theorem GWalk.kp {n : Nat} {I I' : Nat → Nat → Int32} (h : GWalk n I) (a : Kp [(133, 134), (1000032, 1000033)] I I') : GWalk n I' := h.kq (fun k => a 133 k rfl) (a 114 32 rfl)
theorem GWalk.up {n : Nat} {I : Nat → Nat → Int32} (h : GWalk n I) : GWalk (n + 1) I := by
  obtain ⟨W, h1, h2, h3⟩ := h
  exact ⟨W, by omega, h2, h3⟩
theorem GPart.kp {D D' : Nat → Nat → UInt64} (h : GPart D) (a : Kp [(1000094, 1000095)] D D') : GPart D' := by
  unfold GPart
  rw [a 114 94 rfl]
  exact h
theorem GThing.ag {σ : Shp} {W W' : List (Nat × Nat)} {I I' : Nat → Nat → Int32} {J J' : Nat → Nat → Int64} {R : Nat → Nat → Option Nat} (h : GThing σ I J R) (hn : 198 ≤ nxx σ ∧ nxx σ ≤ 900000) (a : Ag W I I') (b : Ag W' J J') (d : disW [(6, 7), (202, 1000000), (2000012, 2000013)] W = true) (e : disW KThM W = true) (d' : disW [(6, 7), (202, 1000000), (2000012, 2000013)] W' = true) (e' : disW KThM W' = true) : GThing σ I' J' R := by
  obtain ⟨G, C, N, hg, hc, hm⟩ := h
  exact ⟨G, C, N, hg, (hc.ag hn a Ag.rf Ag.rf d).ag hn Ag.rf b Ag.rf d', hm.kp (a.kp e) (b.kp e')⟩
def RelS (n : Nat) (σ : Shp) (I : Nat → Nat → Int32) (J : Nat → Nat → Int64) (R : Nat → Nat → Option Nat) : Prop := Skel σ R ∧ nxx σ ≤ 198 + 1000 * n ∧ slx σ ≤ 900000 + 12000 * n ∧ GFrm σ R ∧ GThing σ I J R
def RelI (n : Nat) (I : Nat → Nat → Int32) : Prop := GScal I ∧ GPlan I ∧ GTrace I ∧ GRan I ∧ GTab I ∧ GBook I ∧ GOff I ∧ GSame I ∧ GWalk n I
def RelJ (I : Nat → Nat → Int32) (J : Nat → Nat → Int64) (D : Nat → Nat → UInt64) : Prop := GStore I J ∧ GFeed I J ∧ GPest I J ∧ GHouse I J D ∧ GPart D
/-- class and model after n calls -/
def Rel (n : Nat) (σ : Shp) (I : Nat → Nat → Int32) (J : Nat → Nat → Int64) (D : Nat → Nat → UInt64) (R : Nat → Nat → Option Nat) : Prop := RelS n σ I J R ∧ RelI n I ∧ RelJ I J D
theorem Rel.sk {n : Nat} {σ : Shp} {I : Nat → Nat → Int32} {J : Nat → Nat → Int64} {D : Nat → Nat → UInt64} {R : Nat → Nat → Option Nat} (h : Rel n σ I J D R) : Skel σ R := h.1.1
theorem Rel.rn {n : Nat} {σ : Shp} {I : Nat → Nat → Int32} {J : Nat → Nat → Int64} {D : Nat → Nat → UInt64} {R : Nat → Nat → Option Nat} (h : Rel n σ I J D R) : nxx σ ≤ 198 + 1000 * n := h.1.2.1
theorem Rel.rs {n : Nat} {σ : Shp} {I : Nat → Nat → Int32} {J : Nat → Nat → Int64} {D : Nat → Nat → UInt64} {R : Nat → Nat → Option Nat} (h : Rel n σ I J D R) : slx σ ≤ 900000 + 12000 * n := h.1.2.2.1
theorem Rel.fr {n : Nat} {σ : Shp} {I : Nat → Nat → Int32} {J : Nat → Nat → Int64} {D : Nat → Nat → UInt64} {R : Nat → Nat → Option Nat} (h : Rel n σ I J D R) : GFrm σ R := h.1.2.2.2.1
theorem Rel.th {n : Nat} {σ : Shp} {I : Nat → Nat → Int32} {J : Nat → Nat → Int64} {D : Nat → Nat → UInt64} {R : Nat → Nat → Option Nat} (h : Rel n σ I J D R) : GThing σ I J R := h.1.2.2.2.2
theorem Rel.sc {n : Nat} {σ : Shp} {I : Nat → Nat → Int32} {J : Nat → Nat → Int64} {D : Nat → Nat → UInt64} {R : Nat → Nat → Option Nat} (h : Rel n σ I J D R) : GScal I := h.2.1.1
theorem Rel.pl {n : Nat} {σ : Shp} {I : Nat → Nat → Int32} {J : Nat → Nat → Int64} {D : Nat → Nat → UInt64} {R : Nat → Nat → Option Nat} (h : Rel n σ I J D R) : GPlan I := h.2.1.2.1
theorem Rel.tr {n : Nat} {σ : Shp} {I : Nat → Nat → Int32} {J : Nat → Nat → Int64} {D : Nat → Nat → UInt64} {R : Nat → Nat → Option Nat} (h : Rel n σ I J D R) : GTrace I := h.2.1.2.2.1
theorem Rel.ra {n : Nat} {σ : Shp} {I : Nat → Nat → Int32} {J : Nat → Nat → Int64} {D : Nat → Nat → UInt64} {R : Nat → Nat → Option Nat} (h : Rel n σ I J D R) : GRan I := h.2.1.2.2.2.1
theorem Rel.ta {n : Nat} {σ : Shp} {I : Nat → Nat → Int32} {J : Nat → Nat → Int64} {D : Nat → Nat → UInt64} {R : Nat → Nat → Option Nat} (h : Rel n σ I J D R) : GTab I := h.2.1.2.2.2.2.1
theorem Rel.bo {n : Nat} {σ : Shp} {I : Nat → Nat → Int32} {J : Nat → Nat → Int64} {D : Nat → Nat → UInt64} {R : Nat → Nat → Option Nat} (h : Rel n σ I J D R) : GBook I := h.2.1.2.2.2.2.2.1
theorem Rel.of {n : Nat} {σ : Shp} {I : Nat → Nat → Int32} {J : Nat → Nat → Int64} {D : Nat → Nat → UInt64} {R : Nat → Nat → Option Nat} (h : Rel n σ I J D R) : GOff I := h.2.1.2.2.2.2.2.2.1
theorem Rel.sa {n : Nat} {σ : Shp} {I : Nat → Nat → Int32} {J : Nat → Nat → Int64} {D : Nat → Nat → UInt64} {R : Nat → Nat → Option Nat} (h : Rel n σ I J D R) : GSame I := h.2.1.2.2.2.2.2.2.2.1
theorem Rel.wa {n : Nat} {σ : Shp} {I : Nat → Nat → Int32} {J : Nat → Nat → Int64} {D : Nat → Nat → UInt64} {R : Nat → Nat → Option Nat} (h : Rel n σ I J D R) : GWalk n I := h.2.1.2.2.2.2.2.2.2.2
theorem Rel.st {n : Nat} {σ : Shp} {I : Nat → Nat → Int32} {J : Nat → Nat → Int64} {D : Nat → Nat → UInt64} {R : Nat → Nat → Option Nat} (h : Rel n σ I J D R) : GStore I J := h.2.2.1
theorem Rel.fe {n : Nat} {σ : Shp} {I : Nat → Nat → Int32} {J : Nat → Nat → Int64} {D : Nat → Nat → UInt64} {R : Nat → Nat → Option Nat} (h : Rel n σ I J D R) : GFeed I J := h.2.2.2.1
theorem Rel.pe {n : Nat} {σ : Shp} {I : Nat → Nat → Int32} {J : Nat → Nat → Int64} {D : Nat → Nat → UInt64} {R : Nat → Nat → Option Nat} (h : Rel n σ I J D R) : GPest I J := h.2.2.2.2.1
theorem Rel.ho {n : Nat} {σ : Shp} {I : Nat → Nat → Int32} {J : Nat → Nat → Int64} {D : Nat → Nat → UInt64} {R : Nat → Nat → Option Nat} (h : Rel n σ I J D R) : GHouse I J D := h.2.2.2.2.2.1
theorem Rel.pa {n : Nat} {σ : Shp} {I : Nat → Nat → Int32} {J : Nat → Nat → Int64} {D : Nat → Nat → UInt64} {R : Nat → Nat → Option Nat} (h : Rel n σ I J D R) : GPart D := h.2.2.2.2.2.2
/-- nothing changed -/
theorem Rel.up {n : Nat} {σ : Shp} {I : Nat → Nat → Int32} {J : Nat → Nat → Int64} {D : Nat → Nat → UInt64} {R : Nat → Nat → Option Nat} (h : Rel n σ I J D R) : Rel (n + 1) σ I J D R := ⟨⟨h.sk, by have := h.rn; omega, by have := h.rs; omega, h.fr, h.th⟩, ⟨h.sc, h.pl, h.tr, h.ra, h.ta, h.bo, h.of, h.sa, h.wa.up⟩, h.2.2⟩
theorem Rel.n9 {n : Nat} {σ : Shp} {I : Nat → Nat → Int32} {J : Nat → Nat → Int64} {D : Nat → Nat → UInt64} {R : Nat → Nat → Option Nat} (h : Rel n σ I J D R) (hn : n < 512) : nxx σ + 200 ≤ 900000 ∧ nxx σ + 3 ≤ 900000 ∧ nxx σ ≤ 900000 ∧ nxx σ ≤ 700000 ∧ (198 ≤ nxx σ ∧ nxx σ ≤ 900000) := by
  have a := h.rn
  have b := h.sk.1
  omega
theorem ar_up {n a b c : Nat} (h : b ≤ 900000 + 12000 * n) (g : a ≤ b + c) (hc : c ≤ 12000) : a ≤ 900000 + 12000 * (n + 1) := by omega
theorem gr_up {n : Nat} {σ σ1 : Shp} (h0 : nxx σ ≤ 198 + 1000 * n) (h1 : slx σ ≤ 900000 + 12000 * n) (g : Grow σ σ1) : nxx σ1 ≤ 198 + 1000 * (n + 1) ∧ slx σ1 ≤ 900000 + 12000 * (n + 1) := ⟨by have := g.2.1; omega, ar_up h1 g.2.2 (Nat.le_of_ble_eq_true rfl)⟩
set_option maxRecDepth 50000 in
theorem rn_up {n : Nat} {σ σ1 : Shp} (h0 : nxx σ ≤ 198 + 1000 * n) (h1 : slx σ ≤ 900000 + 12000 * n) (q5 : nxx σ1 ≤ nxx σ + 700) (q6 : slx σ1 ≤ slx σ + 6000) : nxx σ1 ≤ 198 + 1000 * (n + 1) ∧ slx σ1 ≤ 900000 + 12000 * (n + 1) := ⟨by clear q6 h1; omega, ar_up h1 q6 (Nat.le_of_ble_eq_true rfl)⟩
