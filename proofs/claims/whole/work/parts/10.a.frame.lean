/-! ===== frames: which cells a function may change ===== -/
def inW (W : List (Nat × Nat)) (a : Nat) : Bool := W.any fun t => Nat.ble t.1 a && Nat.blt a t.2
def Ok {α : Type} (e : Option α) (P : α → Prop) : Prop := ∀ r, e = some r → P r
def Ag {α : Type} (W : List (Nat × Nat)) (f g : Nat → Nat → α) : Prop := ∀ a, inW W a = false → g a = f a
def Cin (W : List (Nat × Nat)) (s : Option Nat) : Prop := ∃ c, s = some c ∧ inW W c = true
theorem inW_iff {W : List (Nat × Nat)} {a : Nat} : inW W a = true ↔ ∃ t ∈ W, t.1 ≤ a ∧ a < t.2 := by
  unfold inW
  rw [List.any_eq_true]
  constructor
  · rintro ⟨t, ht, h⟩
    rw [Bool.and_eq_true] at h
    exact ⟨t, ht, Nat.le_of_ble_eq_true h.1, Nat.le_of_ble_eq_true h.2⟩
  · rintro ⟨t, ht, h1, h2⟩
    refine ⟨t, ht, ?_⟩
    rw [Bool.and_eq_true]
    exact ⟨Nat.ble_eq_true_of_le h1, Nat.ble_eq_true_of_le h2⟩
def subW (L M : List (Nat × Nat)) : Bool := L.all fun t => M.any fun u => Nat.beq t.1 u.1 && Nat.beq t.2 u.2
theorem subW_mem {L M : List (Nat × Nat)} (h : subW L M = true) : ∀ t ∈ L, t ∈ M := by
  intro t ht
  have h1 := List.all_eq_true.mp h t ht
  rw [List.any_eq_true] at h1
  obtain ⟨u, hu, h2⟩ := h1
  rw [Bool.and_eq_true] at h2
  have e1 := Nat.eq_of_beq_eq_true h2.1
  have e2 := Nat.eq_of_beq_eq_true h2.2
  have : t = u := Prod.ext e1 e2
  rw [this]; exact hu
theorem inW_mo {L M : List (Nat × Nat)} {a : Nat} (h : subW L M = true) (q : inW L a = true) : inW M a = true := by
  obtain ⟨t, ht, h1⟩ := inW_iff.mp q
  exact inW_iff.mpr ⟨t, subW_mem h t ht, h1⟩
theorem inW_r {L : List (Nat × Nat)} {lo n t : Nat} (h : subW [(lo, lo + n)] L = true) (q : t < n) : inW L (lo + t) = true :=
  inW_mo h (inW_iff.mpr ⟨(lo, lo + n), List.mem_singleton.mpr rfl, Nat.le_add_right _ _, Nat.add_lt_add_left q _⟩)
theorem inW_e {L : List (Nat × Nat)} {a c : Nat} (e : some c = some a) (q : inW L c = true) : inW L a = true := by cases e; exact q
theorem Cin.get {W : List (Nat × Nat)} {s : Option Nat} {a : Nat} (h : Cin W s) (e : s = some a) : inW W a = true := by
  obtain ⟨c, h1, h2⟩ := h
  rw [h1] at e; cases e; exact h2
theorem Cin.mo {L M : List (Nat × Nat)} {s : Option Nat} (h : subW L M = true) (q : Cin L s) : Cin M s := by
  obtain ⟨c, h1, h2⟩ := q
  exact ⟨c, h1, inW_mo h h2⟩
theorem Ag.rf {α : Type} {W : List (Nat × Nat)} {f : Nat → Nat → α} : Ag W f f := fun _ _ => rfl
theorem Ag.tr {α : Type} {W : List (Nat × Nat)} {f g h : Nat → Nat → α} (p : Ag W f g) (q : Ag W g h) : Ag W f h := fun a ha => (q a ha).trans (p a ha)
theorem Ag.mo {α : Type} {L M : List (Nat × Nat)} {f g : Nat → Nat → α} (h : subW L M = true) (p : Ag L f g) : Ag M f g := fun a ha => p a (by
  cases e : inW L a with
  | false => rfl
  | true => rw [inW_mo h e] at ha; cases ha)
theorem Ag.st {α : Type} {W : List (Nat × Nat)} {f g : Nat → Nat → α} {c k : Nat} {v : α} (p : Ag W f g) (h : inW W c = true) : Ag W f (u2 g c k v) := fun a ha => by
  refine (u2_off ?_).trans (p a ha)
  intro e
  rw [e, h] at ha; cases ha
theorem Ok_n {α : Type} {P : α → Prop} : Ok none P := fun _ h => by cases h
theorem Ok_e {α : Type} {e : Option α} {P : α → Prop} (h : e = none) : Ok e P := fun _ q => by rw [h] at q; cases q
theorem Ok_s {α : Type} {x : α} {P : α → Prop} (h : P x) : Ok (some x) P := fun r q => by cases q; exact h
theorem Ok_g {α : Type} {c : Prop} [Decidable c] {A : Option α} {P : α → Prop} (h : c → Ok A P) : Ok (if c then A else none) P := fun r q => by
  by_cases hc : c
  · rw [if_pos hc] at q; exact h hc r q
  · rw [if_neg hc] at q; cases q
theorem Ok_i {α : Type} {c : Prop} [Decidable c] {A B : Option α} {P : α → Prop} (h : c → Ok A P) (k : ¬ c → Ok B P) : Ok (if c then A else B) P := fun r q => by
  by_cases hc : c
  · rw [if_pos hc] at q; exact h hc r q
  · rw [if_neg hc] at q; exact k hc r q
theorem Ok_b {α β : Type} {e : Option α} {k : α → Option β} {Q : α → Prop} {P : β → Prop} (h : Ok e Q) (g : ∀ x, Q x → Ok (k x) P) : Ok (e.bind k) P := fun r q => by
  obtain ⟨a, h1, h2⟩ := ob q
  exact g a (h a h1) r h2
theorem Ok_t {α β : Type} {e : Option α} {k : α → Option β} {P : β → Prop} (g : ∀ x, Ok (k x) P) : Ok (e.bind k) P := fun r q => by
  obtain ⟨a, -, h2⟩ := ob q
  exact g a r h2
theorem Ok_bc {α β : Type} {e : Option α} {k : α → Option β} {P : β → Prop} (g : ∀ x, e = some x → Ok (k x) P) : Ok (e.bind k) P := fun r q => by
  obtain ⟨a, h1, h2⟩ := ob q
  exact g a h1 r h2
theorem Ok_m {α : Type} {e : Option α} {Q P : α → Prop} (h : Ok e Q) (g : ∀ x, Q x → P x) : Ok e P := fun r q => g r (h r q)
theorem Ok_o {β : Type} {e : Option Nat} {A : Option β} {B : Nat → Option β} {P : β → Prop} (h : e = none → Ok A P) (g : ∀ x, e = some x → Ok (B x) P) : Ok (onl e A B) P := by
  cases e with
  | none => exact h rfl
  | some a => exact g a rfl
theorem Cin.get1 {a c : Nat} {s : Option Nat} (h : Cin [(c, c + 1)] s) (e : s = some a) : a = c := by
  obtain ⟨t, ht, h1, h2⟩ := inW_iff.mp (h.get e)
  rw [List.mem_singleton] at ht
  subst ht
  exact Nat.le_antisymm (Nat.le_of_lt_succ h2) h1
