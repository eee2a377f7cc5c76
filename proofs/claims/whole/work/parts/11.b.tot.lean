/-! ===== what surely comes ===== -/
def Tot {α : Type} (e : Option α) (P : α → Prop) : Prop := ∃ x, e = some x ∧ P x
theorem Tot_some {α : Type} {x : α} {P : α → Prop} : Tot (some x) P = P x := propext ⟨fun ⟨_, h, p⟩ => (by cases h; exact p), fun p => ⟨x, rfl, p⟩⟩
theorem Tot_none {α : Type} {P : α → Prop} : Tot none P = False := propext ⟨fun ⟨_, h, _⟩ => (by cases h), False.elim⟩
theorem Tot_ite {α : Type} {c : Prop} [Decidable c] {A B : Option α} {P : α → Prop} : Tot (if c then A else B) P = ((c → Tot A P) ∧ (¬ c → Tot B P)) := by
  by_cases h : c
  · rw [if_pos h]; exact propext ⟨fun q => ⟨fun _ => q, fun q2 => absurd h q2⟩, fun q => q.1 h⟩
  · rw [if_neg h]; exact propext ⟨fun q => ⟨fun q2 => absurd q2 h, fun _ => q⟩, fun q => q.2 h⟩
theorem Tot_bind {α β : Type} {e : Option α} {k : α → Option β} {P : β → Prop} : Tot (e.bind k) P = Tot e (fun x => Tot (k x) P) := by
  cases e with
  | none => exact propext ⟨fun ⟨_, h, _⟩ => (by cases h), fun ⟨_, h, _⟩ => (by cases h)⟩
  | some a => exact propext ⟨fun ⟨y, h, p⟩ => ⟨a, rfl, y, h, p⟩, fun ⟨_, h, y, q, p⟩ => (by cases h; exact ⟨y, q, p⟩)⟩
theorem Tot_onl {β : Type} {e : Option Nat} {A : Option β} {B : Nat → Option β} {P : β → Prop} : Tot (onl e A B) P = ((e = none → Tot A P) ∧ (∀ a, e = some a → Tot (B a) P)) := by
  cases e with
  | none => exact propext ⟨fun q => ⟨fun _ => q, fun _ h => (by cases h)⟩, fun q => q.1 rfl⟩
  | some a => exact propext ⟨fun q => ⟨fun h => (by cases h), fun _ h => (by cases h; exact q)⟩, fun q => q.2 a rfl⟩
theorem Tot.mono {α : Type} {e : Option α} {P Q : α → Prop} (h : Tot e P) (k : ∀ x, P x → Q x) : Tot e Q := by
  obtain ⟨x, h1, h2⟩ := h
  exact ⟨x, h1, k x h2⟩
theorem Tot.ok {α : Type} {e : Option α} {P Q : α → Prop} (h : Tot e P) (k : Ok e Q) : Tot e (fun x => P x ∧ Q x) := by
  obtain ⟨x, h1, h2⟩ := h
  exact ⟨x, h1, h2, k x h1⟩
theorem tt {α β : Type} {e : Option α} {f : α → Option β} {P : α → β → Prop} (x : α) (y : β) (h1 : e = some x) (h2 : f x = some y) (h3 : P x y) : Tot e (fun t => Tot (f t) (fun t2 => P t t2)) := ⟨x, h1, y, h2, h3⟩
