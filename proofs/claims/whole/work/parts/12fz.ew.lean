-- the same with the look-up of a reference ahead of what follows it
theorem ob_h {α β : Type} {o : Option α} {a : α} {k : α → Option β} (h : o = some a) : Option.bind o k = k a := by rw [h]; rfl
theorem b2_h {α β γ : Type} {o : Option (α × β)} {a : α} {b : β} {k : α → β → Option γ} (h : o = some (a, b)) : bd2 o k = k a b := by rw [h]; rfl
theorem b3_h {α β γ δ : Type} {o : Option (α × β × γ)} {a : α} {b : β} {c : γ} {k : α → β → γ → Option δ} (h : o = some (a, b, c)) : bd3 o k = k a b c := by rw [h]; rfl
theorem b4_h {α β γ δ ε : Type} {o : Option (α × β × γ × δ)} {a : α} {b : β} {c : γ} {d : δ} {k : α → β → γ → δ → Option ε} (h : o = some (a, b, c, d)) : bd4 o k = k a b c d := by rw [h]; rfl
section EW
variable {S : gS} {A : Nat → Nat} {ex : Nat → Bool} {α : Type} {k : Nat → Option α}
theorem ew_mr (hL : Lay S A ex) {f : Nat} (h1 : f < 37 ∧ f ≠ 0 ∧ f ≠ 4 ∧ f ≠ 32) : Option.bind (S.2.2 (A 6) f) k = k (A (226 + f)) := ob_h (ev_mr hL h1)
theorem ew_00 (hL : Lay S A ex) : Option.bind (S.2.2 (A 0) 0) k = k (A 1) := ob_h (ev_00 hL)
theorem ew_01 (hL : Lay S A ex) : Option.bind (S.2.2 (A 0) 1) k = k (A 2) := ob_h (ev_01 hL)
theorem ew_02 (hL : Lay S A ex) : Option.bind (S.2.2 (A 0) 2) k = k (A 3) := ob_h (ev_02 hL)
theorem ew_1r (hL : Lay S A ex) {l : Nat} (h : l < 8) : Option.bind (S.2.2 (A 1) l) k = k (A (8 + l)) := ob_h (ev_1r hL h)
theorem ew_lr (hL : Lay S A ex) {l : Nat} (h : l < 8) : Option.bind (S.2.2 (A (8 + l)) 0) k = k (A (16 + l)) := ob_h (ev_lr hL h)
theorem ew_30 (hL : Lay S A ex) : Option.bind (S.2.2 (A 3) 0) k = k (A 4) := ob_h (ev_30 hL)
theorem ew_31 (hL : Lay S A ex) : Option.bind (S.2.2 (A 3) 1) k = k (A 5) := ob_h (ev_31 hL)
theorem ew_4r (hL : Lay S A ex) {n : Nat} (h : n < 97) : Option.bind (S.2.2 (A 4) n) k = k (A (32 + n)) := ob_h (ev_4r hL h)
theorem ew_ltr (hL : Lay S A ex) {n : Nat} (h : n < 97) : Option.bind (S.2.2 (A (32 + n)) 0) k = k (A (129 + n)) := ob_h (ev_ltr hL h)
theorem gd_m (hL : Lay S A ex) {o : Option α} : gd (S.1 (A 6) = 9) o = o := gd_in (ev_m hL)
theorem gd_0 (hL : Lay S A ex) {o : Option α} : gd (S.1 (A 0) = 8) o = o := gd_in (ev_0 hL)
end EW
