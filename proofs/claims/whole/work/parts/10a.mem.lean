-- DRAFT. Memory by codes: A gives each object's address by its code.
def cI (A : Nat → Nat) (I : gMI) : gMI := fun c k => I (A c) k
def cJ (A : Nat → Nat) (J : gMJ) : gMJ := fun c k => J (A c) k
section CM
variable {A : Nat → Nat} {I : gMI} {J : gMJ}
theorem cI_va (hA : ∀ c d, A c = A d → c = d) (c : Nat) (f : Nat → Int32) : cI A (va_up I (A c) f) = va_up (cI A I) c f := by
  funext d k
  unfold cI va_up
  by_cases h : d = c
  · subst h; rw [if_pos rfl, if_pos rfl]
  · rw [if_neg h, if_neg (fun q => h (hA d c q))]
theorem cI_up (hA : ∀ c d, A c = A d → c = d) (c k : Nat) (v : Int32) : cI A (upI I (A c) k v) = upI (cI A I) c k v := cI_va hA c _
theorem cJ_va (hA : ∀ c d, A c = A d → c = d) (c : Nat) (f : Nat → Int64) : cJ A (va_up J (A c) f) = va_up (cJ A J) c f := by
  funext d k
  unfold cJ va_up
  by_cases h : d = c
  · subst h; rw [if_pos rfl, if_pos rfl]
  · rw [if_neg h, if_neg (fun q => h (hA d c q))]
theorem cJ_up (hA : ∀ c d, A c = A d → c = d) (c k : Nat) (v : Int64) : cJ A (upJ J (A c) k v) = upJ (cJ A J) c k v := cJ_va hA c _
end CM
theorem upI_to (I : gMI) (c k : Nat) (v : Int32) (d j : Nat) : upI I c k v d j = if d = c ∧ j = k then v else I d j := by
  unfold upI va_up upd
  by_cases h : d = c
  · subst h
    by_cases h2 : j = k
    · subst h2; simp
    · simp [h2]
  · simp [h]
theorem upJ_to (J : gMJ) (c k : Nat) (v : Int64) (d j : Nat) : upJ J c k v d j = if d = c ∧ j = k then v else J d j := by
  unfold upJ va_up vp_updL
  by_cases h : d = c
  · subst h
    by_cases h2 : j = k
    · subst h2; simp
    · simp [h2]
  · simp [h]
theorem gm_none {α β : Type} {x : Option β} {k : α → Option β} : gm (none : Option α) x k = x := rfl
theorem gm_some {α β : Type} {a : α} {x : Option β} {k : α → Option β} : gm (some a) x k = k a := rfl
theorem bd2_some {α β γ : Type} {a : α} {b : β} {k : α → β → Option γ} : bd2 (some (a, b)) k = k a b := rfl
theorem bd3_some {α β γ δ : Type} {a : α} {b : β} {c : γ} {k : α → β → γ → Option δ} : bd3 (some (a, b, c)) k = k a b c := rfl
theorem bd4_some {α β γ δ ε : Type} {a : α} {b : β} {c : γ} {d : δ} {k : α → β → γ → δ → Option ε} : bd4 (some (a, b, c, d)) k = k a b c d := rfl
theorem bnd_in {α β : Type} {v : α} {k : α → Option β} : bnd v k = k v := rfl
/-- a compare of longs, then a branch -/
theorem lgc_cases (x y : Int64) : (x.toInt < y.toInt ∧ lg_cmp x y = -1) ∨ (x.toInt = y.toInt ∧ lg_cmp x y = 0) ∨ (y.toInt < x.toInt ∧ lg_cmp x y = 1) := by
  unfold lg_cmp
  by_cases h1 : x > y
  · exact Or.inr (Or.inr ⟨Int64.lt_iff_toInt_lt.mp h1, if_pos h1⟩)
  · rw [if_neg h1]
    have h1' : ¬ y.toInt < x.toInt := fun h => h1 (Int64.lt_iff_toInt_lt.mpr h)
    by_cases h2 : x = y
    · exact Or.inr (Or.inl ⟨by rw [h2], if_pos h2⟩)
    · rw [if_neg h2]
      have h2' : ¬ x.toInt = y.toInt := fun h => h2 (Int64.toInt_inj.mp h)
      exact Or.inl ⟨by omega, rfl⟩
theorem lgc_ge (x y : Int64) : 0 ≤ lg_cmp x y ↔ y.toInt ≤ x.toInt := by
  rcases lgc_cases x y with ⟨h, e⟩ | ⟨h, e⟩ | ⟨h, e⟩ <;> rw [e]
  · exact ⟨fun q => absurd q (by decide), fun q => by omega⟩
  · exact ⟨fun _ => by omega, fun _ => by decide⟩
  · exact ⟨fun _ => by omega, fun _ => by decide⟩
theorem lgc_gt (x y : Int64) : 0 < lg_cmp x y ↔ y.toInt < x.toInt := by
  rcases lgc_cases x y with ⟨h, e⟩ | ⟨h, e⟩ | ⟨h, e⟩ <;> rw [e]
  · exact ⟨fun q => absurd q (by decide), fun q => by omega⟩
  · exact ⟨fun q => absurd q (by decide), fun q => by omega⟩
  · exact ⟨fun _ => by omega, fun _ => by decide⟩
theorem lgc_lt (x y : Int64) : lg_cmp x y < 0 ↔ x.toInt < y.toInt := by
  rcases lgc_cases x y with ⟨h, e⟩ | ⟨h, e⟩ | ⟨h, e⟩ <;> rw [e]
  · exact ⟨fun _ => by omega, fun _ => by decide⟩
  · exact ⟨fun q => absurd q (by decide), fun q => by omega⟩
  · exact ⟨fun q => absurd q (by decide), fun q => by omega⟩
theorem lgc_le (x y : Int64) : lg_cmp x y ≤ 0 ↔ x.toInt ≤ y.toInt := by
  rcases lgc_cases x y with ⟨h, e⟩ | ⟨h, e⟩ | ⟨h, e⟩ <;> rw [e]
  · exact ⟨fun _ => by omega, fun _ => by decide⟩
  · exact ⟨fun _ => by omega, fun _ => by decide⟩
  · exact ⟨fun q => absurd q (by decide), fun q => by omega⟩
theorem lgc_eq (x y : Int64) : lg_cmp x y = 0 ↔ x = y := by
  rcases lgc_cases x y with ⟨h, e⟩ | ⟨h, e⟩ | ⟨h, e⟩ <;> rw [e]
  · exact ⟨fun q => absurd q (by decide), fun q => by rw [q] at h; omega⟩
  · exact ⟨fun _ => Int64.toInt_inj.mp h, fun _ => rfl⟩
  · exact ⟨fun q => absurd q (by decide), fun q => by rw [q] at h; omega⟩
