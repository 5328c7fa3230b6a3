-- Where the class's objects lie: A c is the address of code c (NOTES.md has the codes); ex q: question place q has been made
def QL (S : gS) (A : Nat → Nat) (b : Nat) : Prop :=
  (S.1 (A b) = 4 ∧ S.2.2 (A b) 0 = some (A (b + 1)) ∧ S.2.2 (A b) 1 = some (A (b + 2)) ∧ S.2.2 (A b) 2 = some (A (b + 3)) ∧ S.2.2 (A b) 3 = some (A (b + 4)) ∧ S.2.2 (A b) 4 = some (A (b + 5))) ∧
  (S.1 (A (b + 1)) = 21 ∧ S.2.1 (A (b + 1)) = 8) ∧
  (S.1 (A (b + 2)) = 27 ∧ S.2.1 (A (b + 2)) = 8) ∧
  (∀ l, l < 8 → S.2.2 (A (b + 2)) l = some (A (b + 18 + l)) ∧ S.1 (A (b + 18 + l)) = 7 ∧ S.2.2 (A (b + 18 + l)) 0 = some (A (b + 26 + l)) ∧ S.1 (A (b + 26 + l)) = 21 ∧ S.2.1 (A (b + 26 + l)) = 500) ∧
  (S.1 (A (b + 3)) = 5 ∧ S.2.2 (A (b + 3)) 0 = some (A (b + 6)) ∧ S.2.2 (A (b + 3)) 1 = some (A (b + 7)) ∧ S.2.2 (A (b + 3)) 2 = some (A (b + 8))) ∧
  S.1 (A (b + 4)) = 6 ∧
  (S.1 (A (b + 5)) = 21 ∧ S.2.1 (A (b + 5)) = 3) ∧
  (S.1 (A (b + 6)) = 22 ∧ S.2.1 (A (b + 6)) = 8) ∧
  (S.1 (A (b + 7)) = 28 ∧ S.2.1 (A (b + 7)) = 8) ∧
  (∀ l, l < 8 → S.2.2 (A (b + 7)) l = some (A (b + 10 + l)) ∧ S.1 (A (b + 10 + l)) = 21 ∧ S.2.1 (A (b + 10 + l)) = 3) ∧
  (S.1 (A (b + 8)) = 7 ∧ S.2.2 (A (b + 8)) 0 = some (A (b + 9)) ∧ S.1 (A (b + 9)) = 21 ∧ S.2.1 (A (b + 9)) = 64)
def Lay (S : gS) (A : Nat → Nat) (ex : Nat → Bool) : Prop :=
  (∀ c d, A c = A d → c = d) ∧
  (S.1 (A 0) = 8 ∧ S.2.2 (A 0) 0 = some (A 1) ∧ S.2.2 (A 0) 1 = some (A 2) ∧ S.2.2 (A 0) 2 = some (A 3)) ∧
  (S.1 (A 1) = 24 ∧ S.2.1 (A 1) = 8) ∧
  (∀ l, l < 8 → S.2.2 (A 1) l = some (A (8 + l)) ∧ S.1 (A (8 + l)) = 2 ∧ S.2.2 (A (8 + l)) 0 = some (A (16 + l)) ∧ S.1 (A (16 + l)) = 7 ∧ S.2.2 (A (16 + l)) 0 = some (A (24 + l)) ∧ S.1 (A (24 + l)) = 21 ∧ S.2.1 (A (24 + l)) = 500) ∧
  (S.1 (A 2) = 25 ∧ S.2.1 (A 2) = 8) ∧
  (∀ q, q < 8 → (ex q = true → S.2.2 (A 2) q = some (A (300 + 40 * q)) ∧ QL S A (300 + 40 * q)) ∧ (ex q = false → S.2.2 (A 2) q = none)) ∧
  (S.1 (A 3) = 3 ∧ S.2.2 (A 3) 0 = some (A 4) ∧ S.2.2 (A 3) 1 = some (A 5)) ∧
  (S.1 (A 4) = 26 ∧ S.2.1 (A 4) = 97 ∧ S.1 (A 5) = 21 ∧ S.2.1 (A 5) = 97) ∧
  (∀ k, k < 97 → S.2.2 (A 4) k = some (A (32 + k)) ∧ S.1 (A (32 + k)) = 1 ∧ S.2.2 (A (32 + k)) 0 = some (A (129 + k)) ∧ S.1 (A (129 + k)) = 21 ∧ S.2.1 (A (129 + k)) = 64) ∧
  RefL S (A 6) (fun f => A (226 + f)) ∧
  (S.1 (A 7) = 23 ∧ S.2.1 (A 7) = 1)
section LAY
variable {S : gS} {A : Nat → Nat} {ex : Nat → Bool} {I I' : gMI} {J : gMJ}
theorem Lay.inj (h : Lay S A ex) {c d : Nat} (hn : c ≠ d) : A c ≠ A d := fun q => hn (h.1 c d q)
theorem Lay.ref (h : Lay S A ex) : RefL S (A 6) (fun f => A (226 + f)) := h.2.2.2.2.2.2.2.2.2.1
theorem Lay.lg (h : Lay S A ex) {l : Nat} (hl : l < 8) : S.2.2 (A 1) l = some (A (8 + l)) ∧ S.1 (A (8 + l)) = 2 ∧ S.2.2 (A (8 + l)) 0 = some (A (16 + l)) ∧ S.1 (A (16 + l)) = 7 ∧ S.2.2 (A (16 + l)) 0 = some (A (24 + l)) ∧ S.1 (A (24 + l)) = 21 ∧ S.2.1 (A (24 + l)) = 500 := h.2.2.2.1 l hl
theorem Lay.qy (h : Lay S A ex) {q : Nat} (hq : q < 8) (he : ex q = true) : S.2.2 (A 2) q = some (A (300 + 40 * q)) ∧ QL S A (300 + 40 * q) := (h.2.2.2.2.2.1 q hq).1 he
theorem Lay.qn (h : Lay S A ex) {q : Nat} (hq : q < 8) (he : ex q = false) : S.2.2 (A 2) q = none := (h.2.2.2.2.2.1 q hq).2 he
theorem Lay.lt (h : Lay S A ex) {k : Nat} (hk : k < 97) : S.2.2 (A 4) k = some (A (32 + k)) ∧ S.1 (A (32 + k)) = 1 ∧ S.2.2 (A (32 + k)) 0 = some (A (129 + k)) ∧ S.1 (A (129 + k)) = 21 ∧ S.2.1 (A (129 + k)) = 64 := h.2.2.2.2.2.2.2.2.1 k hk
/-- a memory that differs from another at few addresses, by codes -/
theorem cI_frame (h : Lay S A ex) {c w : Nat} (hf : ∀ b, b ≠ A c → b ≠ A w → I' b = I b) : ∀ d, d ≠ c → d ≠ w → cI A I' d = cI A I d := fun d h1 h2 => by
  funext k
  show I' (A d) k = I (A d) k
  rw [hf _ (h.inj h1) (h.inj h2)]
theorem H_needLogger (i : Int32) : (∃ l : Nat, l < 8 ∧ i = nI l ∧ f_H_needLogger S I J i = some 0) ∨ ((i < 0 ∨ (8 : Int32) ≤ i) ∧ f_H_needLogger S I J i = some 1) := by
  rcases pk_ix i (n := 8) (by decide) with h | h | ⟨l, hl, e⟩
  · exact Or.inr ⟨Or.inl h, by rw [f_H_needLogger, if_pos h]; rfl⟩
  · refine Or.inr ⟨Or.inr h, ?_⟩
    rw [f_H_needLogger]
    by_cases h0 : i < 0
    · rw [if_pos h0]; rfl
    · rw [if_neg h0, if_neg (fun q => by
        have a1 := Int32.lt_iff_toInt_lt.mp q
        have a2 := Int32.le_iff_toInt_le.mp h
        have a3 : (nI 8).toInt = (8 : Int32).toInt := rfl
        omega)]; rfl
  · refine Or.inl ⟨l, hl, e, ?_⟩
    rw [f_H_needLogger, e, if_neg (nI_pos (by omega)), if_pos (show nI l < (8 : Int32) from nI_lt hl (by decide))]
theorem M_isLogger_in {l : Nat} (hl : l < 8) : f_M_isLogger S I J (nI l) = some 1 := by
  rw [f_M_isLogger, if_neg (nI_pos (by omega)), if_neg (show ¬ (8 : Int32) ≤ nI l from nI_ge hl (by decide))]; rfl
theorem M_isLogger_out {i : Int32} (h : i < 0 ∨ (8 : Int32) ≤ i) : f_M_isLogger S I J i = some 0 := by
  rw [f_M_isLogger]
  by_cases h0 : i < 0
  · rw [if_pos h0]; rfl
  · rw [if_neg h0, if_pos (h.resolve_left h0)]; rfl
theorem H_loggerOf_in (h : Lay S A ex) {l : Nat} (hl : l < 8) : f_H_loggerOf S I J (A 0) (nI l) = some (0, some (A (8 + l))) := by
  have hn : f_H_needLogger S I J (nI l) = some 0 := by
    rw [f_H_needLogger, if_neg (nI_pos (by omega)), if_pos (show nI l < (8 : Int32) from nI_lt hl (by decide))]
  rw [f_H_loggerOf, hn, Option.bind_some, if_pos rfl, gd_in h.2.1.1, h.2.1.2.1, Option.bind_some, gd_in h.2.2.1.1, gd_in (by rw [h.2.2.1.2]; exact nI_in hl (by decide)), nI_clamp (by omega), (h.lg hl).1]; rfl
theorem H_loggerOf_out {i : Int32} (hi : f_H_needLogger S I J i = some 1) : f_H_loggerOf S I J (A 0) i = some (1, none) := by
  rw [f_H_loggerOf, hi, Option.bind_some, if_neg (by decide)]
end LAY
