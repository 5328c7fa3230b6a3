-- Rows by which simp carries out straight code (side conditions by omega)
theorem gd_t {α : Type} {k : Option α} : gd True k = k := if_pos trivial
theorem ev_nle {a b : Nat} (h : a < b) : (b ≤ a) = False := eq_false (by omega)
theorem ev_le {a b : Nat} (h : b ≤ a) : (b ≤ a) = True := eq_true h
theorem ev_lt {a b : Nat} (h : a < b) : (a < b) = True := eq_true h
theorem ev_nlt {a b : Nat} (h : b ≤ a) : (a < b) = False := eq_false (by omega)
theorem ev_ne {a b : Nat} (h : a ≠ b) : (a = b) = False := eq_false h
theorem ev_eq {a b : Nat} (h : a = b) : (a = b) = True := eq_true h
theorem ev_ng {a : Nat} (h : a < 2 ^ 31) : (nI a < 0) = False := eq_false (nI_pos h)
theorem ev_ge0 {a : Nat} (h : a < 2 ^ 31) : (0 ≤ nI a) = True := eq_true (nI_pos' h)
theorem ev_L1 {a b : Nat} (ha : a < 2 ^ 31) (hb : b < 2 ^ 31) : (nI a ≤ nI b) = (a ≤ b) := propext (nI_leI ha hb)
theorem ev_L2 {a b : Nat} (ha : a < 2 ^ 31) (hb : b < 2 ^ 31) : (nI a < nI b) = (a < b) := propext (nI_ltI ha hb)
theorem ev_L3 {a b : Nat} (ha : a < 2 ^ 31) (hb : b < 2 ^ 31) : nI a = nI b ↔ a = b := nI_eq ha hb
theorem ev_K1 {a n : Nat} (ha : a < 2 ^ 31) (hb : (OfNat.ofNat n : Nat) < 2 ^ 31) : (nI a ≤ (no_index (OfNat.ofNat n : Int32))) = (a ≤ (OfNat.ofNat n : Nat)) := propext (nI_leI ha hb)
theorem ev_K2 {a n : Nat} (ha : a < 2 ^ 31) (hb : (OfNat.ofNat n : Nat) < 2 ^ 31) : ((no_index (OfNat.ofNat n : Int32)) ≤ nI a) = ((OfNat.ofNat n : Nat) ≤ a) := propext (nI_leI hb ha)
theorem ev_K3 {a n : Nat} (ha : a < 2 ^ 31) (hb : (OfNat.ofNat n : Nat) < 2 ^ 31) : (nI a < (no_index (OfNat.ofNat n : Int32))) = (a < (OfNat.ofNat n : Nat)) := propext (nI_ltI ha hb)
theorem ev_K4 {a n : Nat} (ha : a < 2 ^ 31) (hb : (OfNat.ofNat n : Nat) < 2 ^ 31) : ((no_index (OfNat.ofNat n : Int32)) < nI a) = ((OfNat.ofNat n : Nat) < a) := propext (nI_ltI hb ha)
theorem ev_K5 {a n : Nat} (ha : a < 2 ^ 31) (hb : (OfNat.ofNat n : Nat) < 2 ^ 31) : nI a = (no_index (OfNat.ofNat n : Int32)) ↔ a = (OfNat.ofNat n : Nat) := nI_eq ha hb
theorem ev_a1 {a n : Nat} : nI a + (no_index (OfNat.ofNat n : Int32)) = nI (a + (OfNat.ofNat n : Nat)) := nI_add a n
theorem ev_m1 {a n : Nat} : (no_index (OfNat.ofNat n : Int32)) * nI a = nI ((OfNat.ofNat n : Nat) * a) := pk_mul n a
theorem ev_s1 {a n : Nat} (h : (OfNat.ofNat n : Nat) ≤ a) : nI a - (no_index (OfNat.ofNat n : Int32)) = nI (a - (OfNat.ofNat n : Nat)) := pk_sub h
theorem ev_s2 {a n : Nat} (h : n ≤ a) : nI a - nI n = nI (a - n) := pk_sub h
theorem ev_lit {a n : Nat} (h : (OfNat.ofNat a : Nat) ≠ (OfNat.ofNat n : Nat) ∧ (OfNat.ofNat a : Nat) < 2 ^ 31 ∧ (OfNat.ofNat n : Nat) < 2 ^ 31) : ¬ (no_index (OfNat.ofNat a : Int32)) = (no_index (OfNat.ofNat n : Int32)) := fun q => h.1 ((nI_eq h.2.1 h.2.2).mp q)
theorem ev_10 : ((1 : Int32) = 0) = False := by decide
section EV
variable {S : gS} {A : Nat → Nat} {ex : Nat → Bool} {I : gMI} {J : gMJ}
theorem ev_uI (hL : Lay S A ex) {c d k j : Nat} {v : Int32} (h : d ≠ c ∨ j ≠ k) : upI I (A c) k v (A d) j = I (A d) j := by
  rw [upI_to, if_neg (fun q => by have := hL.1 _ _ q.1; omega)]
theorem ev_uE {a k : Nat} {v : Int32} : upI I a k v a k = v := by rw [upI_to, if_pos ⟨rfl, rfl⟩]
theorem ev_uJ (hL : Lay S A ex) {c d k j : Nat} {v : Int64} (h : d ≠ c ∨ j ≠ k) : upJ J (A c) k v (A d) j = J (A d) j := by
  rw [upJ_to, if_neg (fun q => by have := hL.1 _ _ q.1; omega)]
theorem ev_uK {a k : Nat} {v : Int64} : upJ J a k v a k = v := by rw [upJ_to, if_pos ⟨rfl, rfl⟩]
-- the reference's arrays
theorem ev_m (hL : Lay S A ex) : S.1 (A 6) = 9 := hL.ref.1
theorem ev_mr (hL : Lay S A ex) {f : Nat} (h1 : f < 37 ∧ f ≠ 0 ∧ f ≠ 4 ∧ f ≠ 32) : S.2.2 (A 6) f = some (A (226 + f)) := (hL.ref.2.1 f h1).1
theorem ev_mt (hL : Lay S A ex) {c : Nat} (h : 226 < c ∧ c < 263 ∧ c ≠ 227 ∧ c ≠ 230 ∧ c ≠ 248 ∧ c ≠ 252 ∧ c ≠ 253 ∧ c ≠ 255 ∧ c ≠ 258 ∧ c ≠ 261) : S.1 (A c) = 21 := by
  have h2 := (hL.ref.2.1 (c - 226) ⟨by omega, by omega, by omega, by omega⟩).2.1
  dsimp only at h2
  rw [show 226 + (c - 226) = c by omega] at h2
  rw [h2]; unfold rT; rw [if_neg (by omega), if_neg (by omega)]
theorem ev_mz (hL : Lay S A ex) {c : Nat} (h : c = 227 ∨ c = 248 ∨ c = 253) : S.1 (A c) = 22 := by
  have h2 := (hL.ref.2.1 (c - 226) ⟨by omega, by omega, by omega, by omega⟩).2.1
  dsimp only at h2
  rw [show 226 + (c - 226) = c by omega] at h2
  rw [h2]; unfold rT; rw [if_pos (by omega)]
theorem ev_mj (hL : Lay S A ex) {c : Nat} (h : c = 252 ∨ c = 255 ∨ c = 261) : S.1 (A c) = 23 := by
  have h2 := (hL.ref.2.1 (c - 226) ⟨by omega, by omega, by omega, by omega⟩).2.1
  dsimp only at h2
  rw [show 226 + (c - 226) = c by omega] at h2
  rw [h2]; unfold rT; rw [if_neg (by omega), if_pos (by omega)]
theorem ev_n8 (hL : Lay S A ex) {c : Nat} (h : 226 < c ∧ c ≤ 252 ∧ c ≠ 229 ∧ c ≠ 230 ∧ c ≠ 243) : S.2.1 (A c) = 8 := by
  have h2 := (hL.ref.2.1 (c - 226) ⟨by omega, by omega, by omega, by omega⟩).2.2
  dsimp only at h2
  rw [show 226 + (c - 226) = c by omega] at h2
  rw [h2]; unfold rN
  rw [if_neg (by omega), if_neg (by omega), if_neg (by omega), if_neg (by omega), if_neg (by omega), if_neg (by omega), if_neg (by omega)]
theorem ev_n64 (hL : Lay S A ex) {c : Nat} (h : c = 243 ∨ c = 253 ∨ c = 255 ∨ c = 256 ∨ c = 262) : S.2.1 (A c) = 64 := by
  have h2 := (hL.ref.2.1 (c - 226) ⟨by omega, by omega, by omega, by omega⟩).2.2
  dsimp only at h2
  rw [show 226 + (c - 226) = c by omega] at h2
  rw [h2]; unfold rN
  rw [if_neg (by omega), if_pos (by omega)]
theorem ev_n229 (hL : Lay S A ex) : S.2.1 (A 229) = 4000 := hL.ref.n 3
theorem ev_n254 (hL : Lay S A ex) : S.2.1 (A 254) = 256 := hL.ref.n 28
theorem ev_n257 (hL : Lay S A ex) : S.2.1 (A 257) = 4096 := hL.ref.n 31
theorem ev_n259 (hL : Lay S A ex) : S.2.1 (A 259) = 672 := hL.ref.n 33
theorem ev_n260 (hL : Lay S A ex) : S.2.1 (A 260) = 6144 := hL.ref.n 34
theorem ev_n261 (hL : Lay S A ex) : S.2.1 (A 261) = 96 := hL.ref.n 35
-- the class's objects
theorem ev_0 (hL : Lay S A ex) : S.1 (A 0) = 8 := hL.2.1.1
theorem ev_00 (hL : Lay S A ex) : S.2.2 (A 0) 0 = some (A 1) := hL.2.1.2.1
theorem ev_01 (hL : Lay S A ex) : S.2.2 (A 0) 1 = some (A 2) := hL.2.1.2.2.1
theorem ev_02 (hL : Lay S A ex) : S.2.2 (A 0) 2 = some (A 3) := hL.2.1.2.2.2
theorem ev_1 (hL : Lay S A ex) : S.1 (A 1) = 24 := hL.2.2.1.1
theorem ev_1n (hL : Lay S A ex) : S.2.1 (A 1) = 8 := hL.2.2.1.2
theorem ev_1r (hL : Lay S A ex) {l : Nat} (h : l < 8) : S.2.2 (A 1) l = some (A (8 + l)) := (hL.lg h).1
theorem ev_lg (hL : Lay S A ex) {l : Nat} (h : l < 8) : S.1 (A (8 + l)) = 2 := (hL.lg h).2.1
theorem ev_lr (hL : Lay S A ex) {l : Nat} (h : l < 8) : S.2.2 (A (8 + l)) 0 = some (A (16 + l)) := (hL.lg h).2.2.1
theorem ev_sr (hL : Lay S A ex) {l : Nat} (h : l < 8) : S.1 (A (16 + l)) = 7 := (hL.lg h).2.2.2.1
theorem ev_2 (hL : Lay S A ex) : S.1 (A 2) = 25 := hL.2.2.2.2.1.1
theorem ev_2n (hL : Lay S A ex) : S.2.1 (A 2) = 8 := hL.2.2.2.2.1.2
theorem ev_3 (hL : Lay S A ex) : S.1 (A 3) = 3 := hL.2.2.2.2.2.2.1.1
theorem ev_30 (hL : Lay S A ex) : S.2.2 (A 3) 0 = some (A 4) := hL.2.2.2.2.2.2.1.2.1
theorem ev_31 (hL : Lay S A ex) : S.2.2 (A 3) 1 = some (A 5) := hL.2.2.2.2.2.2.1.2.2
theorem ev_4 (hL : Lay S A ex) : S.1 (A 4) = 26 := hL.2.2.2.2.2.2.2.1.1
theorem ev_4n (hL : Lay S A ex) : S.2.1 (A 4) = 97 := hL.2.2.2.2.2.2.2.1.2.1
theorem ev_5 (hL : Lay S A ex) : S.1 (A 5) = 21 := hL.2.2.2.2.2.2.2.1.2.2.1
theorem ev_5n (hL : Lay S A ex) : S.2.1 (A 5) = 97 := hL.2.2.2.2.2.2.2.1.2.2.2
theorem ev_4r (hL : Lay S A ex) {k : Nat} (h : k < 97) : S.2.2 (A 4) k = some (A (32 + k)) := (hL.lt h).1
theorem ev_lt1 (hL : Lay S A ex) {k : Nat} (h : k < 97) : S.1 (A (32 + k)) = 1 := (hL.lt h).2.1
theorem ev_ltr (hL : Lay S A ex) {k : Nat} (h : k < 97) : S.2.2 (A (32 + k)) 0 = some (A (129 + k)) := (hL.lt h).2.2.1
theorem ev_lnt (hL : Lay S A ex) {k : Nat} (h : k < 97) : S.1 (A (129 + k)) = 21 := (hL.lt h).2.2.2.1
theorem ev_lnn (hL : Lay S A ex) {k : Nat} (h : k < 97) : S.2.1 (A (129 + k)) = 64 := (hL.lt h).2.2.2.2
theorem ev_7 (hL : Lay S A ex) : S.1 (A 7) = 23 := hL.2.2.2.2.2.2.2.2.2.2.1
theorem ev_7n (hL : Lay S A ex) : S.2.1 (A 7) = 1 := hL.2.2.2.2.2.2.2.2.2.2.2
end EV
