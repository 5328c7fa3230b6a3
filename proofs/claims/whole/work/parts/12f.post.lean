-- The row of letters: letter, lose; a letter taken out
def sh (r i : Nat) : Nat := if i < r then i else i + 1
def shf {α : Type} (f : Nat → α) (k e d : Nat) : Nat → α := fun j => if k ≤ j ∧ j < e then f (j + d) else f j
theorem shf_up {f : Nat → Int32} {k e d : Nat} (h : k < e) (hd : 0 < d) : shf (upd f k (f (k + d))) (k + 1) e d = shf f k e d := by
  funext j
  unfold shf upd
  by_cases h1 : j = k
  · subst h1
    rw [if_neg (by omega), if_pos rfl, if_pos (by omega)]
  · by_cases h2 : k + 1 ≤ j ∧ j < e
    · rw [if_pos h2, if_neg (by omega), if_pos (by omega)]
    · rw [if_neg h2, if_neg h1, if_neg (by omega)]
theorem shf_upL {f : Nat → Int64} {k e d : Nat} (h : k < e) (hd : 0 < d) : shf (vp_updL f k (f (k + d))) (k + 1) e d = shf f k e d := by
  funext j
  unfold shf vp_updL
  by_cases h1 : j = k
  · subst h1
    rw [if_neg (by omega), if_pos rfl, if_pos (by omega)]
  · by_cases h2 : k + 1 ≤ j ∧ j < e
    · rw [if_pos h2, if_neg (by omega), if_pos (by omega)]
    · rw [if_neg h2, if_neg h1, if_neg (by omega)]
theorem shf_0 {α : Type} {f : Nat → α} {k e d : Nat} (h : e ≤ k) : shf f k e d = f := by
  funext j
  unfold shf
  rw [if_neg (by omega)]
theorem va_upup {α : Type} (f : Nat → α) (a : Nat) (x y : α) : va_up (va_up f a x) a y = va_up f a y := by
  funext j
  unfold va_up
  by_cases h : j = a
  · rw [if_pos h, if_pos h]
  · rw [if_neg h, if_neg h, if_neg h]
theorem va_upsame {α : Type} (f : Nat → α) (a : Nat) : va_up f a (f a) = f := by
  funext j
  unfold va_up
  by_cases h : j = a
  · rw [if_pos h, h]
  · rw [if_neg h]
section POST
variable {S : gS} {A : Nat → Nat} {ex : Nat → Bool} {I I' : gMI} {J : gMJ} {b : Nat}
theorem Post_at (hL : Lay S A ex) {x p : Nat} (hx : x < 97) (hp : p < 97) (h : I (A 5) x = nI p) : f_Post_at S I J (A 3) (nI x) = some (some (A (32 + p))) := by
  simp (disch := omega) only [f_Post_at, h, gd_t, bnd_in, Option.bind_some, bd2_some, bd3_some, bd4_some, gm_some, gm_none, ↓reduceIte, or_self, or_false, false_or, or_true, true_or, and_self, and_true, true_and, and_false, false_and, not_false_eq_true, not_true_eq_false, Nat.reduceAdd, Nat.reduceMul, Int32.reduceLT, Int32.reduceLE, eq_self, ev_lit, ev_10, Int32.reduceToNatClampNeg, Nat.reduceLeDiff, Nat.reduceEqDiff, Nat.reduceLT, nI_clamp, ev_ng, ev_L1, ev_L2, ev_L3, ev_K1, ev_K2, ev_K3, ev_K4, ev_K5, ev_a1, ev_m1, ev_s1, ev_s2, nI_add, ev_nle, ev_le, ev_lt, ev_nlt, ev_ne, ev_eq, ev_uI hL, ev_uJ hL, ev_m hL, ev_mr hL, ev_mt hL, ev_mz hL, ev_mj hL, ev_n8 hL, ev_n64 hL, ev_n229 hL, ev_n254 hL, ev_n257 hL, ev_n259 hL, ev_n260 hL, ev_n261 hL, ev_0 hL, ev_00 hL, ev_01 hL, ev_02 hL, ev_1 hL, ev_1n hL, ev_1r hL, ev_lg hL, ev_lr hL, ev_sr hL, ev_2 hL, ev_2n hL, ev_3 hL, ev_30 hL, ev_31 hL, ev_4 hL, ev_4n hL, ev_5 hL, ev_5n hL, ev_4r hL, ev_lt1 hL, ev_ltr hL, ev_lnt hL, ev_lnn hL, ev_7 hL, ev_7n hL, ev_uE, ev_uK]
theorem rem_b86 (hL : Lay S A ex) {e : Nat} (he : e ≤ 95) (hI : I (A 6) 32 = nI e) : ∀ (g k n : Nat) (J : gMJ), k + g = e → g < n → f_M_remove_b86 S n I J (A 6) (nI k) = some (I, va_up J (A 261) (shf (J (A 261)) k e 1)) := by
  intro g
  induction g with
  | zero =>
    intro k n J hk hn
    obtain ⟨n, rfl⟩ : ∃ k, n = k + 1 := ⟨n - 1, by omega⟩
    simp (disch := omega) only [f_M_remove_b86, hI, gd_t, bnd_in, Option.bind_some, bd2_some, bd3_some, bd4_some, gm_some, gm_none, ↓reduceIte, or_self, or_false, false_or, or_true, true_or, and_self, and_true, true_and, and_false, false_and, not_false_eq_true, not_true_eq_false, Nat.reduceAdd, Nat.reduceMul, Int32.reduceLT, Int32.reduceLE, eq_self, ev_lit, ev_10, Int32.reduceToNatClampNeg, Nat.reduceLeDiff, Nat.reduceEqDiff, Nat.reduceLT, nI_clamp, ev_ng, ev_L1, ev_L2, ev_L3, ev_K1, ev_K2, ev_K3, ev_K4, ev_K5, ev_a1, ev_m1, ev_s1, ev_s2, nI_add, ev_nle, ev_le, ev_lt, ev_nlt, ev_ne, ev_eq, ev_uI hL, ev_uJ hL, ev_m hL, ev_mr hL, ev_mt hL, ev_mz hL, ev_mj hL, ev_n8 hL, ev_n64 hL, ev_n229 hL, ev_n254 hL, ev_n257 hL, ev_n259 hL, ev_n260 hL, ev_n261 hL, ev_0 hL, ev_00 hL, ev_01 hL, ev_02 hL, ev_1 hL, ev_1n hL, ev_1r hL, ev_lg hL, ev_lr hL, ev_sr hL, ev_2 hL, ev_2n hL, ev_3 hL, ev_30 hL, ev_31 hL, ev_4 hL, ev_4n hL, ev_5 hL, ev_5n hL, ev_4r hL, ev_lt1 hL, ev_ltr hL, ev_lnt hL, ev_lnn hL, ev_7 hL, ev_7n hL, ev_uE, ev_uK]
    rw [shf_0 (by omega), va_upsame]
  | succ g ih =>
    intro k n J hk hn
    obtain ⟨n, rfl⟩ : ∃ k, n = k + 1 := ⟨n - 1, by omega⟩
    simp (disch := omega) only [f_M_remove_b86, hI, gd_t, bnd_in, Option.bind_some, bd2_some, bd3_some, bd4_some, gm_some, gm_none, ↓reduceIte, or_self, or_false, false_or, or_true, true_or, and_self, and_true, true_and, and_false, false_and, not_false_eq_true, not_true_eq_false, Nat.reduceAdd, Nat.reduceMul, Int32.reduceLT, Int32.reduceLE, eq_self, ev_lit, ev_10, Int32.reduceToNatClampNeg, Nat.reduceLeDiff, Nat.reduceEqDiff, Nat.reduceLT, nI_clamp, ev_ng, ev_L1, ev_L2, ev_L3, ev_K1, ev_K2, ev_K3, ev_K4, ev_K5, ev_a1, ev_m1, ev_s1, ev_s2, nI_add, ev_nle, ev_le, ev_lt, ev_nlt, ev_ne, ev_eq, ev_uI hL, ev_uJ hL, ev_m hL, ev_mr hL, ev_mt hL, ev_mz hL, ev_mj hL, ev_n8 hL, ev_n64 hL, ev_n229 hL, ev_n254 hL, ev_n257 hL, ev_n259 hL, ev_n260 hL, ev_n261 hL, ev_0 hL, ev_00 hL, ev_01 hL, ev_02 hL, ev_1 hL, ev_1n hL, ev_1r hL, ev_lg hL, ev_lr hL, ev_sr hL, ev_2 hL, ev_2n hL, ev_3 hL, ev_30 hL, ev_31 hL, ev_4 hL, ev_4n hL, ev_5 hL, ev_5n hL, ev_4r hL, ev_lt1 hL, ev_ltr hL, ev_lnt hL, ev_lnn hL, ev_7 hL, ev_7n hL, ev_uE, ev_uK]
    rw [ih (k + 1) n _ (by omega) (by omega)]
    rw [upJ, va_upup, va_up_self, shf_upL (by omega) (by decide)]
theorem rem_b52 (hL : Lay S A ex) {e r : Nat} (he : e ≤ 95) (hr : r ≤ e) : ∀ (g k n : Nat) (I : gMI), I (A 6) 32 = nI e → k + g = 64 * e → g < n → f_M_remove_b52 S n I J (A 6) (nI r) (nI k) = some (va_up I (A 260) (shf (I (A 260)) k (64 * e) 64), va_up J (A 261) (shf (J (A 261)) r e 1)) := by
  intro g
  induction g with
  | zero =>
    intro k n I hI hk hn
    obtain ⟨n, rfl⟩ : ∃ k, n = k + 1 := ⟨n - 1, by omega⟩
    simp (disch := omega) only [f_M_remove_b52, hI, gd_t, bnd_in, Option.bind_some, bd2_some, bd3_some, bd4_some, gm_some, gm_none, ↓reduceIte, or_self, or_false, false_or, or_true, true_or, and_self, and_true, true_and, and_false, false_and, not_false_eq_true, not_true_eq_false, Nat.reduceAdd, Nat.reduceMul, Int32.reduceLT, Int32.reduceLE, eq_self, ev_lit, ev_10, Int32.reduceToNatClampNeg, Nat.reduceLeDiff, Nat.reduceEqDiff, Nat.reduceLT, nI_clamp, ev_ng, ev_L1, ev_L2, ev_L3, ev_K1, ev_K2, ev_K3, ev_K4, ev_K5, ev_a1, ev_m1, ev_s1, ev_s2, nI_add, ev_nle, ev_le, ev_lt, ev_nlt, ev_ne, ev_eq, ev_uI hL, ev_uJ hL, ev_m hL, ev_mr hL, ev_mt hL, ev_mz hL, ev_mj hL, ev_n8 hL, ev_n64 hL, ev_n229 hL, ev_n254 hL, ev_n257 hL, ev_n259 hL, ev_n260 hL, ev_n261 hL, ev_0 hL, ev_00 hL, ev_01 hL, ev_02 hL, ev_1 hL, ev_1n hL, ev_1r hL, ev_lg hL, ev_lr hL, ev_sr hL, ev_2 hL, ev_2n hL, ev_3 hL, ev_30 hL, ev_31 hL, ev_4 hL, ev_4n hL, ev_5 hL, ev_5n hL, ev_4r hL, ev_lt1 hL, ev_ltr hL, ev_lnt hL, ev_lnn hL, ev_7 hL, ev_7n hL, ev_uE, ev_uK]
    rw [rem_b86 hL he hI (e - r) r gFuel J (by omega) (by unfold gFuel; omega), shf_0 (f := I (A 260)) (by omega), va_upsame]
  | succ g ih =>
    intro k n I hI hk hn
    obtain ⟨n, rfl⟩ : ∃ k, n = k + 1 := ⟨n - 1, by omega⟩
    simp (disch := omega) only [f_M_remove_b52, hI, gd_t, bnd_in, Option.bind_some, bd2_some, bd3_some, bd4_some, gm_some, gm_none, ↓reduceIte, or_self, or_false, false_or, or_true, true_or, and_self, and_true, true_and, and_false, false_and, not_false_eq_true, not_true_eq_false, Nat.reduceAdd, Nat.reduceMul, Int32.reduceLT, Int32.reduceLE, eq_self, ev_lit, ev_10, Int32.reduceToNatClampNeg, Nat.reduceLeDiff, Nat.reduceEqDiff, Nat.reduceLT, nI_clamp, ev_ng, ev_L1, ev_L2, ev_L3, ev_K1, ev_K2, ev_K3, ev_K4, ev_K5, ev_a1, ev_m1, ev_s1, ev_s2, nI_add, ev_nle, ev_le, ev_lt, ev_nlt, ev_ne, ev_eq, ev_uI hL, ev_uJ hL, ev_m hL, ev_mr hL, ev_mt hL, ev_mz hL, ev_mj hL, ev_n8 hL, ev_n64 hL, ev_n229 hL, ev_n254 hL, ev_n257 hL, ev_n259 hL, ev_n260 hL, ev_n261 hL, ev_0 hL, ev_00 hL, ev_01 hL, ev_02 hL, ev_1 hL, ev_1n hL, ev_1r hL, ev_lg hL, ev_lr hL, ev_sr hL, ev_2 hL, ev_2n hL, ev_3 hL, ev_30 hL, ev_31 hL, ev_4 hL, ev_4n hL, ev_5 hL, ev_5n hL, ev_4r hL, ev_lt1 hL, ev_ltr hL, ev_lnt hL, ev_lnn hL, ev_7 hL, ev_7n hL, ev_uE, ev_uK]
    rw [ih (k + 1) n _ (by rw [ev_uI hL (by omega)]; exact hI) (by omega) (by omega)]
    rw [upI, va_upup, va_up_self, shf_up (by omega) (by decide)]
theorem rem_b15 (hL : Lay S A ex) {e r : Nat} (he : e ≤ 95) (hr : r ≤ e) : ∀ (g k n : Nat) (I : gMI), I (A 6) 32 = nI e → k + g = 7 * e → g < n → f_M_remove_b15 S n I J (A 6) (nI r) (nI k) = some (va_up (va_up I (A 259) (shf (I (A 259)) k (7 * e) 7)) (A 260) (shf (I (A 260)) (64 * r) (64 * e) 64), va_up J (A 261) (shf (J (A 261)) r e 1)) := by
  intro g
  induction g with
  | zero =>
    intro k n I hI hk hn
    obtain ⟨n, rfl⟩ : ∃ k, n = k + 1 := ⟨n - 1, by omega⟩
    simp (disch := omega) only [f_M_remove_b15, hI, gd_t, bnd_in, Option.bind_some, bd2_some, bd3_some, bd4_some, gm_some, gm_none, ↓reduceIte, or_self, or_false, false_or, or_true, true_or, and_self, and_true, true_and, and_false, false_and, not_false_eq_true, not_true_eq_false, Nat.reduceAdd, Nat.reduceMul, Int32.reduceLT, Int32.reduceLE, eq_self, ev_lit, ev_10, Int32.reduceToNatClampNeg, Nat.reduceLeDiff, Nat.reduceEqDiff, Nat.reduceLT, nI_clamp, ev_ng, ev_L1, ev_L2, ev_L3, ev_K1, ev_K2, ev_K3, ev_K4, ev_K5, ev_a1, ev_m1, ev_s1, ev_s2, nI_add, ev_nle, ev_le, ev_lt, ev_nlt, ev_ne, ev_eq, ev_uI hL, ev_uJ hL, ev_m hL, ev_mr hL, ev_mt hL, ev_mz hL, ev_mj hL, ev_n8 hL, ev_n64 hL, ev_n229 hL, ev_n254 hL, ev_n257 hL, ev_n259 hL, ev_n260 hL, ev_n261 hL, ev_0 hL, ev_00 hL, ev_01 hL, ev_02 hL, ev_1 hL, ev_1n hL, ev_1r hL, ev_lg hL, ev_lr hL, ev_sr hL, ev_2 hL, ev_2n hL, ev_3 hL, ev_30 hL, ev_31 hL, ev_4 hL, ev_4n hL, ev_5 hL, ev_5n hL, ev_4r hL, ev_lt1 hL, ev_ltr hL, ev_lnt hL, ev_lnn hL, ev_7 hL, ev_7n hL, ev_uE, ev_uK]
    rw [rem_b52 hL he hr (64 * e - 64 * r) (64 * r) gFuel I hI (by omega) (by unfold gFuel; omega), shf_0 (f := I (A 259)) (by omega), va_upsame]
  | succ g ih =>
    intro k n I hI hk hn
    obtain ⟨n, rfl⟩ : ∃ k, n = k + 1 := ⟨n - 1, by omega⟩
    simp (disch := omega) only [f_M_remove_b15, hI, gd_t, bnd_in, Option.bind_some, bd2_some, bd3_some, bd4_some, gm_some, gm_none, ↓reduceIte, or_self, or_false, false_or, or_true, true_or, and_self, and_true, true_and, and_false, false_and, not_false_eq_true, not_true_eq_false, Nat.reduceAdd, Nat.reduceMul, Int32.reduceLT, Int32.reduceLE, eq_self, ev_lit, ev_10, Int32.reduceToNatClampNeg, Nat.reduceLeDiff, Nat.reduceEqDiff, Nat.reduceLT, nI_clamp, ev_ng, ev_L1, ev_L2, ev_L3, ev_K1, ev_K2, ev_K3, ev_K4, ev_K5, ev_a1, ev_m1, ev_s1, ev_s2, nI_add, ev_nle, ev_le, ev_lt, ev_nlt, ev_ne, ev_eq, ev_uI hL, ev_uJ hL, ev_m hL, ev_mr hL, ev_mt hL, ev_mz hL, ev_mj hL, ev_n8 hL, ev_n64 hL, ev_n229 hL, ev_n254 hL, ev_n257 hL, ev_n259 hL, ev_n260 hL, ev_n261 hL, ev_0 hL, ev_00 hL, ev_01 hL, ev_02 hL, ev_1 hL, ev_1n hL, ev_1r hL, ev_lg hL, ev_lr hL, ev_sr hL, ev_2 hL, ev_2n hL, ev_3 hL, ev_30 hL, ev_31 hL, ev_4 hL, ev_4n hL, ev_5 hL, ev_5n hL, ev_4r hL, ev_lt1 hL, ev_ltr hL, ev_lnt hL, ev_lnn hL, ev_7 hL, ev_7n hL, ev_uE, ev_uK]
    rw [ih (k + 1) n _ (by rw [ev_uI hL (by omega)]; exact hI) (by omega) (by omega)]
    rw [upI, va_upup, va_up_self, shf_up (by omega) (by decide), va_up_ne _ _ (hL.inj (by decide))]
/-- the reference takes letter r out of c -/
theorem M_remove (hL : Lay S A ex) {c r : Nat} (hc : c ≤ 96) (hr : r < c) (hI : I (A 6) 32 = nI c) : f_M_remove S I J (A 6) (nI r) = some (va_up (va_up (upI I (A 6) 32 (nI (c - 1))) (A 259) (shf (I (A 259)) (7 * r) (7 * (c - 1)) 7)) (A 260) (shf (I (A 260)) (64 * r) (64 * (c - 1)) 64), va_up J (A 261) (shf (J (A 261)) r (c - 1) 1)) := by
  simp (disch := omega) only [f_M_remove, hI, gd_t, bnd_in, Option.bind_some, bd2_some, bd3_some, bd4_some, gm_some, gm_none, ↓reduceIte, or_self, or_false, false_or, or_true, true_or, and_self, and_true, true_and, and_false, false_and, not_false_eq_true, not_true_eq_false, Nat.reduceAdd, Nat.reduceMul, Int32.reduceLT, Int32.reduceLE, eq_self, ev_lit, ev_10, Int32.reduceToNatClampNeg, Nat.reduceLeDiff, Nat.reduceEqDiff, Nat.reduceLT, nI_clamp, ev_ng, ev_L1, ev_L2, ev_L3, ev_K1, ev_K2, ev_K3, ev_K4, ev_K5, ev_a1, ev_m1, ev_s1, ev_s2, nI_add, ev_nle, ev_le, ev_lt, ev_nlt, ev_ne, ev_eq, ev_uI hL, ev_uJ hL, ev_m hL, ev_mr hL, ev_mt hL, ev_mz hL, ev_mj hL, ev_n8 hL, ev_n64 hL, ev_n229 hL, ev_n254 hL, ev_n257 hL, ev_n259 hL, ev_n260 hL, ev_n261 hL, ev_0 hL, ev_00 hL, ev_01 hL, ev_02 hL, ev_1 hL, ev_1n hL, ev_1r hL, ev_lg hL, ev_lr hL, ev_sr hL, ev_2 hL, ev_2n hL, ev_3 hL, ev_30 hL, ev_31 hL, ev_4 hL, ev_4n hL, ev_5 hL, ev_5n hL, ev_4r hL, ev_lt1 hL, ev_ltr hL, ev_lnt hL, ev_lnn hL, ev_7 hL, ev_7n hL, ev_uE, ev_uK]
  rw [rem_b15 hL (e := c - 1) (by omega) (by omega) (7 * (c - 1) - 7 * r) (7 * r) gFuel _ ev_uE (by omega) (by unfold gFuel; omega)]
  rw [upI_ne (hL.inj (by decide)), upI_ne (hL.inj (by decide))]
/-- the class takes it out -/
theorem Post_takeOut (hL : Lay S A ex) {c r p : Nat} (hc : c ≤ 96) (hr : r < c) (hI : I (A 3) 2 = nI c) (hp : p < 97) (h5 : I (A 5) r = nI p) : f_Post_takeOut S I J (A 3) (nI r) = some (some (A (32 + p)), upI (upI (va_up I (A 5) (va_cpy (I (A 5)) (I (A 5)) (r + 1) r (96 - r))) (A 5) 96 (nI p)) (A 3) 2 (nI (c - 1))) := by
  have e1 : (96 : Int32) - nI r = nI (96 - r) := pk_sub (a := 96) (by omega)
  have e2 : va_up I (A 5) (va_cpy (I (A 5)) (I (A 5)) (r + 1) r (96 - r)) (A 3) 2 = nI c := by
    rw [va_up_ne _ _ (hL.inj (by decide))]; exact hI
  simp (disch := omega) only [f_Post_takeOut, h5, e1, e2, gd_t, bnd_in, Option.bind_some, bd2_some, bd3_some, bd4_some, gm_some, gm_none, ↓reduceIte, or_self, or_false, false_or, or_true, true_or, and_self, and_true, true_and, and_false, false_and, not_false_eq_true, not_true_eq_false, Nat.reduceAdd, Nat.reduceMul, Int32.reduceLT, Int32.reduceLE, eq_self, ev_lit, ev_10, Int32.reduceToNatClampNeg, Nat.reduceLeDiff, Nat.reduceEqDiff, Nat.reduceLT, nI_clamp, ev_ng, ev_L1, ev_L2, ev_L3, ev_K1, ev_K2, ev_K3, ev_K4, ev_K5, ev_a1, ev_m1, ev_s1, ev_s2, nI_add, ev_nle, ev_le, ev_lt, ev_nlt, ev_ne, ev_eq, ev_uI hL, ev_uJ hL, ev_m hL, ev_mr hL, ev_mt hL, ev_mz hL, ev_mj hL, ev_n8 hL, ev_n64 hL, ev_n229 hL, ev_n254 hL, ev_n257 hL, ev_n259 hL, ev_n260 hL, ev_n261 hL, ev_0 hL, ev_00 hL, ev_01 hL, ev_02 hL, ev_1 hL, ev_1n hL, ev_1r hL, ev_lg hL, ev_lr hL, ev_sr hL, ev_2 hL, ev_2n hL, ev_3 hL, ev_30 hL, ev_31 hL, ev_4 hL, ev_4n hL, ev_5 hL, ev_5n hL, ev_4r hL, ev_lt1 hL, ev_ltr hL, ev_lnt hL, ev_lnn hL, ev_7 hL, ev_7n hL, ev_uE, ev_uK]
/-- what taking letter r out leaves: all ghosts but the letters' as they were -/
theorem rem_rel {M M' : gMI} {K K' : gMJ} {sz pi am nu : Nat → Nat} {c N : Nat} {fz : Nat → Nat → Option Nat} {cm : Nat → Nat → Bool} {gc : Nat → Nat → Nat} (h1 : RLgs M sz) (h2 : RPost M K c pi am) (h3 : RQs M K ex sz fz cm gc nu N) (h4 : Inv M c N b nu fz cm) {r : Nat} (hr : r < c)
    (hM : agr (fun c k => (c = 3 ∧ k = 2) ∨ (c = 6 ∧ (k = 0 ∨ k = 32)) ∨ c = 5 ∨ c = 259 ∨ c = 260) M M') (hK : agr (fun c _ => c = 261 ∨ c = 7) K K') (e3 : M' 3 2 = nI (c - 1)) (e6 : M' 6 32 = nI (c - 1)) (e5 : ∀ i, i < 97 → M' 5 i = nI (pi (if i < r then i else if i < 96 then i + 1 else r))) (e259 : ∀ j, M' 259 j = shf (M 259) (7 * r) (7 * (c - 1)) 7 j) (e260 : ∀ j, M' 260 j = shf (M 260) (64 * r) (64 * (c - 1)) 64 j) (e261 : ∀ j, K' 261 j = shf (K 261) r (c - 1) 1 j) :
    RLgs M' sz ∧ RPost M' K' (c - 1) (fun i => pi (if i < r then i else if i < 96 then i + 1 else r)) (fun i => am (sh r i)) ∧ RQs M' K' ex sz fz cm gc nu N ∧ Inv M' (c - 1) N b nu fz cm := by
  unfold agr at hM hK
  obtain ⟨p1, p2, p3, p4, p5, p6⟩ := h2
  have g259 : ∀ i f, i < c - 1 → f < 7 → M' 259 (7 * i + f) = M 259 (7 * sh r i + f) := fun i f hi hf => by
    rw [e259]; unfold shf sh
    by_cases h : i < r
    · rw [if_neg (by omega), if_pos h]
    · rw [if_pos (by omega), if_neg h]; congr 1; omega
  have g259' : ∀ i, i < c - 1 → M' 259 (7 * i) = M 259 (7 * sh r i) := fun i hi => g259 i 0 hi (by decide)
  have g260 : ∀ i f, i < c - 1 → f < 64 → M' 260 (64 * i + f) = M 260 (64 * sh r i + f) := fun i f hi hf => by
    rw [e260]; unfold shf sh
    by_cases h : i < r
    · rw [if_neg (by omega), if_pos h]
    · rw [if_pos (by omega), if_neg h]; congr 1; omega
  have g260' : ∀ i, i < c - 1 → M' 260 (64 * i) = M 260 (64 * sh r i) := fun i hi => g260 i 0 hi (by decide)
  have g261 : ∀ i, i < c - 1 → K' 261 i = K 261 (sh r i) := fun i hi => by
    rw [e261]; unfold shf sh
    by_cases h : i < r
    · rw [if_neg (by omega), if_pos h]
    · rw [if_pos (by omega), if_neg h]
  have hsh : ∀ i, i < c - 1 → sh r i < c := fun i hi => by unfold sh; split <;> omega
  refine ⟨?_, ⟨by omega, e3, e6, fun i hi => ⟨?_, e5 i hi⟩, fun i j hi hj hij => ?_, fun i hi => ?_⟩, ?_, ?_, ?_⟩
  · intro l hl
    have hq := h1 l hl
    unfold RUp RLg rI rdM at hq ⊢
    simp (disch := omega) only [hM _ _]
    exact hq
  · exact (p4 _ (by split <;> (try split) <;> omega)).1
  · have hij := p5 _ _ (by split <;> (try split) <;> omega) (by split <;> (try split) <;> omega) hij
    split at hij <;> split at hij <;> (try split at hij) <;> (try split at hij) <;> omega
  · have hs := hsh i hi
    have hp := (p4 (sh r i) (by omega)).1
    have hl := p6 (sh r i) hs
    show RLet M' K' (pi (if i < r then i else if i < 96 then i + 1 else r)) i (am (sh r i))
    rw [show (if i < r then i else if i < 96 then i + 1 else r) = sh r i by unfold sh; split <;> (try split) <;> omega]
    unfold RLet at hl ⊢
    obtain ⟨q0, q1, q2, q3, q4, q5, q6, q7, q8, q9, q10⟩ := hl
    refine ⟨q0, ?_, ?_, ?_, ?_, ?_, ?_, ?_, ?_, ?_, fun j hj => ?_⟩
    · rw [hM _ _ (by omega)]; exact q1
    · rw [g259 i 6 hi (by decide)]; exact q2
    · rw [hM _ _ (by omega), g259' i hi]; exact q3
    · rw [hM _ _ (by omega), g259 i 1 hi (by decide)]; exact q4
    · rw [hM _ _ (by omega), g259 i 2 hi (by decide)]; exact q5
    · rw [hM _ _ (by omega), g259 i 3 hi (by decide)]; exact q6
    · rw [hM _ _ (by omega), g259 i 4 hi (by decide)]; exact q7
    · rw [hM _ _ (by omega), g259 i 5 hi (by decide)]; exact q8
    · rw [hK _ _ (by omega), g261 i hi]; exact q9
    · rw [g260 i j hi hj, hM _ _ (by omega)]; exact q10 j hj
  · unfold RQs RQ RQf RFz RRe RGv RAs RAn rI rdM at h3 ⊢
    simp (disch := omega) only [hM _ _, hK _ _]
    exact h3
  · intro i hi
    obtain ⟨ka, f, t, u, v1, v2, v3, v4, v5, v6, v7, v8, v9⟩ := h4.1 (sh r i) (hsh i hi)
    exact ⟨ka, f, t, u, v1, v2, v3, v4, v5, by rw [g259' i hi]; exact v6, by rw [g259 i 4 hi (by decide)]; exact v7, by rw [g259 i 5 hi (by decide)]; exact v8, by rw [g259 i 1 hi (by decide)]; exact v9⟩
  · intro q hq hn
    obtain ⟨v1, tq, sq, w1, w2, w3, w4, w5⟩ := h4.2 q hq hn
    have el : ∀ l z a b, lcn M' l z a b = lcn M l z a b := fun l z a b => by
      unfold lcn rdM
      simp (disch := omega) only [hM _ _]
    have el2 : ∀ fz a b n, lcs M' fz a b n = lcs M fz a b n := fun fz a b n => by
      induction n with
      | zero => rfl
      | succ n ih => show _ + _ = _ + _; rw [ih, el]
    refine ⟨?_, tq, sq, w1, w2, by rw [hM _ _ (by omega)]; exact w3, by rw [hM _ _ (by omega)]; exact w4, fun i hi he => ?_⟩
    · unfold VQq VAn at v1 ⊢
      simp (disch := omega) only [hM _ _, el, el2]
      exact v1
    · rw [g259 i 1 hi (by decide), hM _ _ (by omega)] at he
      have hv := w5 (sh r i) (hsh i hi) he
      unfold VLq VCu VAn at hv ⊢
      rw [g259' i hi, g259 i 2 hi (by decide), g259 i 3 hi (by decide), g259 i 4 hi (by decide), g259 i 5 hi (by decide), g259 i 6 hi (by decide), g260' i hi, g260 i 1 hi (by decide)]
      simp (disch := omega) only [hM _ _, el]
      exact hv
end POST
