-- The place of a question, the two memories apart
section SEEK2
variable {S : gS} {A : Nat → Nat} {ex : Nat → Bool} {I I' Ic Ir : gMI} {J : gMJ} {b : Nat}
/-- numbers at the places: the class has memory Ic, the reference Ir -/
def Nums2 (A : Nat → Nat) (Ic Ir : gMI) (ex : Nat → Bool) (nu : Nat → Nat) : Prop := (∀ q, q < 8 → nu q < 2 ^ 20 ∧ Ir (A 231) q = nI (nu q) ∧ (ex q = true → Ic (A (300 + 40 * q)) 6 = nI (nu q)) ∧ (ex q = false → nu q = 0)) ∧ ∀ q p, q < 8 → p < 8 → nu q = nu p → 0 < nu q → q = p
theorem Nums2.mk {nu : Nat → Nat} (h : Nums2 A Ic Ir ex nu) {q : Nat} (hq : q < 8) (hn : 0 < nu q) : ex q = true := by
  cases e : ex q with
  | true => rfl
  | false =>
    have := (h.1 q hq).2.2.2 e
    omega
theorem isThere_eq2 (hL : Lay S A ex) {nu : Nat → Nat} (h : Nums2 A I Ir ex nu) {q : Nat} (hq : q < 8) (he : ex q = true) : f_Question_isThere S I J (A (300 + 40 * q)) = some (if nu q = 0 then 0 else 1) := by
  have t0 := (hL.qy hq he).2.1.1
  have e6 := (h.1 q hq).2.2.1 he
  have hb := (h.1 q hq).1
  by_cases e : nu q = 0
  · simp (disch := omega) only [f_Question_isThere, f_Question_isThere_b12, t0, e6, e, ↓bnd_in, ↓Option.bind_some, ↓bd2_some, ↓bd3_some, ↓bd4_some, ↓ew_mr hL, ↓ew_00 hL, ↓ew_01 hL, ↓ew_02 hL, ↓ew_1r hL, ↓ew_lr hL, ↓ew_30 hL, ↓ew_31 hL, ↓ew_4r hL, ↓ew_ltr hL, ↓gd_m hL, ↓gd_0 hL, gd_t, Option.bind_some, bd2_some, bd3_some, bd4_some, gm_some, gm_none, ↓reduceIte, or_self, or_false, false_or, or_true, true_or, and_self, and_true, true_and, and_false, false_and, not_false_eq_true, not_true_eq_false, Nat.reduceAdd, Nat.reduceMul, Int32.reduceLT, Int32.reduceLE, eq_self, ev_lit, ev_10, Int32.reduceToNatClampNeg, Nat.reduceLeDiff, Nat.reduceEqDiff, Nat.reduceLT, nI_clamp, ev_ng, ev_L1, ev_L2, ev_L3, ev_K1, ev_K2, ev_K3, ev_K4, ev_K5, ev_a1, ev_m1, ev_s1, ev_s2, nI_add, ev_nle, ev_le, ev_lt, ev_nlt, ev_ne, ev_eq, ev_uI hL, ev_uJ hL, ev_m hL, ev_mr hL, ev_mt hL, ev_mz hL, ev_mj hL, ev_n8 hL, ev_n64 hL, ev_n229 hL, ev_n254 hL, ev_n257 hL, ev_n259 hL, ev_n260 hL, ev_n261 hL, ev_0 hL, ev_00 hL, ev_01 hL, ev_02 hL, ev_1 hL, ev_1n hL, ev_1r hL, ev_lg hL, ev_lr hL, ev_sr hL, ev_2 hL, ev_2n hL, ev_3 hL, ev_30 hL, ev_31 hL, ev_4 hL, ev_4n hL, ev_5 hL, ev_5n hL, ev_4r hL, ev_lt1 hL, ev_ltr hL, ev_lnt hL, ev_lnn hL, ev_7 hL, ev_7n hL, ev_uE, ev_uK]
  · simp (disch := omega) only [f_Question_isThere, f_Question_isThere_b12, t0, e6, e, ↓bnd_in, ↓Option.bind_some, ↓bd2_some, ↓bd3_some, ↓bd4_some, ↓ew_mr hL, ↓ew_00 hL, ↓ew_01 hL, ↓ew_02 hL, ↓ew_1r hL, ↓ew_lr hL, ↓ew_30 hL, ↓ew_31 hL, ↓ew_4r hL, ↓ew_ltr hL, ↓gd_m hL, ↓gd_0 hL, gd_t, Option.bind_some, bd2_some, bd3_some, bd4_some, gm_some, gm_none, ↓reduceIte, or_self, or_false, false_or, or_true, true_or, and_self, and_true, true_and, and_false, false_and, not_false_eq_true, not_true_eq_false, Nat.reduceAdd, Nat.reduceMul, Int32.reduceLT, Int32.reduceLE, eq_self, ev_lit, ev_10, Int32.reduceToNatClampNeg, Nat.reduceLeDiff, Nat.reduceEqDiff, Nat.reduceLT, nI_clamp, ev_ng, ev_L1, ev_L2, ev_L3, ev_K1, ev_K2, ev_K3, ev_K4, ev_K5, ev_a1, ev_m1, ev_s1, ev_s2, nI_add, ev_nle, ev_le, ev_lt, ev_nlt, ev_ne, ev_eq, ev_uI hL, ev_uJ hL, ev_m hL, ev_mr hL, ev_mt hL, ev_mz hL, ev_mj hL, ev_n8 hL, ev_n64 hL, ev_n229 hL, ev_n254 hL, ev_n257 hL, ev_n259 hL, ev_n260 hL, ev_n261 hL, ev_0 hL, ev_00 hL, ev_01 hL, ev_02 hL, ev_1 hL, ev_1n hL, ev_1r hL, ev_lg hL, ev_lr hL, ev_sr hL, ev_2 hL, ev_2n hL, ev_3 hL, ev_30 hL, ev_31 hL, ev_4 hL, ev_4n hL, ev_5 hL, ev_5n hL, ev_4r hL, ev_lt1 hL, ev_ltr hL, ev_lnt hL, ev_lnn hL, ev_7 hL, ev_7n hL, ev_uE, ev_uK]
/-- a place that doesn't hold v is passed over -/
theorem seek_skip2 (hL : Lay S A ex) {nu : Nat → Nat} (h : Nums2 A I Ir ex nu) {v : Int32} {i n : Nat} (hi : i < 8) (hv : 0 < nu i → v ≠ nI (nu i)) : f_H_seek_b2 S I J (n + 1) (A 0) v (nI i) = f_H_seek_b2 S I J n (A 0) v (nI (i + 1)) := by
  cases he : ex i with
  | false =>
    have hn := hL.qn hi he
    simp (disch := omega) only [f_H_seek_b2, hn, f_H_seek_b36, ↓bnd_in, ↓Option.bind_some, ↓bd2_some, ↓bd3_some, ↓bd4_some, ↓ew_mr hL, ↓ew_00 hL, ↓ew_01 hL, ↓ew_02 hL, ↓ew_1r hL, ↓ew_lr hL, ↓ew_30 hL, ↓ew_31 hL, ↓ew_4r hL, ↓ew_ltr hL, ↓gd_m hL, ↓gd_0 hL, gd_t, Option.bind_some, bd2_some, bd3_some, bd4_some, gm_some, gm_none, ↓reduceIte, or_self, or_false, false_or, or_true, true_or, and_self, and_true, true_and, and_false, false_and, not_false_eq_true, not_true_eq_false, Nat.reduceAdd, Nat.reduceMul, Int32.reduceLT, Int32.reduceLE, eq_self, ev_lit, ev_10, Int32.reduceToNatClampNeg, Nat.reduceLeDiff, Nat.reduceEqDiff, Nat.reduceLT, nI_clamp, ev_ng, ev_L1, ev_L2, ev_L3, ev_K1, ev_K2, ev_K3, ev_K4, ev_K5, ev_a1, ev_m1, ev_s1, ev_s2, nI_add, ev_nle, ev_le, ev_lt, ev_nlt, ev_ne, ev_eq, ev_uI hL, ev_uJ hL, ev_m hL, ev_mr hL, ev_mt hL, ev_mz hL, ev_mj hL, ev_n8 hL, ev_n64 hL, ev_n229 hL, ev_n254 hL, ev_n257 hL, ev_n259 hL, ev_n260 hL, ev_n261 hL, ev_0 hL, ev_00 hL, ev_01 hL, ev_02 hL, ev_1 hL, ev_1n hL, ev_1r hL, ev_lg hL, ev_lr hL, ev_sr hL, ev_2 hL, ev_2n hL, ev_3 hL, ev_30 hL, ev_31 hL, ev_4 hL, ev_4n hL, ev_5 hL, ev_5n hL, ev_4r hL, ev_lt1 hL, ev_ltr hL, ev_lnt hL, ev_lnn hL, ev_7 hL, ev_7n hL, ev_uE, ev_uK]
  | true =>
    obtain ⟨hr, hQ⟩ := hL.qy hi he
    have t0 := hQ.1.1
    have hth := isThere_eq2 (J := J) hL h hi he
    have e6 := (h.1 i hi).2.2.1 he
    by_cases e : nu i = 0
    · rw [if_pos e] at hth
      simp (disch := omega) only [f_H_seek_b2, hr, t0, hth, f_H_seek_b36, ↓bnd_in, ↓Option.bind_some, ↓bd2_some, ↓bd3_some, ↓bd4_some, ↓ew_mr hL, ↓ew_00 hL, ↓ew_01 hL, ↓ew_02 hL, ↓ew_1r hL, ↓ew_lr hL, ↓ew_30 hL, ↓ew_31 hL, ↓ew_4r hL, ↓ew_ltr hL, ↓gd_m hL, ↓gd_0 hL, gd_t, Option.bind_some, bd2_some, bd3_some, bd4_some, gm_some, gm_none, ↓reduceIte, or_self, or_false, false_or, or_true, true_or, and_self, and_true, true_and, and_false, false_and, not_false_eq_true, not_true_eq_false, Nat.reduceAdd, Nat.reduceMul, Int32.reduceLT, Int32.reduceLE, eq_self, ev_lit, ev_10, Int32.reduceToNatClampNeg, Nat.reduceLeDiff, Nat.reduceEqDiff, Nat.reduceLT, nI_clamp, ev_ng, ev_L1, ev_L2, ev_L3, ev_K1, ev_K2, ev_K3, ev_K4, ev_K5, ev_a1, ev_m1, ev_s1, ev_s2, nI_add, ev_nle, ev_le, ev_lt, ev_nlt, ev_ne, ev_eq, ev_uI hL, ev_uJ hL, ev_m hL, ev_mr hL, ev_mt hL, ev_mz hL, ev_mj hL, ev_n8 hL, ev_n64 hL, ev_n229 hL, ev_n254 hL, ev_n257 hL, ev_n259 hL, ev_n260 hL, ev_n261 hL, ev_0 hL, ev_00 hL, ev_01 hL, ev_02 hL, ev_1 hL, ev_1n hL, ev_1r hL, ev_lg hL, ev_lr hL, ev_sr hL, ev_2 hL, ev_2n hL, ev_3 hL, ev_30 hL, ev_31 hL, ev_4 hL, ev_4n hL, ev_5 hL, ev_5n hL, ev_4r hL, ev_lt1 hL, ev_ltr hL, ev_lnt hL, ev_lnn hL, ev_7 hL, ev_7n hL, ev_uE, ev_uK]
    · rw [if_neg e] at hth
      have hv' : ¬ nI (nu i) = v := fun q => hv (by omega) q.symm
      simp (disch := omega) only [f_H_seek_b2, hr, t0, hth, e6, hv', f_H_seek_b36, ↓bnd_in, ↓Option.bind_some, ↓bd2_some, ↓bd3_some, ↓bd4_some, ↓ew_mr hL, ↓ew_00 hL, ↓ew_01 hL, ↓ew_02 hL, ↓ew_1r hL, ↓ew_lr hL, ↓ew_30 hL, ↓ew_31 hL, ↓ew_4r hL, ↓ew_ltr hL, ↓gd_m hL, ↓gd_0 hL, gd_t, Option.bind_some, bd2_some, bd3_some, bd4_some, gm_some, gm_none, ↓reduceIte, or_self, or_false, false_or, or_true, true_or, and_self, and_true, true_and, and_false, false_and, not_false_eq_true, not_true_eq_false, Nat.reduceAdd, Nat.reduceMul, Int32.reduceLT, Int32.reduceLE, eq_self, ev_lit, ev_10, Int32.reduceToNatClampNeg, Nat.reduceLeDiff, Nat.reduceEqDiff, Nat.reduceLT, nI_clamp, ev_ng, ev_L1, ev_L2, ev_L3, ev_K1, ev_K2, ev_K3, ev_K4, ev_K5, ev_a1, ev_m1, ev_s1, ev_s2, nI_add, ev_nle, ev_le, ev_lt, ev_nlt, ev_ne, ev_eq, ev_uI hL, ev_uJ hL, ev_m hL, ev_mr hL, ev_mt hL, ev_mz hL, ev_mj hL, ev_n8 hL, ev_n64 hL, ev_n229 hL, ev_n254 hL, ev_n257 hL, ev_n259 hL, ev_n260 hL, ev_n261 hL, ev_0 hL, ev_00 hL, ev_01 hL, ev_02 hL, ev_1 hL, ev_1n hL, ev_1r hL, ev_lg hL, ev_lr hL, ev_sr hL, ev_2 hL, ev_2n hL, ev_3 hL, ev_30 hL, ev_31 hL, ev_4 hL, ev_4n hL, ev_5 hL, ev_5n hL, ev_4r hL, ev_lt1 hL, ev_ltr hL, ev_lnt hL, ev_lnn hL, ev_7 hL, ev_7n hL, ev_uE, ev_uK]
theorem seek_hit2 (hL : Lay S A ex) {nu : Nat → Nat} (h : Nums2 A I Ir ex nu) {q : Nat} (hq : q < 8) (hn : 0 < nu q) : ∀ (g i n : Nat), i + g = q → g < n → f_H_seek_b2 S I J n (A 0) (nI (nu q)) (nI i) = some (some (A (300 + 40 * q))) := by
  intro g
  induction g with
  | zero =>
    intro i n hi hg
    obtain ⟨n, rfl⟩ : ∃ k, n = k + 1 := ⟨n - 1, by omega⟩
    have hi : i = q := by omega
    subst hi
    obtain ⟨hr, hQ⟩ := hL.qy hq (h.mk hq hn)
    have t0 := hQ.1.1
    have hth := isThere_eq2 (J := J) hL h hq (h.mk hq hn)
    rw [if_neg (by omega)] at hth
    have e6 := (h.1 i hq).2.2.1 (h.mk hq hn)
    have hb := (h.1 i hq).1
    simp (disch := omega) only [f_H_seek_b2, hr, t0, hth, e6, ↓bnd_in, ↓Option.bind_some, ↓bd2_some, ↓bd3_some, ↓bd4_some, ↓ew_mr hL, ↓ew_00 hL, ↓ew_01 hL, ↓ew_02 hL, ↓ew_1r hL, ↓ew_lr hL, ↓ew_30 hL, ↓ew_31 hL, ↓ew_4r hL, ↓ew_ltr hL, ↓gd_m hL, ↓gd_0 hL, gd_t, Option.bind_some, bd2_some, bd3_some, bd4_some, gm_some, gm_none, ↓reduceIte, or_self, or_false, false_or, or_true, true_or, and_self, and_true, true_and, and_false, false_and, not_false_eq_true, not_true_eq_false, Nat.reduceAdd, Nat.reduceMul, Int32.reduceLT, Int32.reduceLE, eq_self, ev_lit, ev_10, Int32.reduceToNatClampNeg, Nat.reduceLeDiff, Nat.reduceEqDiff, Nat.reduceLT, nI_clamp, ev_ng, ev_L1, ev_L2, ev_L3, ev_K1, ev_K2, ev_K3, ev_K4, ev_K5, ev_a1, ev_m1, ev_s1, ev_s2, nI_add, ev_nle, ev_le, ev_lt, ev_nlt, ev_ne, ev_eq, ev_uI hL, ev_uJ hL, ev_m hL, ev_mr hL, ev_mt hL, ev_mz hL, ev_mj hL, ev_n8 hL, ev_n64 hL, ev_n229 hL, ev_n254 hL, ev_n257 hL, ev_n259 hL, ev_n260 hL, ev_n261 hL, ev_0 hL, ev_00 hL, ev_01 hL, ev_02 hL, ev_1 hL, ev_1n hL, ev_1r hL, ev_lg hL, ev_lr hL, ev_sr hL, ev_2 hL, ev_2n hL, ev_3 hL, ev_30 hL, ev_31 hL, ev_4 hL, ev_4n hL, ev_5 hL, ev_5n hL, ev_4r hL, ev_lt1 hL, ev_ltr hL, ev_lnt hL, ev_lnn hL, ev_7 hL, ev_7n hL, ev_uE, ev_uK]
  | succ g ih =>
    intro i n hi hg
    obtain ⟨n, rfl⟩ : ∃ k, n = k + 1 := ⟨n - 1, by omega⟩
    rw [seek_skip2 hL h (by omega) (fun hp e => by
      have := (nI_eq (a := nu q) (b := nu i) (by have := (h.1 q hq).1; omega) (by have := (h.1 i (by omega)).1; omega)).mp e
      have := h.2 i q (by omega) hq this.symm hp
      omega)]
    exact ih (i + 1) n (by omega) (by omega)
theorem seek_miss2 (hL : Lay S A ex) {nu : Nat → Nat} (h : Nums2 A I Ir ex nu) {v : Int32} (hv : ∀ q, q < 8 → 0 < nu q → v ≠ nI (nu q)) : ∀ (g i n : Nat), i + g = 8 → g < n → f_H_seek_b2 S I J n (A 0) v (nI i) = some none := by
  intro g
  induction g with
  | zero =>
    intro i n hi hg
    obtain ⟨n, rfl⟩ : ∃ k, n = k + 1 := ⟨n - 1, by omega⟩
    simp (disch := omega) only [f_H_seek_b2, ↓bnd_in, ↓Option.bind_some, ↓bd2_some, ↓bd3_some, ↓bd4_some, ↓ew_mr hL, ↓ew_00 hL, ↓ew_01 hL, ↓ew_02 hL, ↓ew_1r hL, ↓ew_lr hL, ↓ew_30 hL, ↓ew_31 hL, ↓ew_4r hL, ↓ew_ltr hL, ↓gd_m hL, ↓gd_0 hL, gd_t, Option.bind_some, bd2_some, bd3_some, bd4_some, gm_some, gm_none, ↓reduceIte, or_self, or_false, false_or, or_true, true_or, and_self, and_true, true_and, and_false, false_and, not_false_eq_true, not_true_eq_false, Nat.reduceAdd, Nat.reduceMul, Int32.reduceLT, Int32.reduceLE, eq_self, ev_lit, ev_10, Int32.reduceToNatClampNeg, Nat.reduceLeDiff, Nat.reduceEqDiff, Nat.reduceLT, nI_clamp, ev_ng, ev_L1, ev_L2, ev_L3, ev_K1, ev_K2, ev_K3, ev_K4, ev_K5, ev_a1, ev_m1, ev_s1, ev_s2, nI_add, ev_nle, ev_le, ev_lt, ev_nlt, ev_ne, ev_eq, ev_uI hL, ev_uJ hL, ev_m hL, ev_mr hL, ev_mt hL, ev_mz hL, ev_mj hL, ev_n8 hL, ev_n64 hL, ev_n229 hL, ev_n254 hL, ev_n257 hL, ev_n259 hL, ev_n260 hL, ev_n261 hL, ev_0 hL, ev_00 hL, ev_01 hL, ev_02 hL, ev_1 hL, ev_1n hL, ev_1r hL, ev_lg hL, ev_lr hL, ev_sr hL, ev_2 hL, ev_2n hL, ev_3 hL, ev_30 hL, ev_31 hL, ev_4 hL, ev_4n hL, ev_5 hL, ev_5n hL, ev_4r hL, ev_lt1 hL, ev_ltr hL, ev_lnt hL, ev_lnn hL, ev_7 hL, ev_7n hL, ev_uE, ev_uK]
  | succ g ih =>
    intro i n hi hg
    obtain ⟨n, rfl⟩ : ∃ k, n = k + 1 := ⟨n - 1, by omega⟩
    rw [seek_skip2 hL h (by omega) (hv i (by omega))]
    exact ih (i + 1) n (by omega) (by omega)
theorem place_hit2 (hL : Lay S A ex) {nu : Nat → Nat} (h : Nums2 A Ic I ex nu) {q : Nat} (hq : q < 8) (hn : 0 < nu q) : ∀ (g i n : Nat) (it : Int32), i + g = 8 → g < n → (i ≤ q ∨ it = nI q) → f_M_placeOf_b4 S I J n (A 6) (nI (nu q)) it (nI i) = some (nI q) := by
  have hb := (h.1 q hq).1
  intro g
  induction g with
  | zero =>
    intro i n it hi hg hit
    obtain ⟨n, rfl⟩ : ∃ k, n = k + 1 := ⟨n - 1, by omega⟩
    simp (disch := omega) only [f_M_placeOf_b4, ↓bnd_in, ↓Option.bind_some, ↓bd2_some, ↓bd3_some, ↓bd4_some, ↓ew_mr hL, ↓ew_00 hL, ↓ew_01 hL, ↓ew_02 hL, ↓ew_1r hL, ↓ew_lr hL, ↓ew_30 hL, ↓ew_31 hL, ↓ew_4r hL, ↓ew_ltr hL, ↓gd_m hL, ↓gd_0 hL, gd_t, Option.bind_some, bd2_some, bd3_some, bd4_some, gm_some, gm_none, ↓reduceIte, or_self, or_false, false_or, or_true, true_or, and_self, and_true, true_and, and_false, false_and, not_false_eq_true, not_true_eq_false, Nat.reduceAdd, Nat.reduceMul, Int32.reduceLT, Int32.reduceLE, eq_self, ev_lit, ev_10, Int32.reduceToNatClampNeg, Nat.reduceLeDiff, Nat.reduceEqDiff, Nat.reduceLT, nI_clamp, ev_ng, ev_L1, ev_L2, ev_L3, ev_K1, ev_K2, ev_K3, ev_K4, ev_K5, ev_a1, ev_m1, ev_s1, ev_s2, nI_add, ev_nle, ev_le, ev_lt, ev_nlt, ev_ne, ev_eq, ev_uI hL, ev_uJ hL, ev_m hL, ev_mr hL, ev_mt hL, ev_mz hL, ev_mj hL, ev_n8 hL, ev_n64 hL, ev_n229 hL, ev_n254 hL, ev_n257 hL, ev_n259 hL, ev_n260 hL, ev_n261 hL, ev_0 hL, ev_00 hL, ev_01 hL, ev_02 hL, ev_1 hL, ev_1n hL, ev_1r hL, ev_lg hL, ev_lr hL, ev_sr hL, ev_2 hL, ev_2n hL, ev_3 hL, ev_30 hL, ev_31 hL, ev_4 hL, ev_4n hL, ev_5 hL, ev_5n hL, ev_4r hL, ev_lt1 hL, ev_ltr hL, ev_lnt hL, ev_lnn hL, ev_7 hL, ev_7n hL, ev_uE, ev_uK]
    rw [hit.resolve_left (by omega)]
  | succ g ih =>
    intro i n it hi hg hit
    obtain ⟨n, rfl⟩ : ∃ k, n = k + 1 := ⟨n - 1, by omega⟩
    have e1 := (h.1 i (by omega)).2.1
    have hbi := (h.1 i (by omega)).1
    by_cases e : nu i = nu q
    · have : i = q := (h.2 q i hq (by omega) e.symm hn).symm
      subst this
      simp (disch := omega) only [f_M_placeOf_b4, e1, f_M_placeOf_b29, ↓bnd_in, ↓Option.bind_some, ↓bd2_some, ↓bd3_some, ↓bd4_some, ↓ew_mr hL, ↓ew_00 hL, ↓ew_01 hL, ↓ew_02 hL, ↓ew_1r hL, ↓ew_lr hL, ↓ew_30 hL, ↓ew_31 hL, ↓ew_4r hL, ↓ew_ltr hL, ↓gd_m hL, ↓gd_0 hL, gd_t, Option.bind_some, bd2_some, bd3_some, bd4_some, gm_some, gm_none, ↓reduceIte, or_self, or_false, false_or, or_true, true_or, and_self, and_true, true_and, and_false, false_and, not_false_eq_true, not_true_eq_false, Nat.reduceAdd, Nat.reduceMul, Int32.reduceLT, Int32.reduceLE, eq_self, ev_lit, ev_10, Int32.reduceToNatClampNeg, Nat.reduceLeDiff, Nat.reduceEqDiff, Nat.reduceLT, nI_clamp, ev_ng, ev_L1, ev_L2, ev_L3, ev_K1, ev_K2, ev_K3, ev_K4, ev_K5, ev_a1, ev_m1, ev_s1, ev_s2, nI_add, ev_nle, ev_le, ev_lt, ev_nlt, ev_ne, ev_eq, ev_uI hL, ev_uJ hL, ev_m hL, ev_mr hL, ev_mt hL, ev_mz hL, ev_mj hL, ev_n8 hL, ev_n64 hL, ev_n229 hL, ev_n254 hL, ev_n257 hL, ev_n259 hL, ev_n260 hL, ev_n261 hL, ev_0 hL, ev_00 hL, ev_01 hL, ev_02 hL, ev_1 hL, ev_1n hL, ev_1r hL, ev_lg hL, ev_lr hL, ev_sr hL, ev_2 hL, ev_2n hL, ev_3 hL, ev_30 hL, ev_31 hL, ev_4 hL, ev_4n hL, ev_5 hL, ev_5n hL, ev_4r hL, ev_lt1 hL, ev_ltr hL, ev_lnt hL, ev_lnn hL, ev_7 hL, ev_7n hL, ev_uE, ev_uK]
      exact ih (i + 1) n _ (by omega) (by omega) (Or.inr rfl)
    · simp (disch := omega) only [f_M_placeOf_b4, e1, e, f_M_placeOf_b28, f_M_placeOf_b29, ↓bnd_in, ↓Option.bind_some, ↓bd2_some, ↓bd3_some, ↓bd4_some, ↓ew_mr hL, ↓ew_00 hL, ↓ew_01 hL, ↓ew_02 hL, ↓ew_1r hL, ↓ew_lr hL, ↓ew_30 hL, ↓ew_31 hL, ↓ew_4r hL, ↓ew_ltr hL, ↓gd_m hL, ↓gd_0 hL, gd_t, Option.bind_some, bd2_some, bd3_some, bd4_some, gm_some, gm_none, ↓reduceIte, or_self, or_false, false_or, or_true, true_or, and_self, and_true, true_and, and_false, false_and, not_false_eq_true, not_true_eq_false, Nat.reduceAdd, Nat.reduceMul, Int32.reduceLT, Int32.reduceLE, eq_self, ev_lit, ev_10, Int32.reduceToNatClampNeg, Nat.reduceLeDiff, Nat.reduceEqDiff, Nat.reduceLT, nI_clamp, ev_ng, ev_L1, ev_L2, ev_L3, ev_K1, ev_K2, ev_K3, ev_K4, ev_K5, ev_a1, ev_m1, ev_s1, ev_s2, nI_add, ev_nle, ev_le, ev_lt, ev_nlt, ev_ne, ev_eq, ev_uI hL, ev_uJ hL, ev_m hL, ev_mr hL, ev_mt hL, ev_mz hL, ev_mj hL, ev_n8 hL, ev_n64 hL, ev_n229 hL, ev_n254 hL, ev_n257 hL, ev_n259 hL, ev_n260 hL, ev_n261 hL, ev_0 hL, ev_00 hL, ev_01 hL, ev_02 hL, ev_1 hL, ev_1n hL, ev_1r hL, ev_lg hL, ev_lr hL, ev_sr hL, ev_2 hL, ev_2n hL, ev_3 hL, ev_30 hL, ev_31 hL, ev_4 hL, ev_4n hL, ev_5 hL, ev_5n hL, ev_4r hL, ev_lt1 hL, ev_ltr hL, ev_lnt hL, ev_lnn hL, ev_7 hL, ev_7n hL, ev_uE, ev_uK]
      refine ih (i + 1) n _ (by omega) (by omega) ?_
      rcases hit with h1 | h1
      · by_cases e2 : i = q
        · subst e2; exact absurd rfl e
        · exact Or.inl (by omega)
      · exact Or.inr h1
theorem place_miss2 (hL : Lay S A ex) {nu : Nat → Nat} (h : Nums2 A Ic I ex nu) {v : Int32} (hv : ∀ q, q < 8 → 0 < nu q → v ≠ nI (nu q)) : ∀ (g i n : Nat), i + g = 8 → g < n → f_M_placeOf_b4 S I J n (A 6) v (-1) (nI i) = some (-1) := by
  intro g
  induction g with
  | zero =>
    intro i n hi hg
    obtain ⟨n, rfl⟩ : ∃ k, n = k + 1 := ⟨n - 1, by omega⟩
    simp (disch := omega) only [f_M_placeOf_b4, ↓bnd_in, ↓Option.bind_some, ↓bd2_some, ↓bd3_some, ↓bd4_some, ↓ew_mr hL, ↓ew_00 hL, ↓ew_01 hL, ↓ew_02 hL, ↓ew_1r hL, ↓ew_lr hL, ↓ew_30 hL, ↓ew_31 hL, ↓ew_4r hL, ↓ew_ltr hL, ↓gd_m hL, ↓gd_0 hL, gd_t, Option.bind_some, bd2_some, bd3_some, bd4_some, gm_some, gm_none, ↓reduceIte, or_self, or_false, false_or, or_true, true_or, and_self, and_true, true_and, and_false, false_and, not_false_eq_true, not_true_eq_false, Nat.reduceAdd, Nat.reduceMul, Int32.reduceLT, Int32.reduceLE, eq_self, ev_lit, ev_10, Int32.reduceToNatClampNeg, Nat.reduceLeDiff, Nat.reduceEqDiff, Nat.reduceLT, nI_clamp, ev_ng, ev_L1, ev_L2, ev_L3, ev_K1, ev_K2, ev_K3, ev_K4, ev_K5, ev_a1, ev_m1, ev_s1, ev_s2, nI_add, ev_nle, ev_le, ev_lt, ev_nlt, ev_ne, ev_eq, ev_uI hL, ev_uJ hL, ev_m hL, ev_mr hL, ev_mt hL, ev_mz hL, ev_mj hL, ev_n8 hL, ev_n64 hL, ev_n229 hL, ev_n254 hL, ev_n257 hL, ev_n259 hL, ev_n260 hL, ev_n261 hL, ev_0 hL, ev_00 hL, ev_01 hL, ev_02 hL, ev_1 hL, ev_1n hL, ev_1r hL, ev_lg hL, ev_lr hL, ev_sr hL, ev_2 hL, ev_2n hL, ev_3 hL, ev_30 hL, ev_31 hL, ev_4 hL, ev_4n hL, ev_5 hL, ev_5n hL, ev_4r hL, ev_lt1 hL, ev_ltr hL, ev_lnt hL, ev_lnn hL, ev_7 hL, ev_7n hL, ev_uE, ev_uK]
  | succ g ih =>
    intro i n hi hg
    obtain ⟨n, rfl⟩ : ∃ k, n = k + 1 := ⟨n - 1, by omega⟩
    have e1 := (h.1 i (by omega)).2.1
    have hbi := (h.1 i (by omega)).1
    by_cases h0 : v ≤ 0
    · simp (disch := omega) only [f_M_placeOf_b4, h0, f_M_placeOf_b28, f_M_placeOf_b29, ↓bnd_in, ↓Option.bind_some, ↓bd2_some, ↓bd3_some, ↓bd4_some, ↓ew_mr hL, ↓ew_00 hL, ↓ew_01 hL, ↓ew_02 hL, ↓ew_1r hL, ↓ew_lr hL, ↓ew_30 hL, ↓ew_31 hL, ↓ew_4r hL, ↓ew_ltr hL, ↓gd_m hL, ↓gd_0 hL, gd_t, Option.bind_some, bd2_some, bd3_some, bd4_some, gm_some, gm_none, ↓reduceIte, or_self, or_false, false_or, or_true, true_or, and_self, and_true, true_and, and_false, false_and, not_false_eq_true, not_true_eq_false, Nat.reduceAdd, Nat.reduceMul, Int32.reduceLT, Int32.reduceLE, eq_self, ev_lit, ev_10, Int32.reduceToNatClampNeg, Nat.reduceLeDiff, Nat.reduceEqDiff, Nat.reduceLT, nI_clamp, ev_ng, ev_L1, ev_L2, ev_L3, ev_K1, ev_K2, ev_K3, ev_K4, ev_K5, ev_a1, ev_m1, ev_s1, ev_s2, nI_add, ev_nle, ev_le, ev_lt, ev_nlt, ev_ne, ev_eq, ev_uI hL, ev_uJ hL, ev_m hL, ev_mr hL, ev_mt hL, ev_mz hL, ev_mj hL, ev_n8 hL, ev_n64 hL, ev_n229 hL, ev_n254 hL, ev_n257 hL, ev_n259 hL, ev_n260 hL, ev_n261 hL, ev_0 hL, ev_00 hL, ev_01 hL, ev_02 hL, ev_1 hL, ev_1n hL, ev_1r hL, ev_lg hL, ev_lr hL, ev_sr hL, ev_2 hL, ev_2n hL, ev_3 hL, ev_30 hL, ev_31 hL, ev_4 hL, ev_4n hL, ev_5 hL, ev_5n hL, ev_4r hL, ev_lt1 hL, ev_ltr hL, ev_lnt hL, ev_lnn hL, ev_7 hL, ev_7n hL, ev_uE, ev_uK]
      exact ih (i + 1) n (by omega) (by omega)
    · have hne : ¬ nI (nu i) = v := fun q => by
        by_cases hp : 0 < nu i
        · exact hv i (by omega) hp q.symm
        · rw [show nu i = 0 by omega] at q
          exact h0 (by rw [← q]; decide)
      simp (disch := omega) only [f_M_placeOf_b4, h0, e1, hne, f_M_placeOf_b28, f_M_placeOf_b29, ↓bnd_in, ↓Option.bind_some, ↓bd2_some, ↓bd3_some, ↓bd4_some, ↓ew_mr hL, ↓ew_00 hL, ↓ew_01 hL, ↓ew_02 hL, ↓ew_1r hL, ↓ew_lr hL, ↓ew_30 hL, ↓ew_31 hL, ↓ew_4r hL, ↓ew_ltr hL, ↓gd_m hL, ↓gd_0 hL, gd_t, Option.bind_some, bd2_some, bd3_some, bd4_some, gm_some, gm_none, ↓reduceIte, or_self, or_false, false_or, or_true, true_or, and_self, and_true, true_and, and_false, false_and, not_false_eq_true, not_true_eq_false, Nat.reduceAdd, Nat.reduceMul, Int32.reduceLT, Int32.reduceLE, eq_self, ev_lit, ev_10, Int32.reduceToNatClampNeg, Nat.reduceLeDiff, Nat.reduceEqDiff, Nat.reduceLT, nI_clamp, ev_ng, ev_L1, ev_L2, ev_L3, ev_K1, ev_K2, ev_K3, ev_K4, ev_K5, ev_a1, ev_m1, ev_s1, ev_s2, nI_add, ev_nle, ev_le, ev_lt, ev_nlt, ev_ne, ev_eq, ev_uI hL, ev_uJ hL, ev_m hL, ev_mr hL, ev_mt hL, ev_mz hL, ev_mj hL, ev_n8 hL, ev_n64 hL, ev_n229 hL, ev_n254 hL, ev_n257 hL, ev_n259 hL, ev_n260 hL, ev_n261 hL, ev_0 hL, ev_00 hL, ev_01 hL, ev_02 hL, ev_1 hL, ev_1n hL, ev_1r hL, ev_lg hL, ev_lr hL, ev_sr hL, ev_2 hL, ev_2n hL, ev_3 hL, ev_30 hL, ev_31 hL, ev_4 hL, ev_4n hL, ev_5 hL, ev_5n hL, ev_4r hL, ev_lt1 hL, ev_ltr hL, ev_lnt hL, ev_lnn hL, ev_7 hL, ev_7n hL, ev_uE, ev_uK]
      exact ih (i + 1) n (by omega) (by omega)
/-- class and reference find the same place, or both none -/
theorem find_both2 (hL : Lay S A ex) {nu : Nat → Nat} (h : Nums2 A Ic Ir ex nu) (v : Int32) : (∃ q, q < 8 ∧ 0 < nu q ∧ v = nI (nu q) ∧ ex q = true ∧ (∀ J, f_H_questionOf S Ic J (A 0) v = some (0, some (A (300 + 40 * q)))) ∧ (∀ J, f_H_seek S Ic J (A 0) v = some (some (A (300 + 40 * q)))) ∧ ∀ J, f_M_placeOf S Ir J (A 6) v = some (nI q)) ∨ ((∀ q, q < 8 → 0 < nu q → v ≠ nI (nu q)) ∧ (∀ J, f_H_questionOf S Ic J (A 0) v = some (1, none)) ∧ (∀ J, f_H_seek S Ic J (A 0) v = some none) ∧ ∀ J, f_M_placeOf S Ir J (A 6) v = some (-1)) := by
  by_cases hx : ∃ q, q < 8 ∧ 0 < nu q ∧ v = nI (nu q)
  · obtain ⟨q, hq, hn, rfl⟩ := hx
    have hs : ∀ J, f_H_seek S Ic J (A 0) (nI (nu q)) = some (some (A (300 + 40 * q))) := fun J => seek_hit2 hL h hq hn q 0 gFuel (by omega) (by unfold gFuel; omega)
    refine Or.inl ⟨q, hq, hn, rfl, h.mk hq hn, fun J => ?_, hs, fun J => place_hit2 hL h hq hn 8 0 gFuel _ (by omega) (by unfold gFuel; omega) (Or.inl (by omega))⟩
    simp (disch := omega) only [f_H_questionOf, ↓ob_h (hs _), ↓gm_some, ↓bnd_in, ↓Option.bind_some, ↓bd2_some, ↓bd3_some, ↓bd4_some, ↓ew_mr hL, ↓ew_00 hL, ↓ew_01 hL, ↓ew_02 hL, ↓ew_1r hL, ↓ew_lr hL, ↓ew_30 hL, ↓ew_31 hL, ↓ew_4r hL, ↓ew_ltr hL, ↓gd_m hL, ↓gd_0 hL, gd_t, Option.bind_some, bd2_some, bd3_some, bd4_some, gm_some, gm_none, ↓reduceIte, or_self, or_false, false_or, or_true, true_or, and_self, and_true, true_and, and_false, false_and, not_false_eq_true, not_true_eq_false, Nat.reduceAdd, Nat.reduceMul, Int32.reduceLT, Int32.reduceLE, eq_self, ev_lit, ev_10, Int32.reduceToNatClampNeg, Nat.reduceLeDiff, Nat.reduceEqDiff, Nat.reduceLT, nI_clamp, ev_ng, ev_L1, ev_L2, ev_L3, ev_K1, ev_K2, ev_K3, ev_K4, ev_K5, ev_a1, ev_m1, ev_s1, ev_s2, nI_add, ev_nle, ev_le, ev_lt, ev_nlt, ev_ne, ev_eq, ev_uI hL, ev_uJ hL, ev_m hL, ev_mr hL, ev_mt hL, ev_mz hL, ev_mj hL, ev_n8 hL, ev_n64 hL, ev_n229 hL, ev_n254 hL, ev_n257 hL, ev_n259 hL, ev_n260 hL, ev_n261 hL, ev_0 hL, ev_00 hL, ev_01 hL, ev_02 hL, ev_1 hL, ev_1n hL, ev_1r hL, ev_lg hL, ev_lr hL, ev_sr hL, ev_2 hL, ev_2n hL, ev_3 hL, ev_30 hL, ev_31 hL, ev_4 hL, ev_4n hL, ev_5 hL, ev_5n hL, ev_4r hL, ev_lt1 hL, ev_ltr hL, ev_lnt hL, ev_lnn hL, ev_7 hL, ev_7n hL, ev_uE, ev_uK]
  · have hv : ∀ q, q < 8 → 0 < nu q → v ≠ nI (nu q) := fun q hq hn e => hx ⟨q, hq, hn, e⟩
    have hs : ∀ J, f_H_seek S Ic J (A 0) v = some none := fun J => seek_miss2 hL h hv 8 0 gFuel (by omega) (by unfold gFuel; omega)
    refine Or.inr ⟨hv, fun J => ?_, hs, fun J => place_miss2 hL h hv 8 0 gFuel (by omega) (by unfold gFuel; omega)⟩
    simp (disch := omega) only [f_H_questionOf, ↓ob_h (hs _), ↓gm_none, ↓bnd_in, ↓Option.bind_some, ↓bd2_some, ↓bd3_some, ↓bd4_some, ↓ew_mr hL, ↓ew_00 hL, ↓ew_01 hL, ↓ew_02 hL, ↓ew_1r hL, ↓ew_lr hL, ↓ew_30 hL, ↓ew_31 hL, ↓ew_4r hL, ↓ew_ltr hL, ↓gd_m hL, ↓gd_0 hL, gd_t, Option.bind_some, bd2_some, bd3_some, bd4_some, gm_some, gm_none, ↓reduceIte, or_self, or_false, false_or, or_true, true_or, and_self, and_true, true_and, and_false, false_and, not_false_eq_true, not_true_eq_false, Nat.reduceAdd, Nat.reduceMul, Int32.reduceLT, Int32.reduceLE, eq_self, ev_lit, ev_10, Int32.reduceToNatClampNeg, Nat.reduceLeDiff, Nat.reduceEqDiff, Nat.reduceLT, nI_clamp, ev_ng, ev_L1, ev_L2, ev_L3, ev_K1, ev_K2, ev_K3, ev_K4, ev_K5, ev_a1, ev_m1, ev_s1, ev_s2, nI_add, ev_nle, ev_le, ev_lt, ev_nlt, ev_ne, ev_eq, ev_uI hL, ev_uJ hL, ev_m hL, ev_mr hL, ev_mt hL, ev_mz hL, ev_mj hL, ev_n8 hL, ev_n64 hL, ev_n229 hL, ev_n254 hL, ev_n257 hL, ev_n259 hL, ev_n260 hL, ev_n261 hL, ev_0 hL, ev_00 hL, ev_01 hL, ev_02 hL, ev_1 hL, ev_1n hL, ev_1r hL, ev_lg hL, ev_lr hL, ev_sr hL, ev_2 hL, ev_2n hL, ev_3 hL, ev_30 hL, ev_31 hL, ev_4 hL, ev_4n hL, ev_5 hL, ev_5n hL, ev_4r hL, ev_lt1 hL, ev_ltr hL, ev_lnt hL, ev_lnn hL, ev_7 hL, ev_7n hL, ev_uE, ev_uK]
end SEEK2

section SEQ
variable {S : gS} {A : Nat → Nat} {ex : Nat → Bool} {b b' N c : Nat} {sz pi am nu : Nat → Nat} {fz : Nat → Nat → Option Nat} {cm : Nat → Nat → Bool} {gc : Nat → Nat → Nat} {Ic Ir I : gMI} {Jc Jr J : gMJ}
theorem R4.nums (h : R4 (mI A Ic Ir) (mJ A Jc Jr) ex b sz c pi am fz cm gc nu N) : Nums2 A Ic Ir ex nu := by
  obtain ⟨a1, a2, a3, a4, a5, a6⟩ := h.2.2.2.1
  refine ⟨fun q hq => ⟨?_, h.num hq, fun he => ?_, (a6 q hq).2⟩, a5⟩
  · have := (a4 q hq).2
    omega
  · have := ((a6 q hq).1 he).1.1
    simp (disch := omega) only [mI_c, mI_r, mJ_c, mJ_r] at this
    exact this.trans (h.num hq)
theorem mI_self : mI A I I = cI A I := by
  funext d k
  unfold mI mx
  split <;> rfl
theorem mJ_self : mJ A J J = cJ A J := by
  funext d k
  unfold mJ mx
  split <;> rfl
theorem Rel.ghosts {M : gMI} {K : gMJ} (h : Rel M K ex b) : ∃ sz c pi am fz cm gc nu N, R4 M K ex b sz c pi am fz cm gc nu N := h
theorem R4.rel {M : gMI} {K : gMJ} (h : R4 M K ex b sz c pi am fz cm gc nu N) : Rel M K ex b := ⟨sz, c, pi, am, fz, cm, gc, nu, N, h⟩
/-- class first, then the reference on what the class left: out of both side by side -/
theorem seq_of {α β : Type} {F : α → gMI → gMJ → Prop} {G : gMI → gMJ → β → gMI → gMJ → Prop} {P : α → β → Prop} (hL : Lay S A ex) (hF : ∀ x I1 J1 x' I2 J2, F x I1 J1 → F x' I2 J2 → x = x' ∧ I1 = I2 ∧ J1 = J2) (hr : Rel (cI A I) (cJ A J) ex b)
    (hj : ∀ Ir Jr, Rel (mI A I Ir) (mJ A J Jr) ex b → ∃ x Ic' Jc' y Ir' Jr', F x Ic' Jc' ∧ G Ir Jr y Ir' Jr' ∧ P x y ∧ Ir' (A 6) 0 = 0 ∧ Rel (mI A Ic' Ir') (mJ A Jc' Jr') ex b' ∧ FrC A I Ic' ∧ FrC A J Jc' ∧ FrR A Ir Ir' ∧ FrR A Jr Jr') (w : α → Int64) :
    ∃ x Ic' Jc' y I2 J2, F x Ic' Jc' ∧ G Ic' (upJ Jc' (A 7) 0 (w x)) y I2 J2 ∧ P x y ∧ I2 (A 6) 0 = 0 ∧ J2 (A 7) 0 = w x ∧ Rel (cI A I2) (cJ A J2) ex b' := by
  obtain ⟨x, Ic', Jc', -, -, -, f1, -, -, -, -, f2, f3, -, -⟩ := hj I J (by rw [mI_self, mJ_self]; exact hr)
  have e1 : mI A I Ic' = cI A I := by
    funext d k
    by_cases e : d = 6 ∨ (226 ≤ d ∧ d < 263)
    · rw [mI_r e]; exact f2 d k (by omega)
    · rw [mI_c e]; rfl
  have e2 : mJ A J (upJ Jc' (A 7) 0 (w x)) = cJ A J := by
    funext d k
    by_cases e : d = 6 ∨ (226 ≤ d ∧ d < 263)
    · rw [mJ_r e, ev_uJ hL (by omega)]; exact f3 d k (by omega)
    · rw [mJ_c e]; rfl
  obtain ⟨x', Ic2, Jc2, y, I2, J2, g1, g2, g3, g4, g5, -, -, g8, g9⟩ := hj Ic' (upJ Jc' (A 7) 0 (w x)) (by rw [e1, e2]; exact hr)
  obtain ⟨rfl, rfl, rfl⟩ := hF _ _ _ _ _ _ f1 g1
  refine ⟨x, Ic', Jc', y, I2, J2, f1, g2, g3, g4, ?_, ?_⟩
  · rw [g9 7 0 (by omega), ev_uK]
  · obtain ⟨sz, c, pi, am, fz, cm, gc, nu, N, h⟩ := g5.ghosts
    refine (h.buf (fun d k _ _ => ?_) (fun d k d1 d2 => ?_)).rel
    · by_cases e : d = 6 ∨ (226 ≤ d ∧ d < 263)
      · rw [mI_r e]; rfl
      · rw [mI_c e]; exact g8 d k e
    · by_cases e : d = 6 ∨ (226 ≤ d ∧ d < 263)
      · rw [mJ_r e]; rfl
      · rw [mJ_c e]
        show J2 (A d) k = _
        rw [g9 d k e, ev_uJ hL (by omega)]
theorem op_resend (hL : Lay S A ex) (hb : b < 2 ^ 30) (hr : Rel (cI A I) (cJ A J) ex b) (v : Int32) : ∃ k I1 J1 r I2 J2, f_L_resend S I J (A 0) v (A 7) = some (k, I1, J1) ∧ f_M_resend S I1 J1 (A 6) v = some (r, I2, J2) ∧ I2 (A 6) 0 = k ∧ (k = 0 → J2 (A 7) 0 = r.toInt64) ∧ Rel (cI A I2) (cJ A J2) ex b := by
  have hr0 := hr
  obtain ⟨sz, c, pi, am, fz, cm, gc, nu, N, h⟩ := hr0.ghosts
  rw [← mI_self, ← mJ_self] at h
  rcases find_both2 hL h.nums v with ⟨q, hq, hn, rfl, he, f1, f2, f3⟩ | ⟨hv, f1, f2, f3⟩
  · have t0 := (hL.qy hq he).2.1.1
    have es : I (A (300 + 40 * q)) 14 = I (A 238) q := by
      have := ((h.2.2.2.1.2.2.2.2.2 q hq).1 he).1.2.2.2.2.2.2.2.1
      simp (disch := omega) only [mI_c, mI_r, mJ_c, mJ_r] at this
      exact this
    have hm1 : ¬ nI q = (-1 : Int32) := fun e => by
      have := (nI_pos' (n := q) (by omega))
      rw [e] at this
      exact absurd this (by decide)
    by_cases e0 : I (A 238) q = 0
    · obtain ⟨x, Ic', Jc', y, I2, J2, g1, g2, g3, g4, g5, g6⟩ := seq_of (b' := b) (F := fun x Ic' Jc' => f_H_resend S I J (A 0) (nI (nu q)) = some (0, x, Ic', Jc')) (G := fun Ir Jr y Ir' Jr' => f_M_resend S Ir Jr (A 6) (nI (nu q)) = some (y, Ir', Jr')) (P := fun x y => x = y) hL (fun x I1 J1 x' I2 J2 a1 a2 => by
          rw [a1] at a2
          simp only [Option.some.injEq, Prod.mk.injEq, true_and] at a2
          exact a2) hr (fun Ir Jr h' => by
        obtain ⟨sz, c, pi, am, fz, cm, gc, nu', N, h'⟩ := h'.ghosts
        have en := h'.nums
        have e9 : nu' q = nu q := by
          have a1 := (en.1 q hq).2.2.1 he
          have a2 := (h.nums.1 q hq).2.2.1 he
          have l1 := (en.1 q hq).1
          have l2 := (h.nums.1 q hq).1
          exact (nI_eq (by omega) (by omega)).mp (a1.symm.trans a2)
        have hn' : 0 < nu' q := by omega
        have s0 : Ir (A 238) q = 0 := by
          have := ((h'.2.2.2.1.2.2.2.2.2 q hq).1 he).1.2.2.2.2.2.2.2.1
          simp (disch := omega) only [mI_c, mI_r, mJ_c, mJ_r] at this
          rw [← this, es, e0]
        have hpl : ∀ J, f_M_placeOf S Ir J (A 6) (nI (nu q)) = some (nI q) := fun J => by
          rw [← e9]; exact place_hit2 hL en hq hn' 8 0 gFuel _ (by omega) (by unfold gFuel; omega) (Or.inl (by omega))
        have h1 : R4 (mI A I (upI Ir (A 6) 0 0)) (mJ A J Jr) ex b sz c pi am fz cm gc nu' N := h'.buf (fun d k d1 d2 => by
            by_cases e : d = 6 ∨ (226 ≤ d ∧ d < 263)
            · rw [mI_r e, mI_r e, ev_uI hL (by omega)]
            · rw [mI_c e, mI_c e]) (fun _ _ _ _ => rfl)
        obtain ⟨na, Ir1, r1, r2, r3⟩ := rdy_ask hL hq he hn' h1 (by rw [ev_uI hL (by omega)]; exact s0)
        have h2 : R4 (mI A I Ir1) (mJ A J (upJ Jr (A 6) 38 0)) ex b sz c pi am fz cm gc nu' N := h1.buf (fun d k d1 d2 => by
            by_cases e : d = 6 ∨ (226 ≤ d ∧ d < 263)
            · rw [mI_r e, mI_r e, r3 _ _ (by omega) (by omega)]
            · rw [mI_c e, mI_c e]) (fun d k d1 d2 => by
            by_cases e : d = 6 ∨ (226 ≤ d ∧ d < 263)
            · rw [mJ_r e, mJ_r e, ev_uJ hL (by omega)]
            · rw [mJ_c e, mJ_c e])
        obtain ⟨r, Ic', Jc', Ir', Jr', c', am', s1, s2, s3, s4, s5, s6, s7, s8⟩ := rs_loop hL hb hq he hn' 8 0 gFuel gFuel 0 I J Ir1 (upJ Jr (A 6) 38 0) c am (by omega) (by unfold gFuel; omega) (by unfold gFuel; omega) h2 (by rw [r3 _ _ (by omega) (by omega), ev_uI hL (by omega)]; exact s0) r2
        rw [show nI 0 = (0 : Int32) from rfl] at s1 s2
        rw [e9] at s2
        refine ⟨r, Ic', Jc', r, Ir', Jr', ?_, ?_, rfl, ?_, s3.rel, s4, s5, fun d k hd => ?_, fun d k hd => ?_⟩
        · have s1' : f_H_askThoseLeft S I J (A 0) (A (300 + 40 * q)) = some (r, Ic', Jc') := s1
          simp (disch := omega) only [f_H_resend, ↓b2_h (f1 _), t0, es, e0, ↓b3_h s1', ↓bnd_in, ↓Option.bind_some, ↓bd2_some, ↓bd3_some, ↓bd4_some, ↓ew_mr hL, ↓ew_00 hL, ↓ew_01 hL, ↓ew_02 hL, ↓ew_1r hL, ↓ew_lr hL, ↓ew_30 hL, ↓ew_31 hL, ↓ew_4r hL, ↓ew_ltr hL, ↓gd_m hL, ↓gd_0 hL, gd_t, Option.bind_some, bd2_some, bd3_some, bd4_some, gm_some, gm_none, ↓reduceIte, or_self, or_false, false_or, or_true, true_or, and_self, and_true, true_and, and_false, false_and, not_false_eq_true, not_true_eq_false, Nat.reduceAdd, Nat.reduceMul, Int32.reduceLT, Int32.reduceLE, eq_self, ev_lit, ev_10, Int32.reduceToNatClampNeg, Nat.reduceLeDiff, Nat.reduceEqDiff, Nat.reduceLT, nI_clamp, ev_ng, ev_L1, ev_L2, ev_L3, ev_K1, ev_K2, ev_K3, ev_K4, ev_K5, ev_a1, ev_m1, ev_s1, ev_s2, nI_add, ev_nle, ev_le, ev_lt, ev_nlt, ev_ne, ev_eq, ev_uI hL, ev_uJ hL, ev_m hL, ev_mr hL, ev_mt hL, ev_mz hL, ev_mj hL, ev_n8 hL, ev_n64 hL, ev_n229 hL, ev_n254 hL, ev_n257 hL, ev_n259 hL, ev_n260 hL, ev_n261 hL, ev_0 hL, ev_00 hL, ev_01 hL, ev_02 hL, ev_1 hL, ev_1n hL, ev_1r hL, ev_lg hL, ev_lr hL, ev_sr hL, ev_2 hL, ev_2n hL, ev_3 hL, ev_30 hL, ev_31 hL, ev_4 hL, ev_4n hL, ev_5 hL, ev_5n hL, ev_4r hL, ev_lt1 hL, ev_ltr hL, ev_lnt hL, ev_lnn hL, ev_7 hL, ev_7n hL, ev_uE, ev_uK]
        · simp (disch := omega) only [f_M_resend, ↓ob_h (hpl _), hm1, s0, f_M_resend_b30, Int32.reduceLE, Int32.le_refl, ↓b2_h r1, ↓bnd_in, ↓Option.bind_some, ↓bd2_some, ↓bd3_some, ↓bd4_some, ↓ew_mr hL, ↓ew_00 hL, ↓ew_01 hL, ↓ew_02 hL, ↓ew_1r hL, ↓ew_lr hL, ↓ew_30 hL, ↓ew_31 hL, ↓ew_4r hL, ↓ew_ltr hL, ↓gd_m hL, ↓gd_0 hL, gd_t, Option.bind_some, bd2_some, bd3_some, bd4_some, gm_some, gm_none, ↓reduceIte, or_self, or_false, false_or, or_true, true_or, and_self, and_true, true_and, and_false, false_and, not_false_eq_true, not_true_eq_false, Nat.reduceAdd, Nat.reduceMul, Int32.reduceLT, Int32.reduceLE, eq_self, ev_lit, ev_10, Int32.reduceToNatClampNeg, Nat.reduceLeDiff, Nat.reduceEqDiff, Nat.reduceLT, nI_clamp, ev_ng, ev_L1, ev_L2, ev_L3, ev_K1, ev_K2, ev_K3, ev_K4, ev_K5, ev_a1, ev_m1, ev_s1, ev_s2, nI_add, ev_nle, ev_le, ev_lt, ev_nlt, ev_ne, ev_eq, ev_uI hL, ev_uJ hL, ev_m hL, ev_mr hL, ev_mt hL, ev_mz hL, ev_mj hL, ev_n8 hL, ev_n64 hL, ev_n229 hL, ev_n254 hL, ev_n257 hL, ev_n259 hL, ev_n260 hL, ev_n261 hL, ev_0 hL, ev_00 hL, ev_01 hL, ev_02 hL, ev_1 hL, ev_1n hL, ev_1r hL, ev_lg hL, ev_lr hL, ev_sr hL, ev_2 hL, ev_2n hL, ev_3 hL, ev_30 hL, ev_31 hL, ev_4 hL, ev_4n hL, ev_5 hL, ev_5n hL, ev_4r hL, ev_lt1 hL, ev_ltr hL, ev_lnt hL, ev_lnn hL, ev_7 hL, ev_7n hL, ev_uE, ev_uK]
          exact s2
        · rw [s8, r3 _ _ (by omega) (by omega), ev_uE]
        · rw [s6 d k hd, r3 _ _ (by omega) (by omega), ev_uI hL (by omega)]
        · rw [s7 d k hd, ev_uJ hL (by omega)]) (fun x => x.toInt64)
      subst g3
      refine ⟨0, Ic', _, x, I2, J2, ?_, g2, g4, fun _ => g5, g6⟩
      simp (disch := omega) only [f_L_resend, ↓b4_h g1, ↓bnd_in, ↓Option.bind_some, ↓bd2_some, ↓bd3_some, ↓bd4_some, ↓ew_mr hL, ↓ew_00 hL, ↓ew_01 hL, ↓ew_02 hL, ↓ew_1r hL, ↓ew_lr hL, ↓ew_30 hL, ↓ew_31 hL, ↓ew_4r hL, ↓ew_ltr hL, ↓gd_m hL, ↓gd_0 hL, gd_t, Option.bind_some, bd2_some, bd3_some, bd4_some, gm_some, gm_none, ↓reduceIte, or_self, or_false, false_or, or_true, true_or, and_self, and_true, true_and, and_false, false_and, not_false_eq_true, not_true_eq_false, Nat.reduceAdd, Nat.reduceMul, Int32.reduceLT, Int32.reduceLE, eq_self, ev_lit, ev_10, Int32.reduceToNatClampNeg, Nat.reduceLeDiff, Nat.reduceEqDiff, Nat.reduceLT, nI_clamp, ev_ng, ev_L1, ev_L2, ev_L3, ev_K1, ev_K2, ev_K3, ev_K4, ev_K5, ev_a1, ev_m1, ev_s1, ev_s2, nI_add, ev_nle, ev_le, ev_lt, ev_nlt, ev_ne, ev_eq, ev_uI hL, ev_uJ hL, ev_m hL, ev_mr hL, ev_mt hL, ev_mz hL, ev_mj hL, ev_n8 hL, ev_n64 hL, ev_n229 hL, ev_n254 hL, ev_n257 hL, ev_n259 hL, ev_n260 hL, ev_n261 hL, ev_0 hL, ev_00 hL, ev_01 hL, ev_02 hL, ev_1 hL, ev_1n hL, ev_1r hL, ev_lg hL, ev_lr hL, ev_sr hL, ev_2 hL, ev_2n hL, ev_3 hL, ev_30 hL, ev_31 hL, ev_4 hL, ev_4n hL, ev_5 hL, ev_5n hL, ev_4r hL, ev_lt1 hL, ev_ltr hL, ev_lnt hL, ev_lnn hL, ev_7 hL, ev_7n hL, ev_uE, ev_uK]
    · refine ⟨2, I, J, 0, upI I (A 6) 0 2, J, ?_, ?_, ev_uE, fun q => absurd q (by decide), hr.th hL 2⟩
      · simp (disch := omega) only [f_L_resend, f_H_resend, ↓b2_h (f1 _), t0, es, e0, ↓b4_h rfl, ↓bnd_in, ↓Option.bind_some, ↓bd2_some, ↓bd3_some, ↓bd4_some, ↓ew_mr hL, ↓ew_00 hL, ↓ew_01 hL, ↓ew_02 hL, ↓ew_1r hL, ↓ew_lr hL, ↓ew_30 hL, ↓ew_31 hL, ↓ew_4r hL, ↓ew_ltr hL, ↓gd_m hL, ↓gd_0 hL, gd_t, Option.bind_some, bd2_some, bd3_some, bd4_some, gm_some, gm_none, ↓reduceIte, or_self, or_false, false_or, or_true, true_or, and_self, and_true, true_and, and_false, false_and, not_false_eq_true, not_true_eq_false, Nat.reduceAdd, Nat.reduceMul, Int32.reduceLT, Int32.reduceLE, eq_self, ev_lit, ev_10, Int32.reduceToNatClampNeg, Nat.reduceLeDiff, Nat.reduceEqDiff, Nat.reduceLT, nI_clamp, ev_ng, ev_L1, ev_L2, ev_L3, ev_K1, ev_K2, ev_K3, ev_K4, ev_K5, ev_a1, ev_m1, ev_s1, ev_s2, nI_add, ev_nle, ev_le, ev_lt, ev_nlt, ev_ne, ev_eq, ev_uI hL, ev_uJ hL, ev_m hL, ev_mr hL, ev_mt hL, ev_mz hL, ev_mj hL, ev_n8 hL, ev_n64 hL, ev_n229 hL, ev_n254 hL, ev_n257 hL, ev_n259 hL, ev_n260 hL, ev_n261 hL, ev_0 hL, ev_00 hL, ev_01 hL, ev_02 hL, ev_1 hL, ev_1n hL, ev_1r hL, ev_lg hL, ev_lr hL, ev_sr hL, ev_2 hL, ev_2n hL, ev_3 hL, ev_30 hL, ev_31 hL, ev_4 hL, ev_4n hL, ev_5 hL, ev_5n hL, ev_4r hL, ev_lt1 hL, ev_ltr hL, ev_lnt hL, ev_lnn hL, ev_7 hL, ev_7n hL, ev_uE, ev_uK]
      · simp (disch := omega) only [f_M_resend, ↓ob_h (f3 _), hm1, e0, f_M_resend_b30, ↓bnd_in, ↓Option.bind_some, ↓bd2_some, ↓bd3_some, ↓bd4_some, ↓ew_mr hL, ↓ew_00 hL, ↓ew_01 hL, ↓ew_02 hL, ↓ew_1r hL, ↓ew_lr hL, ↓ew_30 hL, ↓ew_31 hL, ↓ew_4r hL, ↓ew_ltr hL, ↓gd_m hL, ↓gd_0 hL, gd_t, Option.bind_some, bd2_some, bd3_some, bd4_some, gm_some, gm_none, ↓reduceIte, or_self, or_false, false_or, or_true, true_or, and_self, and_true, true_and, and_false, false_and, not_false_eq_true, not_true_eq_false, Nat.reduceAdd, Nat.reduceMul, Int32.reduceLT, Int32.reduceLE, eq_self, ev_lit, ev_10, Int32.reduceToNatClampNeg, Nat.reduceLeDiff, Nat.reduceEqDiff, Nat.reduceLT, nI_clamp, ev_ng, ev_L1, ev_L2, ev_L3, ev_K1, ev_K2, ev_K3, ev_K4, ev_K5, ev_a1, ev_m1, ev_s1, ev_s2, nI_add, ev_nle, ev_le, ev_lt, ev_nlt, ev_ne, ev_eq, ev_uI hL, ev_uJ hL, ev_m hL, ev_mr hL, ev_mt hL, ev_mz hL, ev_mj hL, ev_n8 hL, ev_n64 hL, ev_n229 hL, ev_n254 hL, ev_n257 hL, ev_n259 hL, ev_n260 hL, ev_n261 hL, ev_0 hL, ev_00 hL, ev_01 hL, ev_02 hL, ev_1 hL, ev_1n hL, ev_1r hL, ev_lg hL, ev_lr hL, ev_sr hL, ev_2 hL, ev_2n hL, ev_3 hL, ev_30 hL, ev_31 hL, ev_4 hL, ev_4n hL, ev_5 hL, ev_5n hL, ev_4r hL, ev_lt1 hL, ev_ltr hL, ev_lnt hL, ev_lnn hL, ev_7 hL, ev_7n hL, ev_uE, ev_uK]
  · refine ⟨1, I, J, 0, upI I (A 6) 0 1, J, ?_, ?_, ev_uE, fun q => absurd q (by decide), hr.th hL 1⟩
    · simp (disch := omega) only [f_L_resend, f_H_resend, ↓b2_h (f1 _), ↓b4_h rfl, ↓bnd_in, ↓Option.bind_some, ↓bd2_some, ↓bd3_some, ↓bd4_some, ↓ew_mr hL, ↓ew_00 hL, ↓ew_01 hL, ↓ew_02 hL, ↓ew_1r hL, ↓ew_lr hL, ↓ew_30 hL, ↓ew_31 hL, ↓ew_4r hL, ↓ew_ltr hL, ↓gd_m hL, ↓gd_0 hL, gd_t, Option.bind_some, bd2_some, bd3_some, bd4_some, gm_some, gm_none, ↓reduceIte, or_self, or_false, false_or, or_true, true_or, and_self, and_true, true_and, and_false, false_and, not_false_eq_true, not_true_eq_false, Nat.reduceAdd, Nat.reduceMul, Int32.reduceLT, Int32.reduceLE, eq_self, ev_lit, ev_10, Int32.reduceToNatClampNeg, Nat.reduceLeDiff, Nat.reduceEqDiff, Nat.reduceLT, nI_clamp, ev_ng, ev_L1, ev_L2, ev_L3, ev_K1, ev_K2, ev_K3, ev_K4, ev_K5, ev_a1, ev_m1, ev_s1, ev_s2, nI_add, ev_nle, ev_le, ev_lt, ev_nlt, ev_ne, ev_eq, ev_uI hL, ev_uJ hL, ev_m hL, ev_mr hL, ev_mt hL, ev_mz hL, ev_mj hL, ev_n8 hL, ev_n64 hL, ev_n229 hL, ev_n254 hL, ev_n257 hL, ev_n259 hL, ev_n260 hL, ev_n261 hL, ev_0 hL, ev_00 hL, ev_01 hL, ev_02 hL, ev_1 hL, ev_1n hL, ev_1r hL, ev_lg hL, ev_lr hL, ev_sr hL, ev_2 hL, ev_2n hL, ev_3 hL, ev_30 hL, ev_31 hL, ev_4 hL, ev_4n hL, ev_5 hL, ev_5n hL, ev_4r hL, ev_lt1 hL, ev_ltr hL, ev_lnt hL, ev_lnn hL, ev_7 hL, ev_7n hL, ev_uE, ev_uK]
    · simp (disch := omega) only [f_M_resend, ↓ob_h (f3 _), f_M_resend_b30, ↓bnd_in, ↓Option.bind_some, ↓bd2_some, ↓bd3_some, ↓bd4_some, ↓ew_mr hL, ↓ew_00 hL, ↓ew_01 hL, ↓ew_02 hL, ↓ew_1r hL, ↓ew_lr hL, ↓ew_30 hL, ↓ew_31 hL, ↓ew_4r hL, ↓ew_ltr hL, ↓gd_m hL, ↓gd_0 hL, gd_t, Option.bind_some, bd2_some, bd3_some, bd4_some, gm_some, gm_none, ↓reduceIte, or_self, or_false, false_or, or_true, true_or, and_self, and_true, true_and, and_false, false_and, not_false_eq_true, not_true_eq_false, Nat.reduceAdd, Nat.reduceMul, Int32.reduceLT, Int32.reduceLE, eq_self, ev_lit, ev_10, Int32.reduceToNatClampNeg, Nat.reduceLeDiff, Nat.reduceEqDiff, Nat.reduceLT, nI_clamp, ev_ng, ev_L1, ev_L2, ev_L3, ev_K1, ev_K2, ev_K3, ev_K4, ev_K5, ev_a1, ev_m1, ev_s1, ev_s2, nI_add, ev_nle, ev_le, ev_lt, ev_nlt, ev_ne, ev_eq, ev_uI hL, ev_uJ hL, ev_m hL, ev_mr hL, ev_mt hL, ev_mz hL, ev_mj hL, ev_n8 hL, ev_n64 hL, ev_n229 hL, ev_n254 hL, ev_n257 hL, ev_n259 hL, ev_n260 hL, ev_n261 hL, ev_0 hL, ev_00 hL, ev_01 hL, ev_02 hL, ev_1 hL, ev_1n hL, ev_1r hL, ev_lg hL, ev_lr hL, ev_sr hL, ev_2 hL, ev_2n hL, ev_3 hL, ev_30 hL, ev_31 hL, ev_4 hL, ev_4n hL, ev_5 hL, ev_5n hL, ev_4r hL, ev_lt1 hL, ev_ltr hL, ev_lnt hL, ev_lnn hL, ev_7 hL, ev_7n hL, ev_uE, ev_uK]
end SEQ
