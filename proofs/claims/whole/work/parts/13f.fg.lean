-- forget, as the law sees it
section FG2
variable {S : gS} {A : Nat → Nat} {ex : Nat → Bool} {I I' : gMI} {J : gMJ} {b : Nat}
/-- the reference finds the place by its own numbers -/
theorem place_hitR (hL : Lay S A ex) {nu : Nat → Nat} (h1 : ∀ q, q < 8 → nu q < 2 ^ 20 ∧ I (A 231) q = nI (nu q)) (h2 : ∀ q p, q < 8 → p < 8 → nu q = nu p → 0 < nu q → q = p) {q : Nat} (hq : q < 8) (hn : 0 < nu q) : ∀ (g i n : Nat) (it : Int32), i + g = 8 → g < n → (i ≤ q ∨ it = nI q) → f_M_placeOf_b4 S I J n (A 6) (nI (nu q)) it (nI i) = some (nI q) := by
  have hb := (h1 q hq).1
  intro g
  induction g with
  | zero =>
    intro i n it hi hg hit
    obtain ⟨n, rfl⟩ : ∃ k, n = k + 1 := ⟨n - 1, by omega⟩
    simp (disch := omega) only [f_M_placeOf_b4, ↓bnd_in, ↓Option.bind_some, ↓bd2_some, ↓bd3_some, ↓bd4_some, ↓ew_mr hL, ↓ew_00 hL, ↓ew_01 hL, ↓ew_02 hL, ↓ew_1r hL, ↓ew_lr hL, ↓ew_30 hL, ↓ew_31 hL, ↓ew_4r hL, ↓ew_ltr hL, ↓gd_m hL, ↓gd_0 hL, gd_t, Option.bind_some, bd2_some, bd3_some, bd4_some, gm_some, gm_none, ↓reduceIte, or_self, or_false, false_or, or_true, true_or, and_self, and_true, true_and, and_false, false_and, not_false_eq_true, not_true_eq_false, Nat.reduceAdd, Nat.reduceMul, Int32.reduceLT, Int32.reduceLE, eq_self, ev_lit, ev_10, Int32.reduceToNatClampNeg, Nat.reduceLeDiff, Nat.reduceEqDiff, Nat.reduceLT, nI_clamp, ev_ng, ev_L1, ev_L2, ev_L3, ev_K1, ev_K2, ev_K3, ev_K4, ev_K5, ev_a1, ev_m1, ev_s1, ev_s2, nI_add, ev_nle, ev_le, ev_lt, ev_nlt, ev_ne, ev_eq, ev_uI hL, ev_uJ hL, ev_m hL, ev_mr hL, ev_mt hL, ev_mz hL, ev_mj hL, ev_n8 hL, ev_n64 hL, ev_n229 hL, ev_n254 hL, ev_n257 hL, ev_n259 hL, ev_n260 hL, ev_n261 hL, ev_0 hL, ev_00 hL, ev_01 hL, ev_02 hL, ev_1 hL, ev_1n hL, ev_1r hL, ev_lg hL, ev_lr hL, ev_sr hL, ev_2 hL, ev_2n hL, ev_3 hL, ev_30 hL, ev_31 hL, ev_4 hL, ev_4n hL, ev_5 hL, ev_5n hL, ev_4r hL, ev_lt1 hL, ev_ltr hL, ev_lnt hL, ev_lnn hL, ev_7 hL, ev_7n hL, ev_uE, ev_uK]
    rw [hit.resolve_left (by omega)]
  | succ g ih =>
    intro i n it hi hg hit
    obtain ⟨n, rfl⟩ : ∃ k, n = k + 1 := ⟨n - 1, by omega⟩
    have e1 := (h1 i (by omega)).2
    have hbi := (h1 i (by omega)).1
    by_cases e : nu i = nu q
    · have : i = q := (h2 q i hq (by omega) e.symm hn).symm
      subst this
      simp (disch := omega) only [f_M_placeOf_b4, e1, f_M_placeOf_b29, ↓bnd_in, ↓Option.bind_some, ↓bd2_some, ↓bd3_some, ↓bd4_some, ↓ew_mr hL, ↓ew_00 hL, ↓ew_01 hL, ↓ew_02 hL, ↓ew_1r hL, ↓ew_lr hL, ↓ew_30 hL, ↓ew_31 hL, ↓ew_4r hL, ↓ew_ltr hL, ↓gd_m hL, ↓gd_0 hL, gd_t, Option.bind_some, bd2_some, bd3_some, bd4_some, gm_some, gm_none, ↓reduceIte, or_self, or_false, false_or, or_true, true_or, and_self, and_true, true_and, and_false, false_and, not_false_eq_true, not_true_eq_false, Nat.reduceAdd, Nat.reduceMul, Int32.reduceLT, Int32.reduceLE, eq_self, ev_lit, ev_10, Int32.reduceToNatClampNeg, Nat.reduceLeDiff, Nat.reduceEqDiff, Nat.reduceLT, nI_clamp, ev_ng, ev_L1, ev_L2, ev_L3, ev_K1, ev_K2, ev_K3, ev_K4, ev_K5, ev_a1, ev_m1, ev_s1, ev_s2, nI_add, ev_nle, ev_le, ev_lt, ev_nlt, ev_ne, ev_eq, ev_uI hL, ev_uJ hL, ev_m hL, ev_mr hL, ev_mt hL, ev_mz hL, ev_mj hL, ev_n8 hL, ev_n64 hL, ev_n229 hL, ev_n254 hL, ev_n257 hL, ev_n259 hL, ev_n260 hL, ev_n261 hL, ev_0 hL, ev_00 hL, ev_01 hL, ev_02 hL, ev_1 hL, ev_1n hL, ev_1r hL, ev_lg hL, ev_lr hL, ev_sr hL, ev_2 hL, ev_2n hL, ev_3 hL, ev_30 hL, ev_31 hL, ev_4 hL, ev_4n hL, ev_5 hL, ev_5n hL, ev_4r hL, ev_lt1 hL, ev_ltr hL, ev_lnt hL, ev_lnn hL, ev_7 hL, ev_7n hL, ev_uE, ev_uK]
      exact ih (i + 1) n _ (by omega) (by omega) (Or.inr rfl)
    · simp (disch := omega) only [f_M_placeOf_b4, e1, e, f_M_placeOf_b28, f_M_placeOf_b29, ↓bnd_in, ↓Option.bind_some, ↓bd2_some, ↓bd3_some, ↓bd4_some, ↓ew_mr hL, ↓ew_00 hL, ↓ew_01 hL, ↓ew_02 hL, ↓ew_1r hL, ↓ew_lr hL, ↓ew_30 hL, ↓ew_31 hL, ↓ew_4r hL, ↓ew_ltr hL, ↓gd_m hL, ↓gd_0 hL, gd_t, Option.bind_some, bd2_some, bd3_some, bd4_some, gm_some, gm_none, ↓reduceIte, or_self, or_false, false_or, or_true, true_or, and_self, and_true, true_and, and_false, false_and, not_false_eq_true, not_true_eq_false, Nat.reduceAdd, Nat.reduceMul, Int32.reduceLT, Int32.reduceLE, eq_self, ev_lit, ev_10, Int32.reduceToNatClampNeg, Nat.reduceLeDiff, Nat.reduceEqDiff, Nat.reduceLT, nI_clamp, ev_ng, ev_L1, ev_L2, ev_L3, ev_K1, ev_K2, ev_K3, ev_K4, ev_K5, ev_a1, ev_m1, ev_s1, ev_s2, nI_add, ev_nle, ev_le, ev_lt, ev_nlt, ev_ne, ev_eq, ev_uI hL, ev_uJ hL, ev_m hL, ev_mr hL, ev_mt hL, ev_mz hL, ev_mj hL, ev_n8 hL, ev_n64 hL, ev_n229 hL, ev_n254 hL, ev_n257 hL, ev_n259 hL, ev_n260 hL, ev_n261 hL, ev_0 hL, ev_00 hL, ev_01 hL, ev_02 hL, ev_1 hL, ev_1n hL, ev_1r hL, ev_lg hL, ev_lr hL, ev_sr hL, ev_2 hL, ev_2n hL, ev_3 hL, ev_30 hL, ev_31 hL, ev_4 hL, ev_4n hL, ev_5 hL, ev_5n hL, ev_4r hL, ev_lt1 hL, ev_ltr hL, ev_lnt hL, ev_lnn hL, ev_7 hL, ev_7n hL, ev_uE, ev_uK]
      refine ih (i + 1) n _ (by omega) (by omega) ?_
      rcases hit with h1 | h1
      · by_cases e2 : i = q
        · subst e2; exact absurd rfl e
        · exact Or.inl (by omega)
      · exact Or.inr h1
theorem isThere_C (hL : Lay S A ex) {n q : Nat} (hq : q < 8) (he : ex q = true) (hn : n < 2 ^ 20) (e6 : I (A (300 + 40 * q)) 6 = nI n) : f_Question_isThere S I J (A (300 + 40 * q)) = some (if n = 0 then 0 else 1) := by
  have t0 := (hL.qy hq he).2.1.1
  by_cases e : n = 0
  · simp (disch := omega) only [f_Question_isThere, f_Question_isThere_b12, t0, e6, e, ↓bnd_in, ↓Option.bind_some, ↓bd2_some, ↓bd3_some, ↓bd4_some, ↓ew_mr hL, ↓ew_00 hL, ↓ew_01 hL, ↓ew_02 hL, ↓ew_1r hL, ↓ew_lr hL, ↓ew_30 hL, ↓ew_31 hL, ↓ew_4r hL, ↓ew_ltr hL, ↓gd_m hL, ↓gd_0 hL, gd_t, Option.bind_some, bd2_some, bd3_some, bd4_some, gm_some, gm_none, ↓reduceIte, or_self, or_false, false_or, or_true, true_or, and_self, and_true, true_and, and_false, false_and, not_false_eq_true, not_true_eq_false, Nat.reduceAdd, Nat.reduceMul, Int32.reduceLT, Int32.reduceLE, eq_self, ev_lit, ev_10, Int32.reduceToNatClampNeg, Nat.reduceLeDiff, Nat.reduceEqDiff, Nat.reduceLT, nI_clamp, ev_ng, ev_L1, ev_L2, ev_L3, ev_K1, ev_K2, ev_K3, ev_K4, ev_K5, ev_a1, ev_m1, ev_s1, ev_s2, nI_add, ev_nle, ev_le, ev_lt, ev_nlt, ev_ne, ev_eq, ev_uI hL, ev_uJ hL, ev_m hL, ev_mr hL, ev_mt hL, ev_mz hL, ev_mj hL, ev_n8 hL, ev_n64 hL, ev_n229 hL, ev_n254 hL, ev_n257 hL, ev_n259 hL, ev_n260 hL, ev_n261 hL, ev_0 hL, ev_00 hL, ev_01 hL, ev_02 hL, ev_1 hL, ev_1n hL, ev_1r hL, ev_lg hL, ev_lr hL, ev_sr hL, ev_2 hL, ev_2n hL, ev_3 hL, ev_30 hL, ev_31 hL, ev_4 hL, ev_4n hL, ev_5 hL, ev_5n hL, ev_4r hL, ev_lt1 hL, ev_ltr hL, ev_lnt hL, ev_lnn hL, ev_7 hL, ev_7n hL, ev_uE, ev_uK]
  · simp (disch := omega) only [f_Question_isThere, f_Question_isThere_b12, t0, e6, e, ↓bnd_in, ↓Option.bind_some, ↓bd2_some, ↓bd3_some, ↓bd4_some, ↓ew_mr hL, ↓ew_00 hL, ↓ew_01 hL, ↓ew_02 hL, ↓ew_1r hL, ↓ew_lr hL, ↓ew_30 hL, ↓ew_31 hL, ↓ew_4r hL, ↓ew_ltr hL, ↓gd_m hL, ↓gd_0 hL, gd_t, Option.bind_some, bd2_some, bd3_some, bd4_some, gm_some, gm_none, ↓reduceIte, or_self, or_false, false_or, or_true, true_or, and_self, and_true, true_and, and_false, false_and, not_false_eq_true, not_true_eq_false, Nat.reduceAdd, Nat.reduceMul, Int32.reduceLT, Int32.reduceLE, eq_self, ev_lit, ev_10, Int32.reduceToNatClampNeg, Nat.reduceLeDiff, Nat.reduceEqDiff, Nat.reduceLT, nI_clamp, ev_ng, ev_L1, ev_L2, ev_L3, ev_K1, ev_K2, ev_K3, ev_K4, ev_K5, ev_a1, ev_m1, ev_s1, ev_s2, nI_add, ev_nle, ev_le, ev_lt, ev_nlt, ev_ne, ev_eq, ev_uI hL, ev_uJ hL, ev_m hL, ev_mr hL, ev_mt hL, ev_mz hL, ev_mj hL, ev_n8 hL, ev_n64 hL, ev_n229 hL, ev_n254 hL, ev_n257 hL, ev_n259 hL, ev_n260 hL, ev_n261 hL, ev_0 hL, ev_00 hL, ev_01 hL, ev_02 hL, ev_1 hL, ev_1n hL, ev_1r hL, ev_lg hL, ev_lr hL, ev_sr hL, ev_2 hL, ev_2n hL, ev_3 hL, ev_30 hL, ev_31 hL, ev_4 hL, ev_4n hL, ev_5 hL, ev_5n hL, ev_4r hL, ev_lt1 hL, ev_ltr hL, ev_lnt hL, ev_lnn hL, ev_7 hL, ev_7n hL, ev_uE, ev_uK]
theorem cntHC (hL : Lay S A ex) {nu : Nat → Nat} (h1 : ∀ q, q < 8 → nu q < 2 ^ 20) (h2 : ∀ q, q < 8 → ex q = true → I (A (300 + 40 * q)) 6 = nI (nu q)) (h3 : ∀ q, q < 8 → ex q = false → nu q = 0) : ∀ (g i n : Nat), i + g = 8 → g < n → f_H_forget_b21 S J n I (A 0) (nI (cmN (fun q => decide (0 < nu q)) i)) (nI i) = some (0, nI (cmN (fun q => decide (0 < nu q)) 8), I) := by
  intro g
  induction g with
  | zero =>
    intro i n hi hn
    obtain ⟨n, rfl⟩ : ∃ k, n = k + 1 := ⟨n - 1, by omega⟩
    have : i = 8 := by omega
    subst this
    simp (disch := omega) only [f_H_forget_b21, ↓bnd_in, ↓Option.bind_some, ↓bd2_some, ↓bd3_some, ↓bd4_some, ↓ew_mr hL, ↓ew_00 hL, ↓ew_01 hL, ↓ew_02 hL, ↓ew_1r hL, ↓ew_lr hL, ↓ew_30 hL, ↓ew_31 hL, ↓ew_4r hL, ↓ew_ltr hL, ↓gd_m hL, ↓gd_0 hL, gd_t, Option.bind_some, bd2_some, bd3_some, bd4_some, gm_some, gm_none, ↓reduceIte, or_self, or_false, false_or, or_true, true_or, and_self, and_true, true_and, and_false, false_and, not_false_eq_true, not_true_eq_false, Nat.reduceAdd, Nat.reduceMul, Int32.reduceLT, Int32.reduceLE, eq_self, ev_lit, ev_10, Int32.reduceToNatClampNeg, Nat.reduceLeDiff, Nat.reduceEqDiff, Nat.reduceLT, nI_clamp, ev_ng, ev_L1, ev_L2, ev_L3, ev_K1, ev_K2, ev_K3, ev_K4, ev_K5, ev_a1, ev_m1, ev_s1, ev_s2, nI_add, ev_nle, ev_le, ev_lt, ev_nlt, ev_ne, ev_eq, ev_uI hL, ev_uJ hL, ev_m hL, ev_mr hL, ev_mt hL, ev_mz hL, ev_mj hL, ev_n8 hL, ev_n64 hL, ev_n229 hL, ev_n254 hL, ev_n257 hL, ev_n259 hL, ev_n260 hL, ev_n261 hL, ev_0 hL, ev_00 hL, ev_01 hL, ev_02 hL, ev_1 hL, ev_1n hL, ev_1r hL, ev_lg hL, ev_lr hL, ev_sr hL, ev_2 hL, ev_2n hL, ev_3 hL, ev_30 hL, ev_31 hL, ev_4 hL, ev_4n hL, ev_5 hL, ev_5n hL, ev_4r hL, ev_lt1 hL, ev_ltr hL, ev_lnt hL, ev_lnn hL, ev_7 hL, ev_7n hL, ev_uE, ev_uK]
  | succ g ih =>
    intro i n hi hn
    obtain ⟨n, rfl⟩ : ∃ k, n = k + 1 := ⟨n - 1, by omega⟩
    have ihn := ih (i + 1) n (by omega) (by omega)
    have hno : nu i = 0 → cmN (fun q => decide (0 < nu q)) (i + 1) = cmN (fun q => decide (0 < nu q)) i := fun e => by
      show cmN (fun q => decide (0 < nu q)) i + (if decide (0 < nu i) then 1 else 0) = _
      rw [e]; rfl
    cases he : ex i with
    | false =>
      have hqn := hL.qn (by omega) he
      rw [hno (h3 i (by omega) he)] at ihn
      simp (disch := omega) only [f_H_forget_b21, hqn, f_H_forget_b51, ↓bnd_in, ↓Option.bind_some, ↓bd2_some, ↓bd3_some, ↓bd4_some, ↓ew_mr hL, ↓ew_00 hL, ↓ew_01 hL, ↓ew_02 hL, ↓ew_1r hL, ↓ew_lr hL, ↓ew_30 hL, ↓ew_31 hL, ↓ew_4r hL, ↓ew_ltr hL, ↓gd_m hL, ↓gd_0 hL, gd_t, Option.bind_some, bd2_some, bd3_some, bd4_some, gm_some, gm_none, ↓reduceIte, or_self, or_false, false_or, or_true, true_or, and_self, and_true, true_and, and_false, false_and, not_false_eq_true, not_true_eq_false, Nat.reduceAdd, Nat.reduceMul, Int32.reduceLT, Int32.reduceLE, eq_self, ev_lit, ev_10, Int32.reduceToNatClampNeg, Nat.reduceLeDiff, Nat.reduceEqDiff, Nat.reduceLT, nI_clamp, ev_ng, ev_L1, ev_L2, ev_L3, ev_K1, ev_K2, ev_K3, ev_K4, ev_K5, ev_a1, ev_m1, ev_s1, ev_s2, nI_add, ev_nle, ev_le, ev_lt, ev_nlt, ev_ne, ev_eq, ev_uI hL, ev_uJ hL, ev_m hL, ev_mr hL, ev_mt hL, ev_mz hL, ev_mj hL, ev_n8 hL, ev_n64 hL, ev_n229 hL, ev_n254 hL, ev_n257 hL, ev_n259 hL, ev_n260 hL, ev_n261 hL, ev_0 hL, ev_00 hL, ev_01 hL, ev_02 hL, ev_1 hL, ev_1n hL, ev_1r hL, ev_lg hL, ev_lr hL, ev_sr hL, ev_2 hL, ev_2n hL, ev_3 hL, ev_30 hL, ev_31 hL, ev_4 hL, ev_4n hL, ev_5 hL, ev_5n hL, ev_4r hL, ev_lt1 hL, ev_ltr hL, ev_lnt hL, ev_lnn hL, ev_7 hL, ev_7n hL, ev_uE, ev_uK]
      exact ihn
    | true =>
      obtain ⟨hr, hQ⟩ := hL.qy (by omega) he
      have t0 := hQ.1.1
      have hth := isThere_C (J := J) hL (q := i) (by omega) he (h1 i (by omega)) (h2 i (by omega) he)
      by_cases e : nu i = 0
      · rw [if_pos e] at hth
        rw [hno e] at ihn
        simp (disch := omega) only [f_H_forget_b21, hr, t0, ↓ob_h hth, f_H_forget_b51, ↓bnd_in, ↓Option.bind_some, ↓bd2_some, ↓bd3_some, ↓bd4_some, ↓ew_mr hL, ↓ew_00 hL, ↓ew_01 hL, ↓ew_02 hL, ↓ew_1r hL, ↓ew_lr hL, ↓ew_30 hL, ↓ew_31 hL, ↓ew_4r hL, ↓ew_ltr hL, ↓gd_m hL, ↓gd_0 hL, gd_t, Option.bind_some, bd2_some, bd3_some, bd4_some, gm_some, gm_none, ↓reduceIte, or_self, or_false, false_or, or_true, true_or, and_self, and_true, true_and, and_false, false_and, not_false_eq_true, not_true_eq_false, Nat.reduceAdd, Nat.reduceMul, Int32.reduceLT, Int32.reduceLE, eq_self, ev_lit, ev_10, Int32.reduceToNatClampNeg, Nat.reduceLeDiff, Nat.reduceEqDiff, Nat.reduceLT, nI_clamp, ev_ng, ev_L1, ev_L2, ev_L3, ev_K1, ev_K2, ev_K3, ev_K4, ev_K5, ev_a1, ev_m1, ev_s1, ev_s2, nI_add, ev_nle, ev_le, ev_lt, ev_nlt, ev_ne, ev_eq, ev_uI hL, ev_uJ hL, ev_m hL, ev_mr hL, ev_mt hL, ev_mz hL, ev_mj hL, ev_n8 hL, ev_n64 hL, ev_n229 hL, ev_n254 hL, ev_n257 hL, ev_n259 hL, ev_n260 hL, ev_n261 hL, ev_0 hL, ev_00 hL, ev_01 hL, ev_02 hL, ev_1 hL, ev_1n hL, ev_1r hL, ev_lg hL, ev_lr hL, ev_sr hL, ev_2 hL, ev_2n hL, ev_3 hL, ev_30 hL, ev_31 hL, ev_4 hL, ev_4n hL, ev_5 hL, ev_5n hL, ev_4r hL, ev_lt1 hL, ev_ltr hL, ev_lnt hL, ev_lnn hL, ev_7 hL, ev_7n hL, ev_uE, ev_uK]
        exact ihn
      · rw [if_neg e] at hth
        rw [show cmN (fun q => decide (0 < nu q)) (i + 1) = cmN (fun q => decide (0 < nu q)) i + 1 by
          show cmN (fun q => decide (0 < nu q)) i + (if decide (0 < nu i) then 1 else 0) = _
          rw [decide_eq_true (show 0 < nu i by omega)]; rfl] at ihn
        simp (disch := omega) only [f_H_forget_b21, hr, t0, ↓ob_h hth, f_H_forget_b51, ↓bnd_in, ↓Option.bind_some, ↓bd2_some, ↓bd3_some, ↓bd4_some, ↓ew_mr hL, ↓ew_00 hL, ↓ew_01 hL, ↓ew_02 hL, ↓ew_1r hL, ↓ew_lr hL, ↓ew_30 hL, ↓ew_31 hL, ↓ew_4r hL, ↓ew_ltr hL, ↓gd_m hL, ↓gd_0 hL, gd_t, Option.bind_some, bd2_some, bd3_some, bd4_some, gm_some, gm_none, ↓reduceIte, or_self, or_false, false_or, or_true, true_or, and_self, and_true, true_and, and_false, false_and, not_false_eq_true, not_true_eq_false, Nat.reduceAdd, Nat.reduceMul, Int32.reduceLT, Int32.reduceLE, eq_self, ev_lit, ev_10, Int32.reduceToNatClampNeg, Nat.reduceLeDiff, Nat.reduceEqDiff, Nat.reduceLT, nI_clamp, ev_ng, ev_L1, ev_L2, ev_L3, ev_K1, ev_K2, ev_K3, ev_K4, ev_K5, ev_a1, ev_m1, ev_s1, ev_s2, nI_add, ev_nle, ev_le, ev_lt, ev_nlt, ev_ne, ev_eq, ev_uI hL, ev_uJ hL, ev_m hL, ev_mr hL, ev_mt hL, ev_mz hL, ev_mj hL, ev_n8 hL, ev_n64 hL, ev_n229 hL, ev_n254 hL, ev_n257 hL, ev_n259 hL, ev_n260 hL, ev_n261 hL, ev_0 hL, ev_00 hL, ev_01 hL, ev_02 hL, ev_1 hL, ev_1n hL, ev_1r hL, ev_lg hL, ev_lr hL, ev_sr hL, ev_2 hL, ev_2n hL, ev_3 hL, ev_30 hL, ev_31 hL, ev_4 hL, ev_4n hL, ev_5 hL, ev_5n hL, ev_4r hL, ev_lt1 hL, ev_ltr hL, ev_lnt hL, ev_lnn hL, ev_7 hL, ev_7n hL, ev_uE, ev_uK]
        exact ihn
theorem op_forget (hL : Lay S A ex) (hr : Rel (cI A I) (cJ A J) ex b) (v : Int32) : ∃ k I1 J1 r I2 J2, f_L_forget S I J (A 0) v (A 7) = some (k, I1, J1) ∧ f_M_forget S I1 J1 (A 6) v = some (r, I2, J2) ∧ I2 (A 6) 0 = k ∧ (k = 0 → J2 (A 7) 0 = r.toInt64) ∧ Rel (cI A I2) (cJ A J2) ex b := by
  have hr0 := hr
  obtain ⟨sz, c, pi, am, fz, cm, gc, nu, N, hN, h1, h2, h3, h4⟩ := hr0
  have hnu := h3.nums
  rcases find_both hL hnu v with ⟨q, hq, hn, rfl, he, f1, f2, f3⟩ | ⟨hv, f1, f2, f3⟩
  · have hp := h2
    obtain ⟨p1, p2, p3, p4, p5, p6⟩ := hp
    have q2 : I (A 3) 2 = nI c := p2
    have q3 : I (A 6) 32 = nI c := p3
    have t0 := (hL.qy hq he).2.1.1
    obtain ⟨nu', hnu'⟩ : ∃ nu' : Nat → Nat, nu' = fun x => if x = q then 0 else nu x := ⟨_, rfl⟩
    have nq : nu' q = 0 := by rw [hnu']; exact if_pos rfl
    have nn : ∀ x, x ≠ q → nu' x = nu x := fun x hx => by rw [hnu']; exact if_neg hx
    -- first time: the class's end
    have P7 : RPost (mx (cI A (upI I (A (300 + 40 * q)) 6 0)) (cI A I)) (mx (cJ A J) (cJ A J)) c pi am := h2.congr (fun d k hd => by
        by_cases e : d = 6 ∨ (226 ≤ d ∧ d < 263)
        · rw [mx_r e]
        · rw [mx_c e]; exact ev_uI hL (by omega)) (mx_r (by omega)) (fun d k hd => by
        by_cases e : d = 6 ∨ (226 ≤ d ∧ d < 263)
        · rw [mx_r e]
        · rw [mx_c e])
    obtain ⟨Ic', -, -, -, -, -, -, s1, -, -, -, s5, -, -⟩ := fg_loop (v := nI (nu q)) (vq := nI q) hL c gFuel gFuel _ _ _ c pi am P7 (Nat.le_refl c) (by unfold gFuel; omega) (by unfold gFuel; omega) (fun i a1 a2 => by omega)
    -- second time: both
    obtain ⟨J1, hJ1⟩ : ∃ J1 : gMJ, J1 = upJ J (A 7) 0 (nI (cmN (fun x => decide (0 < nu' x)) 8)).toInt64 := ⟨_, rfl⟩
    have P8 : RPost (mx (cI A (upI I (A (300 + 40 * q)) 6 0)) (cI A (upI Ic' (A 6) 0 0))) (mx (cJ A J) (cJ A J1)) c pi am := h2.congr (fun d k hd => by
        by_cases e : d = 6 ∨ (226 ≤ d ∧ d < 263)
        · rw [mx_r e]
          show upI Ic' (A 6) 0 0 (A d) k = I (A d) k
          rw [ev_uI hL (by omega), s5 d k (by omega) (by omega), ev_uI hL (by omega)]
        · rw [mx_c e]; exact ev_uI hL (by omega)) (by
        rw [mx_r (by omega)]
        show upI Ic' (A 6) 0 0 (A 6) 32 = I (A 6) 32
        rw [ev_uI hL (by omega), s5 6 32 (by omega) (by omega), ev_uI hL (by omega)]) (fun d k hd => by
        by_cases e : d = 6 ∨ (226 ≤ d ∧ d < 263)
        · rw [mx_r e]
          show J1 (A d) k = J (A d) k
          rw [hJ1, ev_uJ hL (by omega)]
        · rw [mx_c e])
    obtain ⟨Ic2, Ir', Jr', c', pi', am', m', s1', s2, s3, s4, s5', s6, s7⟩ := fg_loop (v := nI (nu q)) (vq := nI q) hL c gFuel gFuel _ _ _ c pi am P8 (Nat.le_refl c) (by unfold gFuel; omega) (by unfold gFuel; omega) (fun i a1 a2 => by omega)
    have ec : Ic2 = Ic' := Option.some.inj ((s1' J).symm.trans (s1 J))
    subst ec
    -- memories by codes
    have ki : ∀ d k, ¬ (d = 3 ∧ k = 2) → d ≠ 5 → ¬ (d = 300 + 40 * q ∧ k = 6) → Ic2 (A d) k = I (A d) k := fun d k a1 a2 a3 => by
      rw [s5 d k a1 a2, ev_uI hL (by omega)]
    have kr : ∀ d k, ¬ (d = 6 ∧ (k = 32 ∨ k = 0)) → d ≠ 259 → d ≠ 260 → Ir' (A d) k = Ic2 (A d) k := fun d k a1 a2 a3 => by
      rw [s6 d k (by omega) a2 a3, ev_uI hL (by omega)]
    obtain ⟨I2, hI2⟩ : ∃ I2 : gMI, I2 = upI Ir' (A 231) q 0 := ⟨_, rfl⟩
    have k231 : ∀ x, x < 8 → I2 (A 231) x = nI (nu' x) := fun x hx => by
      by_cases e : x = q
      · rw [hI2, e, nq, ev_uE]; rfl
      · rw [hI2, ev_uI hL (by omega), kr _ _ (by omega) (by omega) (by omega), ki _ _ (by omega) (by omega) (by omega), nn x e]; exact (hnu.1 x hx).2.1
    have k2r : ∀ d k, d ≠ 231 → I2 (A d) k = Ir' (A d) k := fun d k hd => by rw [hI2, ev_uI hL (by omega)]
    have kno : ∀ x, x < 8 → ex x = true → Ic2 (A (300 + 40 * x)) 6 = nI (nu' x) := fun x hx hex => by
      by_cases e : x = q
      · subst e
        rw [nq, s5 _ _ (by omega) (by omega), ev_uE]; rfl
      · rw [ki _ _ (by omega) (by omega) (by omega), nn x e]; exact (hnu.1 x hx).2.2.1 hex
    have nlt : ∀ x, x < 8 → nu' x < 2 ^ 20 := fun x hx => by
      by_cases e : x = q
      · rw [e, nq]; decide
      · rw [nn x e]; exact (hnu.1 x hx).1
    have nf : ∀ x, x < 8 → ex x = false → nu' x = 0 := fun x hx hex => by
      by_cases e : x = q
      · rw [e, nq]
      · rw [nn x e]; exact (hnu.1 x hx).2.2.2 hex
    have ndis : ∀ x y, x < 8 → y < 8 → nu' x = nu' y → 0 < nu' x → x = y := fun x y hx hy e hp => by
      have ex1 : x ≠ q := fun ee => by rw [ee, nq] at hp; omega
      have ey1 : y ≠ q := fun ee => by rw [e, ee, nq] at hp; omega
      rw [nn x ex1, nn y ey1] at e
      rw [nn x ex1] at hp
      exact hnu.2 x y hx hy e hp
    have n2 : Nums A I2 ex nu' := ⟨fun x hx => ⟨nlt x hx, k231 x hx, fun hex => by rw [k2r _ _ (by omega), kr _ _ (by omega) (by omega) (by omega)]; exact kno x hx hex, nf x hx⟩, ndis⟩
    have cH := cntHC (J := J) (I := Ic2) hL (nu := nu') nlt kno nf 8 0 gFuel (by omega) (by unfold gFuel; omega)
    have cM := cntM (J := Jr') hL n2 8 0 gFuel (by omega) (by unfold gFuel; omega)
    have cH : f_H_forget_b21 S J gFuel Ic2 (A 0) 0 0 = some (0, nI (cmN (fun x => decide (0 < nu' x)) 8), Ic2) := cH
    have cM : f_M_forget_b78 S gFuel I2 Jr' (A 6) 0 0 = some (nI (cmN (fun x => decide (0 < nu' x)) 8), I2, Jr') := cM
    have hm1 : ¬ nI q = (-1 : Int32) := fun e => by
      have := (nI_pos' (n := q) (by omega))
      rw [e] at this
      exact absurd this (by decide)
    have hpl : f_M_placeOf S Ic2 J1 (A 6) (nI (nu q)) = some (nI q) := place_hitR hL (fun x hx => ⟨(hnu.1 x hx).1, by rw [ki _ _ (by omega) (by omega) (by omega)]; exact (hnu.1 x hx).2.1⟩) hnu.2 hq hn 8 0 gFuel _ (by omega) (by unfold gFuel; omega) (Or.inl (by omega))
    have hlose : f_Post_loseAllOf S (upI I (A (300 + 40 * q)) 6 0) J (A 3) (nI (nu q)) = some Ic2 := by
      have s1 := s1 J
      have e32 : upI I (A (300 + 40 * q)) 6 0 (A 3) 2 = nI c := by rw [ev_uI hL (by omega)]; exact q2
      rw [f_Post_loseAllOf, gd_in (ev_3 hL), e32, bnd]
      exact s1
    have g : ∀ d k, ¬ (d = 3 ∧ k = 2) → d ≠ 5 → d ≠ 259 → d ≠ 260 → ¬ (d = 6 ∧ (k = 0 ∨ k = 32)) → ¬ (d = 231 ∧ k = q) → ¬ (d = 300 + 40 * q ∧ k = 6) → cI A I2 d k = cI A I d k := fun d k a1 a2 a3 a4 a5 a6 a7 => by
      show I2 (A d) k = I (A d) k
      rw [hI2, ev_uI hL (by omega), kr _ _ (by omega) a3 a4, ki _ _ a1 a2 a7]
    refine ⟨0, Ic2, J1, nI (cmN (fun x => decide (0 < nu' x)) 8), I2, Jr', ?_, ?_, ?_, fun _ => ?_, ?_⟩
    · rw [hJ1]
      simp (disch := omega) only [f_L_forget, f_H_forget, ↓b2_h (f1 _), t0, ↓ob_h hlose, cH, ↓bnd_in, ↓Option.bind_some, ↓bd2_some, ↓bd3_some, ↓bd4_some, ↓ew_mr hL, ↓ew_00 hL, ↓ew_01 hL, ↓ew_02 hL, ↓ew_1r hL, ↓ew_lr hL, ↓ew_30 hL, ↓ew_31 hL, ↓ew_4r hL, ↓ew_ltr hL, ↓gd_m hL, ↓gd_0 hL, gd_t, Option.bind_some, bd2_some, bd3_some, bd4_some, gm_some, gm_none, ↓reduceIte, or_self, or_false, false_or, or_true, true_or, and_self, and_true, true_and, and_false, false_and, not_false_eq_true, not_true_eq_false, Nat.reduceAdd, Nat.reduceMul, Int32.reduceLT, Int32.reduceLE, eq_self, ev_lit, ev_10, Int32.reduceToNatClampNeg, Nat.reduceLeDiff, Nat.reduceEqDiff, Nat.reduceLT, nI_clamp, ev_ng, ev_L1, ev_L2, ev_L3, ev_K1, ev_K2, ev_K3, ev_K4, ev_K5, ev_a1, ev_m1, ev_s1, ev_s2, nI_add, ev_nle, ev_le, ev_lt, ev_nlt, ev_ne, ev_eq, ev_uI hL, ev_uJ hL, ev_m hL, ev_mr hL, ev_mt hL, ev_mz hL, ev_mj hL, ev_n8 hL, ev_n64 hL, ev_n229 hL, ev_n254 hL, ev_n257 hL, ev_n259 hL, ev_n260 hL, ev_n261 hL, ev_0 hL, ev_00 hL, ev_01 hL, ev_02 hL, ev_1 hL, ev_1n hL, ev_1r hL, ev_lg hL, ev_lr hL, ev_sr hL, ev_2 hL, ev_2n hL, ev_3 hL, ev_30 hL, ev_31 hL, ev_4 hL, ev_4n hL, ev_5 hL, ev_5n hL, ev_4r hL, ev_lt1 hL, ev_ltr hL, ev_lnt hL, ev_lnn hL, ev_7 hL, ev_7n hL, ev_uE, ev_uK]
    · have e32 : upI Ic2 (A 6) 0 0 (A 6) 32 = nI c := by rw [ev_uI hL (by omega), ki _ _ (by omega) (by omega) (by omega)]; exact q3
      rw [f_M_forget, gd_in (ev_m hL), hpl, Option.bind_some, if_neg hm1, f_M_forget_b17, gd_in (ev_m hL), bnd, gd_in (ev_m hL), ev_uE, if_pos (by decide), e32, bnd, s2, f_M_forget_b36, if_pos (by decide), gd_in (ev_m hL), ev_mr hL (by omega), Option.bind_some, gd_in (ev_mt hL (by omega)), gd_in (by rw [ev_n8 hL (by omega)]; exact nI_in hq (by decide)), nI_clamp (by omega), bnd, ← hI2]
      exact cM
    · rw [k2r _ _ (by omega), s6 _ _ (by omega) (by omega) (by omega), ev_uE]
    · rw [s7 _ _ (by omega), hJ1, ev_uK]
    · refine ⟨sz, c', pi', am', fz, cm, gc, nu', N, hN, ?_, ?_, ?_, ?_⟩
      · intro l hl
        have hh := h1 l hl
        unfold RUp RLg rI rdM at hh ⊢
        simp (disch := omega) only [g _ _]
        exact hh
      · refine s3.congr (fun d k hd => ?_) ?_ (fun d k hd => ?_)
        · show I2 (A d) k = _
          rw [k2r _ _ (by omega)]
          by_cases e : d = 6 ∨ (226 ≤ d ∧ d < 263)
          · rw [mx_r e]; rfl
          · rw [mx_c e]; exact kr _ _ (by omega) (by omega) (by omega)
        · show I2 (A 6) 32 = _
          rw [k2r _ _ (by omega), mx_r (by omega)]; rfl
        · show Jr' (A d) k = _
          by_cases e : d = 6 ∨ (226 ≤ d ∧ d < 263)
          · rw [mx_r e]; rfl
          · rw [mx_c e, s7 _ _ (by omega), hJ1, ev_uJ hL (by omega)]; rfl
      · have gK : ∀ d k, d ≠ 261 → d ≠ 7 → cJ A Jr' d k = cJ A J d k := fun d k a1 a2 => by
          show Jr' (A d) k = J (A d) k
          rw [s7 _ _ a1, hJ1, ev_uJ hL (by omega)]
        obtain ⟨a1, a2, a3, a4, a5, a6⟩ := h3
        refine ⟨by rw [g _ _ (by omega) (by omega) (by omega) (by omega) (by omega) (by omega) (by omega)]; exact a1, by rw [g _ _ (by omega) (by omega) (by omega) (by omega) (by omega) (by omega) (by omega)]; exact a2, a3, fun x hx => ⟨k231 x hx, ?_⟩, ndis, fun x hx => ⟨fun hex => ?_, nf x hx⟩⟩
        · by_cases e : x = q
          · rw [e, nq]; omega
          · rw [nn x e]; exact (a4 x hx).2
        · obtain ⟨b1, b2, b3, b4, b5, b6⟩ := (a6 x hx).1 hex
          have e6 : cI A I2 (300 + 40 * x) 6 = cI A I2 231 x := by
            show I2 (A (300 + 40 * x)) 6 = I2 (A 231) x
            rw [k231 x hx, k2r _ _ (by omega), kr _ _ (by omega) (by omega) (by omega)]; exact kno x hx hex
          refine ⟨?_, fun l' hl' => ?_, ?_, ?_, ?_, ?_⟩
          · unfold RQf at b1 ⊢
            refine ⟨e6, ?_⟩
            simp (disch := omega) only [g _ _]
            exact b1.2
          · have hz := b2 l' hl'
            unfold RFz rI rdM at hz ⊢
            simp (disch := omega) only [g _ _]
            exact hz
          · unfold RRe at b3 ⊢
            obtain ⟨c1, c2, c3, c4⟩ := b3
            refine ⟨fun l hl => ?_, ?_, ?_, fun l hl hc k hk => ?_⟩
            · simp (disch := omega) only [g _ _]; exact c1 l hl
            · simp (disch := omega) only [g _ _]; exact c2
            · simp (disch := omega) only [gK _ _]; exact c3
            · simp (disch := omega) only [g _ _]; exact c4 l hl hc k hk
          · unfold RGv rI at b4 ⊢
            simp (disch := omega) only [g _ _]
            exact b4
          · unfold RAs at b5 ⊢
            simp (disch := omega) only [g _ _]
            exact b5
          · unfold RAn at b6 ⊢
            simp (disch := omega) only [g _ _, gK _ _]
            exact b6
      · have el : ∀ l z a b, lcn (cI A I2) l z a b = lcn (cI A I) l z a b := fun l z a b => by
          unfold lcn rdM
          simp (disch := omega) only [g _ _]
        have el2 : ∀ fz a b n, lcs (cI A I2) fz a b n = lcs (cI A I) fz a b n := fun fz a b n => by
          induction n with
          | zero => rfl
          | succ n ih => show _ + _ = _ + _; rw [ih, el]
        have hle : ∀ i, i < c' → ∃ j, j < c ∧ (∀ f, f < 7 → cI A I2 259 (7 * i + f) = cI A I 259 (7 * j + f)) ∧ ∀ f, f < 64 → cI A I2 260 (64 * i + f) = cI A I 260 (64 * j + f) := fun i hi => by
          obtain ⟨j, hj, w1, w2⟩ := (s4 i hi).2
          refine ⟨j, hj, fun f hf => ?_, fun f hf => ?_⟩
          · have := w1 f hf
            have this : Ir' (A 259) (7 * i + f) = upI Ic2 (A 6) 0 0 (A 259) (7 * j + f) := this
            show I2 (A 259) (7 * i + f) = I (A 259) (7 * j + f)
            rw [k2r _ _ (by omega), this, ev_uI hL (by omega), ki _ _ (by omega) (by omega) (by omega)]
          · have := w2 f hf
            have this : Ir' (A 260) (64 * i + f) = upI Ic2 (A 6) 0 0 (A 260) (64 * j + f) := this
            show I2 (A 260) (64 * i + f) = I (A 260) (64 * j + f)
            rw [k2r _ _ (by omega), this, ev_uI hL (by omega), ki _ _ (by omega) (by omega) (by omega)]
        refine ⟨fun i hi => ?_, fun x hx hnx => ?_⟩
        · obtain ⟨j, hj, w1, w2⟩ := hle i hi
          obtain ⟨ka, f, t, u, v1, v2, v3, v4, v5, v6, v7, v8, v9⟩ := h4.1 j hj
          exact ⟨ka, f, t, u, v1, v2, v3, v4, v5, (w1 0 (by decide)).trans v6, (w1 4 (by decide)).trans v7, (w1 5 (by decide)).trans v8, (w1 1 (by decide)).trans v9⟩
        · have hxq : x ≠ q := fun ee => by rw [ee, nq] at hnx; omega
          rw [nn x hxq] at hnx
          obtain ⟨v1, tq, sq, w1, w2, w3, w4, w5⟩ := h4.2 x hx hnx
          refine ⟨?_, tq, sq, w1, w2, by rw [g _ _ (by omega) (by omega) (by omega) (by omega) (by omega) (by omega) (by omega)]; exact w3, by rw [g _ _ (by omega) (by omega) (by omega) (by omega) (by omega) (by omega) (by omega)]; exact w4, fun i hi hei => ?_⟩
          · unfold VQq VAn at v1 ⊢
            simp (disch := omega) only [g _ _, el, el2]
            exact v1
          · obtain ⟨j, hj, z1, z2⟩ := hle i hi
            rw [z1 1 (by decide), g 231 x (by omega) (by omega) (by omega) (by omega) (by omega) (by omega) (by omega)] at hei
            have hw := w5 j hj hei
            have z10 : cI A I2 259 (7 * i) = cI A I 259 (7 * j) := z1 0 (by decide)
            have z20 : cI A I2 260 (64 * i) = cI A I 260 (64 * j) := z2 0 (by decide)
            unfold VLq VCu VAn at hw ⊢
            rw [z10, z1 2 (by decide), z1 3 (by decide), z1 4 (by decide), z1 5 (by decide), z1 6 (by decide), z20, z2 1 (by decide)]
            simp (disch := omega) only [g _ _, el]
            exact hw
  · refine ⟨1, I, J, 0, upI I (A 6) 0 1, J, ?_, ?_, ev_uE, fun q => absurd q (by decide), hr.th hL 1⟩
    · simp (disch := omega) only [f_L_forget, f_H_forget, ↓b2_h (f1 _), ↓bnd_in, ↓Option.bind_some, ↓bd2_some, ↓bd3_some, ↓bd4_some, ↓ew_mr hL, ↓ew_00 hL, ↓ew_01 hL, ↓ew_02 hL, ↓ew_1r hL, ↓ew_lr hL, ↓ew_30 hL, ↓ew_31 hL, ↓ew_4r hL, ↓ew_ltr hL, ↓gd_m hL, ↓gd_0 hL, gd_t, Option.bind_some, bd2_some, bd3_some, bd4_some, gm_some, gm_none, ↓reduceIte, or_self, or_false, false_or, or_true, true_or, and_self, and_true, true_and, and_false, false_and, not_false_eq_true, not_true_eq_false, Nat.reduceAdd, Nat.reduceMul, Int32.reduceLT, Int32.reduceLE, eq_self, ev_lit, ev_10, Int32.reduceToNatClampNeg, Nat.reduceLeDiff, Nat.reduceEqDiff, Nat.reduceLT, nI_clamp, ev_ng, ev_L1, ev_L2, ev_L3, ev_K1, ev_K2, ev_K3, ev_K4, ev_K5, ev_a1, ev_m1, ev_s1, ev_s2, nI_add, ev_nle, ev_le, ev_lt, ev_nlt, ev_ne, ev_eq, ev_uI hL, ev_uJ hL, ev_m hL, ev_mr hL, ev_mt hL, ev_mz hL, ev_mj hL, ev_n8 hL, ev_n64 hL, ev_n229 hL, ev_n254 hL, ev_n257 hL, ev_n259 hL, ev_n260 hL, ev_n261 hL, ev_0 hL, ev_00 hL, ev_01 hL, ev_02 hL, ev_1 hL, ev_1n hL, ev_1r hL, ev_lg hL, ev_lr hL, ev_sr hL, ev_2 hL, ev_2n hL, ev_3 hL, ev_30 hL, ev_31 hL, ev_4 hL, ev_4n hL, ev_5 hL, ev_5n hL, ev_4r hL, ev_lt1 hL, ev_ltr hL, ev_lnt hL, ev_lnn hL, ev_7 hL, ev_7n hL, ev_uE, ev_uK]
    · simp (disch := omega) only [f_M_forget, ↓ob_h (f3 _), f_M_forget_b17, ↓bnd_in, ↓Option.bind_some, ↓bd2_some, ↓bd3_some, ↓bd4_some, ↓ew_mr hL, ↓ew_00 hL, ↓ew_01 hL, ↓ew_02 hL, ↓ew_1r hL, ↓ew_lr hL, ↓ew_30 hL, ↓ew_31 hL, ↓ew_4r hL, ↓ew_ltr hL, ↓gd_m hL, ↓gd_0 hL, gd_t, Option.bind_some, bd2_some, bd3_some, bd4_some, gm_some, gm_none, ↓reduceIte, or_self, or_false, false_or, or_true, true_or, and_self, and_true, true_and, and_false, false_and, not_false_eq_true, not_true_eq_false, Nat.reduceAdd, Nat.reduceMul, Int32.reduceLT, Int32.reduceLE, eq_self, ev_lit, ev_10, Int32.reduceToNatClampNeg, Nat.reduceLeDiff, Nat.reduceEqDiff, Nat.reduceLT, nI_clamp, ev_ng, ev_L1, ev_L2, ev_L3, ev_K1, ev_K2, ev_K3, ev_K4, ev_K5, ev_a1, ev_m1, ev_s1, ev_s2, nI_add, ev_nle, ev_le, ev_lt, ev_nlt, ev_ne, ev_eq, ev_uI hL, ev_uJ hL, ev_m hL, ev_mr hL, ev_mt hL, ev_mz hL, ev_mj hL, ev_n8 hL, ev_n64 hL, ev_n229 hL, ev_n254 hL, ev_n257 hL, ev_n259 hL, ev_n260 hL, ev_n261 hL, ev_0 hL, ev_00 hL, ev_01 hL, ev_02 hL, ev_1 hL, ev_1n hL, ev_1r hL, ev_lg hL, ev_lr hL, ev_sr hL, ev_2 hL, ev_2n hL, ev_3 hL, ev_30 hL, ev_31 hL, ev_4 hL, ev_4n hL, ev_5 hL, ev_5n hL, ev_4r hL, ev_lt1 hL, ev_ltr hL, ev_lnt hL, ev_lnn hL, ev_7 hL, ev_7n hL, ev_uE, ev_uK]
end FG2
