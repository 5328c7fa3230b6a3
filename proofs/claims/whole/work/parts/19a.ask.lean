-- ask: a question begins
section ASK
variable {S : gS} {A : Nat → Nat} {ex ex' : Nat → Bool} {b c N q : Nat} {sz pi am nu : Nat → Nat} {fz : Nat → Nat → Option Nat} {cm : Nat → Nat → Bool} {gc : Nat → Nat → Nat} {I Ic Ir : gMI} {J Jc Jr : gMJ}
theorem beg_loop (hL : Lay S A ex) (hq : q < 8) (he : ex q = true) : ∀ (g i n : Nat) (I : gMI), i + g = 8 → g < n → ∃ I', f_Question_begin_b29 S J n I (A (300 + 40 * q)) (nI i) = some I' ∧ (∀ l, i ≤ l → l < 8 → I' (A (300 + 40 * q + 1)) l = -1) ∧ ∀ d k, ¬ (d = 300 + 40 * q + 1 ∧ i ≤ k ∧ k < 8) → I' (A d) k = I (A d) k := by
  obtain ⟨⟨t0, t1, t2, t3, t4, t5⟩, ⟨m0, m1⟩, -⟩ := (hL.qy hq he).2
  intro g
  induction g with
  | zero =>
    intro i n I hi hn
    obtain ⟨n, rfl⟩ : ∃ k, n = k + 1 := ⟨n - 1, by omega⟩
    refine ⟨I, ?_, fun l h1 h2 => by omega, fun _ _ _ => rfl⟩
    simp (disch := omega) only [f_Question_begin_b29, ↓bnd_in, ↓Option.bind_some, ↓bd2_some, ↓bd3_some, ↓bd4_some, ↓ew_mr hL, ↓ew_00 hL, ↓ew_01 hL, ↓ew_02 hL, ↓ew_1r hL, ↓ew_lr hL, ↓ew_30 hL, ↓ew_31 hL, ↓ew_4r hL, ↓ew_ltr hL, ↓gd_m hL, ↓gd_0 hL, gd_t, Option.bind_some, bd2_some, bd3_some, bd4_some, gm_some, gm_none, ↓reduceIte, or_self, or_false, false_or, or_true, true_or, and_self, and_true, true_and, and_false, false_and, not_false_eq_true, not_true_eq_false, Nat.reduceAdd, Nat.reduceMul, Int32.reduceLT, Int32.reduceLE, eq_self, ev_lit, ev_10, Int32.reduceToNatClampNeg, Nat.reduceLeDiff, Nat.reduceEqDiff, Nat.reduceLT, nI_clamp, ev_ng, ev_L1, ev_L2, ev_L3, ev_K1, ev_K2, ev_K3, ev_K4, ev_K5, ev_a1, ev_m1, ev_s1, ev_s2, nI_add, ev_nle, ev_le, ev_lt, ev_nlt, ev_ne, ev_eq, ev_uI hL, ev_uJ hL, ev_m hL, ev_mr hL, ev_mt hL, ev_mz hL, ev_mj hL, ev_n8 hL, ev_n64 hL, ev_n229 hL, ev_n254 hL, ev_n257 hL, ev_n259 hL, ev_n260 hL, ev_n261 hL, ev_0 hL, ev_00 hL, ev_01 hL, ev_02 hL, ev_1 hL, ev_1n hL, ev_1r hL, ev_lg hL, ev_lr hL, ev_sr hL, ev_2 hL, ev_2n hL, ev_3 hL, ev_30 hL, ev_31 hL, ev_4 hL, ev_4n hL, ev_5 hL, ev_5n hL, ev_4r hL, ev_lt1 hL, ev_ltr hL, ev_lnt hL, ev_lnn hL, ev_7 hL, ev_7n hL, ev_uE, ev_uK]
  | succ g ih =>
    intro i n I hi hn
    obtain ⟨n, rfl⟩ : ∃ k, n = k + 1 := ⟨n - 1, by omega⟩
    obtain ⟨I', s1, s2, s3⟩ := ih (i + 1) n (upI I (A (300 + 40 * q + 1)) i (-1)) (by omega) (by omega)
    refine ⟨I', ?_, fun l h1 h2 => ?_, fun d k d1 => by rw [s3 _ _ (by omega), ev_uI hL (by omega)]⟩
    · rw [← s1]
      simp (disch := omega) only [f_Question_begin_b29, t0, ↓ob_h t1, m0, m1, ↓bnd_in, ↓Option.bind_some, ↓bd2_some, ↓bd3_some, ↓bd4_some, ↓ew_mr hL, ↓ew_00 hL, ↓ew_01 hL, ↓ew_02 hL, ↓ew_1r hL, ↓ew_lr hL, ↓ew_30 hL, ↓ew_31 hL, ↓ew_4r hL, ↓ew_ltr hL, ↓gd_m hL, ↓gd_0 hL, gd_t, Option.bind_some, bd2_some, bd3_some, bd4_some, gm_some, gm_none, ↓reduceIte, or_self, or_false, false_or, or_true, true_or, and_self, and_true, true_and, and_false, false_and, not_false_eq_true, not_true_eq_false, Nat.reduceAdd, Nat.reduceMul, Int32.reduceLT, Int32.reduceLE, eq_self, ev_lit, ev_10, Int32.reduceToNatClampNeg, Nat.reduceLeDiff, Nat.reduceEqDiff, Nat.reduceLT, nI_clamp, ev_ng, ev_L1, ev_L2, ev_L3, ev_K1, ev_K2, ev_K3, ev_K4, ev_K5, ev_a1, ev_m1, ev_s1, ev_s2, nI_add, ev_nle, ev_le, ev_lt, ev_nlt, ev_ne, ev_eq, ev_uI hL, ev_uJ hL, ev_m hL, ev_mr hL, ev_mt hL, ev_mz hL, ev_mj hL, ev_n8 hL, ev_n64 hL, ev_n229 hL, ev_n254 hL, ev_n257 hL, ev_n259 hL, ev_n260 hL, ev_n261 hL, ev_0 hL, ev_00 hL, ev_01 hL, ev_02 hL, ev_1 hL, ev_1n hL, ev_1r hL, ev_lg hL, ev_lr hL, ev_sr hL, ev_2 hL, ev_2n hL, ev_3 hL, ev_30 hL, ev_31 hL, ev_4 hL, ev_4n hL, ev_5 hL, ev_5n hL, ev_4r hL, ev_lt1 hL, ev_ltr hL, ev_lnt hL, ev_lnn hL, ev_7 hL, ev_7n hL, ev_uE, ev_uK]
    · by_cases e : l = i
      · rw [s3 _ _ (by omega), e, ev_uE]
      · exact s2 l (by omega) h2
theorem begin_c (hL : Lay S A ex) (hq : q < 8) (he : ex q = true) (nm k a bb : Int32) (I : gMI) (J : gMJ) : ∃ I', f_Question_begin S I J (A (300 + 40 * q)) nm k a bb = some I' ∧ I' (A (300 + 40 * q)) 6 = nm ∧ I' (A (300 + 40 * q)) 7 = k ∧ I' (A (300 + 40 * q)) 8 = a ∧ I' (A (300 + 40 * q)) 9 = bb ∧ I' (A (300 + 40 * q)) 11 = 0 ∧ (∀ l, l < 8 → I' (A (300 + 40 * q + 1)) l = -1) ∧ ∀ d k, ¬ (d = 300 + 40 * q ∧ ((6 ≤ k ∧ k ≤ 9) ∨ k = 11)) → ¬ (d = 300 + 40 * q + 1 ∧ k < 8) → I' (A d) k = I (A d) k := by
  have t0 := (hL.qy hq he).2.1.1
  obtain ⟨I', s1, s2, s3⟩ := beg_loop (J := J) hL hq he 8 0 gFuel (upI (upI (upI (upI (upI I (A (300 + 40 * q)) 6 nm) (A (300 + 40 * q)) 7 k) (A (300 + 40 * q)) 8 a) (A (300 + 40 * q)) 9 bb) (A (300 + 40 * q)) 11 0) (by omega) (by unfold gFuel; omega)
  refine ⟨I', ?_, ?_, ?_, ?_, ?_, ?_, fun l hl => s2 l (by omega) hl, fun d k d1 d2 => ?_⟩
  · rw [f_Question_begin, gd_in t0]
    exact s1
  · rw [s3 _ _ (by omega)]; simp (disch := omega) only [↓bnd_in, ↓Option.bind_some, ↓bd2_some, ↓bd3_some, ↓bd4_some, ↓ew_mr hL, ↓ew_00 hL, ↓ew_01 hL, ↓ew_02 hL, ↓ew_1r hL, ↓ew_lr hL, ↓ew_30 hL, ↓ew_31 hL, ↓ew_4r hL, ↓ew_ltr hL, ↓gd_m hL, ↓gd_0 hL, gd_t, Option.bind_some, bd2_some, bd3_some, bd4_some, gm_some, gm_none, ↓reduceIte, or_self, or_false, false_or, or_true, true_or, and_self, and_true, true_and, and_false, false_and, not_false_eq_true, not_true_eq_false, Nat.reduceAdd, Nat.reduceMul, Int32.reduceLT, Int32.reduceLE, eq_self, ev_lit, ev_10, Int32.reduceToNatClampNeg, Nat.reduceLeDiff, Nat.reduceEqDiff, Nat.reduceLT, nI_clamp, ev_ng, ev_L1, ev_L2, ev_L3, ev_K1, ev_K2, ev_K3, ev_K4, ev_K5, ev_a1, ev_m1, ev_s1, ev_s2, nI_add, ev_nle, ev_le, ev_lt, ev_nlt, ev_ne, ev_eq, ev_uI hL, ev_uJ hL, ev_m hL, ev_mr hL, ev_mt hL, ev_mz hL, ev_mj hL, ev_n8 hL, ev_n64 hL, ev_n229 hL, ev_n254 hL, ev_n257 hL, ev_n259 hL, ev_n260 hL, ev_n261 hL, ev_0 hL, ev_00 hL, ev_01 hL, ev_02 hL, ev_1 hL, ev_1n hL, ev_1r hL, ev_lg hL, ev_lr hL, ev_sr hL, ev_2 hL, ev_2n hL, ev_3 hL, ev_30 hL, ev_31 hL, ev_4 hL, ev_4n hL, ev_5 hL, ev_5n hL, ev_4r hL, ev_lt1 hL, ev_ltr hL, ev_lnt hL, ev_lnn hL, ev_7 hL, ev_7n hL, ev_uE, ev_uK]
  · rw [s3 _ _ (by omega)]; simp (disch := omega) only [↓bnd_in, ↓Option.bind_some, ↓bd2_some, ↓bd3_some, ↓bd4_some, ↓ew_mr hL, ↓ew_00 hL, ↓ew_01 hL, ↓ew_02 hL, ↓ew_1r hL, ↓ew_lr hL, ↓ew_30 hL, ↓ew_31 hL, ↓ew_4r hL, ↓ew_ltr hL, ↓gd_m hL, ↓gd_0 hL, gd_t, Option.bind_some, bd2_some, bd3_some, bd4_some, gm_some, gm_none, ↓reduceIte, or_self, or_false, false_or, or_true, true_or, and_self, and_true, true_and, and_false, false_and, not_false_eq_true, not_true_eq_false, Nat.reduceAdd, Nat.reduceMul, Int32.reduceLT, Int32.reduceLE, eq_self, ev_lit, ev_10, Int32.reduceToNatClampNeg, Nat.reduceLeDiff, Nat.reduceEqDiff, Nat.reduceLT, nI_clamp, ev_ng, ev_L1, ev_L2, ev_L3, ev_K1, ev_K2, ev_K3, ev_K4, ev_K5, ev_a1, ev_m1, ev_s1, ev_s2, nI_add, ev_nle, ev_le, ev_lt, ev_nlt, ev_ne, ev_eq, ev_uI hL, ev_uJ hL, ev_m hL, ev_mr hL, ev_mt hL, ev_mz hL, ev_mj hL, ev_n8 hL, ev_n64 hL, ev_n229 hL, ev_n254 hL, ev_n257 hL, ev_n259 hL, ev_n260 hL, ev_n261 hL, ev_0 hL, ev_00 hL, ev_01 hL, ev_02 hL, ev_1 hL, ev_1n hL, ev_1r hL, ev_lg hL, ev_lr hL, ev_sr hL, ev_2 hL, ev_2n hL, ev_3 hL, ev_30 hL, ev_31 hL, ev_4 hL, ev_4n hL, ev_5 hL, ev_5n hL, ev_4r hL, ev_lt1 hL, ev_ltr hL, ev_lnt hL, ev_lnn hL, ev_7 hL, ev_7n hL, ev_uE, ev_uK]
  · rw [s3 _ _ (by omega)]; simp (disch := omega) only [↓bnd_in, ↓Option.bind_some, ↓bd2_some, ↓bd3_some, ↓bd4_some, ↓ew_mr hL, ↓ew_00 hL, ↓ew_01 hL, ↓ew_02 hL, ↓ew_1r hL, ↓ew_lr hL, ↓ew_30 hL, ↓ew_31 hL, ↓ew_4r hL, ↓ew_ltr hL, ↓gd_m hL, ↓gd_0 hL, gd_t, Option.bind_some, bd2_some, bd3_some, bd4_some, gm_some, gm_none, ↓reduceIte, or_self, or_false, false_or, or_true, true_or, and_self, and_true, true_and, and_false, false_and, not_false_eq_true, not_true_eq_false, Nat.reduceAdd, Nat.reduceMul, Int32.reduceLT, Int32.reduceLE, eq_self, ev_lit, ev_10, Int32.reduceToNatClampNeg, Nat.reduceLeDiff, Nat.reduceEqDiff, Nat.reduceLT, nI_clamp, ev_ng, ev_L1, ev_L2, ev_L3, ev_K1, ev_K2, ev_K3, ev_K4, ev_K5, ev_a1, ev_m1, ev_s1, ev_s2, nI_add, ev_nle, ev_le, ev_lt, ev_nlt, ev_ne, ev_eq, ev_uI hL, ev_uJ hL, ev_m hL, ev_mr hL, ev_mt hL, ev_mz hL, ev_mj hL, ev_n8 hL, ev_n64 hL, ev_n229 hL, ev_n254 hL, ev_n257 hL, ev_n259 hL, ev_n260 hL, ev_n261 hL, ev_0 hL, ev_00 hL, ev_01 hL, ev_02 hL, ev_1 hL, ev_1n hL, ev_1r hL, ev_lg hL, ev_lr hL, ev_sr hL, ev_2 hL, ev_2n hL, ev_3 hL, ev_30 hL, ev_31 hL, ev_4 hL, ev_4n hL, ev_5 hL, ev_5n hL, ev_4r hL, ev_lt1 hL, ev_ltr hL, ev_lnt hL, ev_lnn hL, ev_7 hL, ev_7n hL, ev_uE, ev_uK]
  · rw [s3 _ _ (by omega)]; simp (disch := omega) only [↓bnd_in, ↓Option.bind_some, ↓bd2_some, ↓bd3_some, ↓bd4_some, ↓ew_mr hL, ↓ew_00 hL, ↓ew_01 hL, ↓ew_02 hL, ↓ew_1r hL, ↓ew_lr hL, ↓ew_30 hL, ↓ew_31 hL, ↓ew_4r hL, ↓ew_ltr hL, ↓gd_m hL, ↓gd_0 hL, gd_t, Option.bind_some, bd2_some, bd3_some, bd4_some, gm_some, gm_none, ↓reduceIte, or_self, or_false, false_or, or_true, true_or, and_self, and_true, true_and, and_false, false_and, not_false_eq_true, not_true_eq_false, Nat.reduceAdd, Nat.reduceMul, Int32.reduceLT, Int32.reduceLE, eq_self, ev_lit, ev_10, Int32.reduceToNatClampNeg, Nat.reduceLeDiff, Nat.reduceEqDiff, Nat.reduceLT, nI_clamp, ev_ng, ev_L1, ev_L2, ev_L3, ev_K1, ev_K2, ev_K3, ev_K4, ev_K5, ev_a1, ev_m1, ev_s1, ev_s2, nI_add, ev_nle, ev_le, ev_lt, ev_nlt, ev_ne, ev_eq, ev_uI hL, ev_uJ hL, ev_m hL, ev_mr hL, ev_mt hL, ev_mz hL, ev_mj hL, ev_n8 hL, ev_n64 hL, ev_n229 hL, ev_n254 hL, ev_n257 hL, ev_n259 hL, ev_n260 hL, ev_n261 hL, ev_0 hL, ev_00 hL, ev_01 hL, ev_02 hL, ev_1 hL, ev_1n hL, ev_1r hL, ev_lg hL, ev_lr hL, ev_sr hL, ev_2 hL, ev_2n hL, ev_3 hL, ev_30 hL, ev_31 hL, ev_4 hL, ev_4n hL, ev_5 hL, ev_5n hL, ev_4r hL, ev_lt1 hL, ev_ltr hL, ev_lnt hL, ev_lnn hL, ev_7 hL, ev_7n hL, ev_uE, ev_uK]
  · rw [s3 _ _ (by omega)]; simp (disch := omega) only [↓bnd_in, ↓Option.bind_some, ↓bd2_some, ↓bd3_some, ↓bd4_some, ↓ew_mr hL, ↓ew_00 hL, ↓ew_01 hL, ↓ew_02 hL, ↓ew_1r hL, ↓ew_lr hL, ↓ew_30 hL, ↓ew_31 hL, ↓ew_4r hL, ↓ew_ltr hL, ↓gd_m hL, ↓gd_0 hL, gd_t, Option.bind_some, bd2_some, bd3_some, bd4_some, gm_some, gm_none, ↓reduceIte, or_self, or_false, false_or, or_true, true_or, and_self, and_true, true_and, and_false, false_and, not_false_eq_true, not_true_eq_false, Nat.reduceAdd, Nat.reduceMul, Int32.reduceLT, Int32.reduceLE, eq_self, ev_lit, ev_10, Int32.reduceToNatClampNeg, Nat.reduceLeDiff, Nat.reduceEqDiff, Nat.reduceLT, nI_clamp, ev_ng, ev_L1, ev_L2, ev_L3, ev_K1, ev_K2, ev_K3, ev_K4, ev_K5, ev_a1, ev_m1, ev_s1, ev_s2, nI_add, ev_nle, ev_le, ev_lt, ev_nlt, ev_ne, ev_eq, ev_uI hL, ev_uJ hL, ev_m hL, ev_mr hL, ev_mt hL, ev_mz hL, ev_mj hL, ev_n8 hL, ev_n64 hL, ev_n229 hL, ev_n254 hL, ev_n257 hL, ev_n259 hL, ev_n260 hL, ev_n261 hL, ev_0 hL, ev_00 hL, ev_01 hL, ev_02 hL, ev_1 hL, ev_1n hL, ev_1r hL, ev_lg hL, ev_lr hL, ev_sr hL, ev_2 hL, ev_2n hL, ev_3 hL, ev_30 hL, ev_31 hL, ev_4 hL, ev_4n hL, ev_5 hL, ev_5n hL, ev_4r hL, ev_lt1 hL, ev_ltr hL, ev_lnt hL, ev_lnn hL, ev_7 hL, ev_7n hL, ev_uE, ev_uK]
  · rw [s3 _ _ (by omega)]; simp (disch := omega) only [↓bnd_in, ↓Option.bind_some, ↓bd2_some, ↓bd3_some, ↓bd4_some, ↓ew_mr hL, ↓ew_00 hL, ↓ew_01 hL, ↓ew_02 hL, ↓ew_1r hL, ↓ew_lr hL, ↓ew_30 hL, ↓ew_31 hL, ↓ew_4r hL, ↓ew_ltr hL, ↓gd_m hL, ↓gd_0 hL, gd_t, Option.bind_some, bd2_some, bd3_some, bd4_some, gm_some, gm_none, ↓reduceIte, or_self, or_false, false_or, or_true, true_or, and_self, and_true, true_and, and_false, false_and, not_false_eq_true, not_true_eq_false, Nat.reduceAdd, Nat.reduceMul, Int32.reduceLT, Int32.reduceLE, eq_self, ev_lit, ev_10, Int32.reduceToNatClampNeg, Nat.reduceLeDiff, Nat.reduceEqDiff, Nat.reduceLT, nI_clamp, ev_ng, ev_L1, ev_L2, ev_L3, ev_K1, ev_K2, ev_K3, ev_K4, ev_K5, ev_a1, ev_m1, ev_s1, ev_s2, nI_add, ev_nle, ev_le, ev_lt, ev_nlt, ev_ne, ev_eq, ev_uI hL, ev_uJ hL, ev_m hL, ev_mr hL, ev_mt hL, ev_mz hL, ev_mj hL, ev_n8 hL, ev_n64 hL, ev_n229 hL, ev_n254 hL, ev_n257 hL, ev_n259 hL, ev_n260 hL, ev_n261 hL, ev_0 hL, ev_00 hL, ev_01 hL, ev_02 hL, ev_1 hL, ev_1n hL, ev_1r hL, ev_lg hL, ev_lr hL, ev_sr hL, ev_2 hL, ev_2n hL, ev_3 hL, ev_30 hL, ev_31 hL, ev_4 hL, ev_4n hL, ev_5 hL, ev_5n hL, ev_4r hL, ev_lt1 hL, ev_ltr hL, ev_lnt hL, ev_lnn hL, ev_7 hL, ev_7n hL, ev_uE, ev_uK]
theorem b196_loop (hL : Lay S A ex) (hq : q < 8) (d : Int32) : ∀ (g i n : Nat) (I : gMI), i + g = 8 → g < n → ∃ I', (∀ I2 J2, f_M_begin S (upI I' (A 236) q 0) J (A 6) (nI q) d = some (I2, J2) → f_M_ask_b196 S n I J (A 6) d (nI q) (nI i) = some (I2 (A 6) 4, I2, J2)) ∧ (∀ l, i ≤ l → l < 8 → I' (A 243) (8 * q + l) = -1) ∧ ∀ d k, ¬ (d = 243 ∧ 8 * q + i ≤ k ∧ k < 8 * q + 8) → I' (A d) k = I (A d) k := by
  intro g
  induction g with
  | zero =>
    intro i n I hi hn
    obtain ⟨n, rfl⟩ : ∃ k, n = k + 1 := ⟨n - 1, by omega⟩
    refine ⟨I, fun I2 J2 e => ?_, fun l h1 h2 => by omega, fun _ _ _ => rfl⟩
    simp (disch := omega) only [f_M_ask_b196, ↓b2_h e, ↓bnd_in, ↓Option.bind_some, ↓bd2_some, ↓bd3_some, ↓bd4_some, ↓ew_mr hL, ↓ew_00 hL, ↓ew_01 hL, ↓ew_02 hL, ↓ew_1r hL, ↓ew_lr hL, ↓ew_30 hL, ↓ew_31 hL, ↓ew_4r hL, ↓ew_ltr hL, ↓gd_m hL, ↓gd_0 hL, gd_t, Option.bind_some, bd2_some, bd3_some, bd4_some, gm_some, gm_none, ↓reduceIte, or_self, or_false, false_or, or_true, true_or, and_self, and_true, true_and, and_false, false_and, not_false_eq_true, not_true_eq_false, Nat.reduceAdd, Nat.reduceMul, Int32.reduceLT, Int32.reduceLE, eq_self, ev_lit, ev_10, Int32.reduceToNatClampNeg, Nat.reduceLeDiff, Nat.reduceEqDiff, Nat.reduceLT, nI_clamp, ev_ng, ev_L1, ev_L2, ev_L3, ev_K1, ev_K2, ev_K3, ev_K4, ev_K5, ev_a1, ev_m1, ev_s1, ev_s2, nI_add, ev_nle, ev_le, ev_lt, ev_nlt, ev_ne, ev_eq, ev_uI hL, ev_uJ hL, ev_m hL, ev_mr hL, ev_mt hL, ev_mz hL, ev_mj hL, ev_n8 hL, ev_n64 hL, ev_n229 hL, ev_n254 hL, ev_n257 hL, ev_n259 hL, ev_n260 hL, ev_n261 hL, ev_0 hL, ev_00 hL, ev_01 hL, ev_02 hL, ev_1 hL, ev_1n hL, ev_1r hL, ev_lg hL, ev_lr hL, ev_sr hL, ev_2 hL, ev_2n hL, ev_3 hL, ev_30 hL, ev_31 hL, ev_4 hL, ev_4n hL, ev_5 hL, ev_5n hL, ev_4r hL, ev_lt1 hL, ev_ltr hL, ev_lnt hL, ev_lnn hL, ev_7 hL, ev_7n hL, ev_uE, ev_uK]
  | succ g ih =>
    intro i n I hi hn
    obtain ⟨n, rfl⟩ : ∃ k, n = k + 1 := ⟨n - 1, by omega⟩
    obtain ⟨I', s1, s2, s3⟩ := ih (i + 1) n (upI I (A 243) (8 * q + i) (-1)) (by omega) (by omega)
    refine ⟨I', fun I2 J2 e => ?_, fun l h1 h2 => ?_, fun d k d1 => by rw [s3 _ _ (by omega), ev_uI hL (by omega)]⟩
    · rw [← s1 _ _ e]
      simp (disch := omega) only [f_M_ask_b196, ↓bnd_in, ↓Option.bind_some, ↓bd2_some, ↓bd3_some, ↓bd4_some, ↓ew_mr hL, ↓ew_00 hL, ↓ew_01 hL, ↓ew_02 hL, ↓ew_1r hL, ↓ew_lr hL, ↓ew_30 hL, ↓ew_31 hL, ↓ew_4r hL, ↓ew_ltr hL, ↓gd_m hL, ↓gd_0 hL, gd_t, Option.bind_some, bd2_some, bd3_some, bd4_some, gm_some, gm_none, ↓reduceIte, or_self, or_false, false_or, or_true, true_or, and_self, and_true, true_and, and_false, false_and, not_false_eq_true, not_true_eq_false, Nat.reduceAdd, Nat.reduceMul, Int32.reduceLT, Int32.reduceLE, eq_self, ev_lit, ev_10, Int32.reduceToNatClampNeg, Nat.reduceLeDiff, Nat.reduceEqDiff, Nat.reduceLT, nI_clamp, ev_ng, ev_L1, ev_L2, ev_L3, ev_K1, ev_K2, ev_K3, ev_K4, ev_K5, ev_a1, ev_m1, ev_s1, ev_s2, nI_add, ev_nle, ev_le, ev_lt, ev_nlt, ev_ne, ev_eq, ev_uI hL, ev_uJ hL, ev_m hL, ev_mr hL, ev_mt hL, ev_mz hL, ev_mj hL, ev_n8 hL, ev_n64 hL, ev_n229 hL, ev_n254 hL, ev_n257 hL, ev_n259 hL, ev_n260 hL, ev_n261 hL, ev_0 hL, ev_00 hL, ev_01 hL, ev_02 hL, ev_1 hL, ev_1n hL, ev_1r hL, ev_lg hL, ev_lr hL, ev_sr hL, ev_2 hL, ev_2n hL, ev_3 hL, ev_30 hL, ev_31 hL, ev_4 hL, ev_4n hL, ev_5 hL, ev_5n hL, ev_4r hL, ev_lt1 hL, ev_ltr hL, ev_lnt hL, ev_lnn hL, ev_7 hL, ev_7n hL, ev_uE, ev_uK]
    · by_cases e : l = i
      · rw [s3 _ _ (by omega), e, ev_uE]
      · exact s2 l (by omega) h2
theorem ask_r (hL : Lay S A ex) (hq : q < 8) (d k a bb : Int32) (I : gMI) (J : gMJ) : ∃ I2, (∀ I' J', f_M_begin S I2 J (A 6) (nI q) d = some (I', J') → f_M_ask_b135 S I J 0 (A 6) (A 6) d k a bb (nI q) = some (I' (A 6) 4, I', J')) ∧ I2 (A 6) 0 = 0 ∧ I2 (A 6) 4 = I (A 6) 4 + 1 ∧ I2 (A 231) q = I (A 6) 4 + 1 ∧ I2 (A 232) q = k ∧ I2 (A 233) q = a ∧ I2 (A 234) q = bb ∧ I2 (A 236) q = 0 ∧ (∀ l, l < 8 → I2 (A 243) (8 * q + l) = -1) ∧ ∀ d k, ¬ (d = 6 ∧ (k = 0 ∨ k = 4)) → ¬ (231 ≤ d ∧ d ≤ 236 ∧ d ≠ 235 ∧ k = q) → ¬ (d = 243 ∧ 8 * q ≤ k ∧ k < 8 * q + 8) → I2 (A d) k = I (A d) k := by
  obtain ⟨I1, hI1⟩ : ∃ I1 : gMI, I1 = upI (upI (upI (upI (upI (upI I (A 6) 0 0) (A 6) 4 (I (A 6) 4 + 1)) (A 231) q (I (A 6) 4 + 1)) (A 232) q k) (A 233) q a) (A 234) q bb := ⟨_, rfl⟩
  obtain ⟨I2, s1, s2, s3⟩ := b196_loop (J := J) hL hq d 8 0 gFuel I1 (by omega) (by unfold gFuel; omega)
  have hz : (0 : Int32) ≤ 0 := Int32.le_refl 0
  refine ⟨upI I2 (A 236) q 0, fun I' J' e => ?_, ?_, ?_, ?_, ?_, ?_, ?_, ev_uE, fun l hl => ?_, fun d k d1 d2 d3 => ?_⟩
  · have := s1 _ _ e
    rw [hI1] at this
    rw [← this]
    simp (disch := omega) only [f_M_ask_b135, hz, ↓bnd_in, ↓Option.bind_some, ↓bd2_some, ↓bd3_some, ↓bd4_some, ↓ew_mr hL, ↓ew_00 hL, ↓ew_01 hL, ↓ew_02 hL, ↓ew_1r hL, ↓ew_lr hL, ↓ew_30 hL, ↓ew_31 hL, ↓ew_4r hL, ↓ew_ltr hL, ↓gd_m hL, ↓gd_0 hL, gd_t, Option.bind_some, bd2_some, bd3_some, bd4_some, gm_some, gm_none, ↓reduceIte, or_self, or_false, false_or, or_true, true_or, and_self, and_true, true_and, and_false, false_and, not_false_eq_true, not_true_eq_false, Nat.reduceAdd, Nat.reduceMul, Int32.reduceLT, Int32.reduceLE, eq_self, ev_lit, ev_10, Int32.reduceToNatClampNeg, Nat.reduceLeDiff, Nat.reduceEqDiff, Nat.reduceLT, nI_clamp, ev_ng, ev_L1, ev_L2, ev_L3, ev_K1, ev_K2, ev_K3, ev_K4, ev_K5, ev_a1, ev_m1, ev_s1, ev_s2, nI_add, ev_nle, ev_le, ev_lt, ev_nlt, ev_ne, ev_eq, ev_uI hL, ev_uJ hL, ev_m hL, ev_mr hL, ev_mt hL, ev_mz hL, ev_mj hL, ev_n8 hL, ev_n64 hL, ev_n229 hL, ev_n254 hL, ev_n257 hL, ev_n259 hL, ev_n260 hL, ev_n261 hL, ev_0 hL, ev_00 hL, ev_01 hL, ev_02 hL, ev_1 hL, ev_1n hL, ev_1r hL, ev_lg hL, ev_lr hL, ev_sr hL, ev_2 hL, ev_2n hL, ev_3 hL, ev_30 hL, ev_31 hL, ev_4 hL, ev_4n hL, ev_5 hL, ev_5n hL, ev_4r hL, ev_lt1 hL, ev_ltr hL, ev_lnt hL, ev_lnn hL, ev_7 hL, ev_7n hL, ev_uE, ev_uK]
    rfl
  · rw [ev_uI hL (by omega), s3 _ _ (by omega), hI1]; simp (disch := omega) only [↓bnd_in, ↓Option.bind_some, ↓bd2_some, ↓bd3_some, ↓bd4_some, ↓ew_mr hL, ↓ew_00 hL, ↓ew_01 hL, ↓ew_02 hL, ↓ew_1r hL, ↓ew_lr hL, ↓ew_30 hL, ↓ew_31 hL, ↓ew_4r hL, ↓ew_ltr hL, ↓gd_m hL, ↓gd_0 hL, gd_t, Option.bind_some, bd2_some, bd3_some, bd4_some, gm_some, gm_none, ↓reduceIte, or_self, or_false, false_or, or_true, true_or, and_self, and_true, true_and, and_false, false_and, not_false_eq_true, not_true_eq_false, Nat.reduceAdd, Nat.reduceMul, Int32.reduceLT, Int32.reduceLE, eq_self, ev_lit, ev_10, Int32.reduceToNatClampNeg, Nat.reduceLeDiff, Nat.reduceEqDiff, Nat.reduceLT, nI_clamp, ev_ng, ev_L1, ev_L2, ev_L3, ev_K1, ev_K2, ev_K3, ev_K4, ev_K5, ev_a1, ev_m1, ev_s1, ev_s2, nI_add, ev_nle, ev_le, ev_lt, ev_nlt, ev_ne, ev_eq, ev_uI hL, ev_uJ hL, ev_m hL, ev_mr hL, ev_mt hL, ev_mz hL, ev_mj hL, ev_n8 hL, ev_n64 hL, ev_n229 hL, ev_n254 hL, ev_n257 hL, ev_n259 hL, ev_n260 hL, ev_n261 hL, ev_0 hL, ev_00 hL, ev_01 hL, ev_02 hL, ev_1 hL, ev_1n hL, ev_1r hL, ev_lg hL, ev_lr hL, ev_sr hL, ev_2 hL, ev_2n hL, ev_3 hL, ev_30 hL, ev_31 hL, ev_4 hL, ev_4n hL, ev_5 hL, ev_5n hL, ev_4r hL, ev_lt1 hL, ev_ltr hL, ev_lnt hL, ev_lnn hL, ev_7 hL, ev_7n hL, ev_uE, ev_uK]
  · rw [ev_uI hL (by omega), s3 _ _ (by omega), hI1]; simp (disch := omega) only [↓bnd_in, ↓Option.bind_some, ↓bd2_some, ↓bd3_some, ↓bd4_some, ↓ew_mr hL, ↓ew_00 hL, ↓ew_01 hL, ↓ew_02 hL, ↓ew_1r hL, ↓ew_lr hL, ↓ew_30 hL, ↓ew_31 hL, ↓ew_4r hL, ↓ew_ltr hL, ↓gd_m hL, ↓gd_0 hL, gd_t, Option.bind_some, bd2_some, bd3_some, bd4_some, gm_some, gm_none, ↓reduceIte, or_self, or_false, false_or, or_true, true_or, and_self, and_true, true_and, and_false, false_and, not_false_eq_true, not_true_eq_false, Nat.reduceAdd, Nat.reduceMul, Int32.reduceLT, Int32.reduceLE, eq_self, ev_lit, ev_10, Int32.reduceToNatClampNeg, Nat.reduceLeDiff, Nat.reduceEqDiff, Nat.reduceLT, nI_clamp, ev_ng, ev_L1, ev_L2, ev_L3, ev_K1, ev_K2, ev_K3, ev_K4, ev_K5, ev_a1, ev_m1, ev_s1, ev_s2, nI_add, ev_nle, ev_le, ev_lt, ev_nlt, ev_ne, ev_eq, ev_uI hL, ev_uJ hL, ev_m hL, ev_mr hL, ev_mt hL, ev_mz hL, ev_mj hL, ev_n8 hL, ev_n64 hL, ev_n229 hL, ev_n254 hL, ev_n257 hL, ev_n259 hL, ev_n260 hL, ev_n261 hL, ev_0 hL, ev_00 hL, ev_01 hL, ev_02 hL, ev_1 hL, ev_1n hL, ev_1r hL, ev_lg hL, ev_lr hL, ev_sr hL, ev_2 hL, ev_2n hL, ev_3 hL, ev_30 hL, ev_31 hL, ev_4 hL, ev_4n hL, ev_5 hL, ev_5n hL, ev_4r hL, ev_lt1 hL, ev_ltr hL, ev_lnt hL, ev_lnn hL, ev_7 hL, ev_7n hL, ev_uE, ev_uK]
  · rw [ev_uI hL (by omega), s3 _ _ (by omega), hI1]; simp (disch := omega) only [↓bnd_in, ↓Option.bind_some, ↓bd2_some, ↓bd3_some, ↓bd4_some, ↓ew_mr hL, ↓ew_00 hL, ↓ew_01 hL, ↓ew_02 hL, ↓ew_1r hL, ↓ew_lr hL, ↓ew_30 hL, ↓ew_31 hL, ↓ew_4r hL, ↓ew_ltr hL, ↓gd_m hL, ↓gd_0 hL, gd_t, Option.bind_some, bd2_some, bd3_some, bd4_some, gm_some, gm_none, ↓reduceIte, or_self, or_false, false_or, or_true, true_or, and_self, and_true, true_and, and_false, false_and, not_false_eq_true, not_true_eq_false, Nat.reduceAdd, Nat.reduceMul, Int32.reduceLT, Int32.reduceLE, eq_self, ev_lit, ev_10, Int32.reduceToNatClampNeg, Nat.reduceLeDiff, Nat.reduceEqDiff, Nat.reduceLT, nI_clamp, ev_ng, ev_L1, ev_L2, ev_L3, ev_K1, ev_K2, ev_K3, ev_K4, ev_K5, ev_a1, ev_m1, ev_s1, ev_s2, nI_add, ev_nle, ev_le, ev_lt, ev_nlt, ev_ne, ev_eq, ev_uI hL, ev_uJ hL, ev_m hL, ev_mr hL, ev_mt hL, ev_mz hL, ev_mj hL, ev_n8 hL, ev_n64 hL, ev_n229 hL, ev_n254 hL, ev_n257 hL, ev_n259 hL, ev_n260 hL, ev_n261 hL, ev_0 hL, ev_00 hL, ev_01 hL, ev_02 hL, ev_1 hL, ev_1n hL, ev_1r hL, ev_lg hL, ev_lr hL, ev_sr hL, ev_2 hL, ev_2n hL, ev_3 hL, ev_30 hL, ev_31 hL, ev_4 hL, ev_4n hL, ev_5 hL, ev_5n hL, ev_4r hL, ev_lt1 hL, ev_ltr hL, ev_lnt hL, ev_lnn hL, ev_7 hL, ev_7n hL, ev_uE, ev_uK]
  · rw [ev_uI hL (by omega), s3 _ _ (by omega), hI1]; simp (disch := omega) only [↓bnd_in, ↓Option.bind_some, ↓bd2_some, ↓bd3_some, ↓bd4_some, ↓ew_mr hL, ↓ew_00 hL, ↓ew_01 hL, ↓ew_02 hL, ↓ew_1r hL, ↓ew_lr hL, ↓ew_30 hL, ↓ew_31 hL, ↓ew_4r hL, ↓ew_ltr hL, ↓gd_m hL, ↓gd_0 hL, gd_t, Option.bind_some, bd2_some, bd3_some, bd4_some, gm_some, gm_none, ↓reduceIte, or_self, or_false, false_or, or_true, true_or, and_self, and_true, true_and, and_false, false_and, not_false_eq_true, not_true_eq_false, Nat.reduceAdd, Nat.reduceMul, Int32.reduceLT, Int32.reduceLE, eq_self, ev_lit, ev_10, Int32.reduceToNatClampNeg, Nat.reduceLeDiff, Nat.reduceEqDiff, Nat.reduceLT, nI_clamp, ev_ng, ev_L1, ev_L2, ev_L3, ev_K1, ev_K2, ev_K3, ev_K4, ev_K5, ev_a1, ev_m1, ev_s1, ev_s2, nI_add, ev_nle, ev_le, ev_lt, ev_nlt, ev_ne, ev_eq, ev_uI hL, ev_uJ hL, ev_m hL, ev_mr hL, ev_mt hL, ev_mz hL, ev_mj hL, ev_n8 hL, ev_n64 hL, ev_n229 hL, ev_n254 hL, ev_n257 hL, ev_n259 hL, ev_n260 hL, ev_n261 hL, ev_0 hL, ev_00 hL, ev_01 hL, ev_02 hL, ev_1 hL, ev_1n hL, ev_1r hL, ev_lg hL, ev_lr hL, ev_sr hL, ev_2 hL, ev_2n hL, ev_3 hL, ev_30 hL, ev_31 hL, ev_4 hL, ev_4n hL, ev_5 hL, ev_5n hL, ev_4r hL, ev_lt1 hL, ev_ltr hL, ev_lnt hL, ev_lnn hL, ev_7 hL, ev_7n hL, ev_uE, ev_uK]
  · rw [ev_uI hL (by omega), s3 _ _ (by omega), hI1]; simp (disch := omega) only [↓bnd_in, ↓Option.bind_some, ↓bd2_some, ↓bd3_some, ↓bd4_some, ↓ew_mr hL, ↓ew_00 hL, ↓ew_01 hL, ↓ew_02 hL, ↓ew_1r hL, ↓ew_lr hL, ↓ew_30 hL, ↓ew_31 hL, ↓ew_4r hL, ↓ew_ltr hL, ↓gd_m hL, ↓gd_0 hL, gd_t, Option.bind_some, bd2_some, bd3_some, bd4_some, gm_some, gm_none, ↓reduceIte, or_self, or_false, false_or, or_true, true_or, and_self, and_true, true_and, and_false, false_and, not_false_eq_true, not_true_eq_false, Nat.reduceAdd, Nat.reduceMul, Int32.reduceLT, Int32.reduceLE, eq_self, ev_lit, ev_10, Int32.reduceToNatClampNeg, Nat.reduceLeDiff, Nat.reduceEqDiff, Nat.reduceLT, nI_clamp, ev_ng, ev_L1, ev_L2, ev_L3, ev_K1, ev_K2, ev_K3, ev_K4, ev_K5, ev_a1, ev_m1, ev_s1, ev_s2, nI_add, ev_nle, ev_le, ev_lt, ev_nlt, ev_ne, ev_eq, ev_uI hL, ev_uJ hL, ev_m hL, ev_mr hL, ev_mt hL, ev_mz hL, ev_mj hL, ev_n8 hL, ev_n64 hL, ev_n229 hL, ev_n254 hL, ev_n257 hL, ev_n259 hL, ev_n260 hL, ev_n261 hL, ev_0 hL, ev_00 hL, ev_01 hL, ev_02 hL, ev_1 hL, ev_1n hL, ev_1r hL, ev_lg hL, ev_lr hL, ev_sr hL, ev_2 hL, ev_2n hL, ev_3 hL, ev_30 hL, ev_31 hL, ev_4 hL, ev_4n hL, ev_5 hL, ev_5n hL, ev_4r hL, ev_lt1 hL, ev_ltr hL, ev_lnt hL, ev_lnn hL, ev_7 hL, ev_7n hL, ev_uE, ev_uK]
  · rw [ev_uI hL (by omega), s3 _ _ (by omega), hI1]; simp (disch := omega) only [↓bnd_in, ↓Option.bind_some, ↓bd2_some, ↓bd3_some, ↓bd4_some, ↓ew_mr hL, ↓ew_00 hL, ↓ew_01 hL, ↓ew_02 hL, ↓ew_1r hL, ↓ew_lr hL, ↓ew_30 hL, ↓ew_31 hL, ↓ew_4r hL, ↓ew_ltr hL, ↓gd_m hL, ↓gd_0 hL, gd_t, Option.bind_some, bd2_some, bd3_some, bd4_some, gm_some, gm_none, ↓reduceIte, or_self, or_false, false_or, or_true, true_or, and_self, and_true, true_and, and_false, false_and, not_false_eq_true, not_true_eq_false, Nat.reduceAdd, Nat.reduceMul, Int32.reduceLT, Int32.reduceLE, eq_self, ev_lit, ev_10, Int32.reduceToNatClampNeg, Nat.reduceLeDiff, Nat.reduceEqDiff, Nat.reduceLT, nI_clamp, ev_ng, ev_L1, ev_L2, ev_L3, ev_K1, ev_K2, ev_K3, ev_K4, ev_K5, ev_a1, ev_m1, ev_s1, ev_s2, nI_add, ev_nle, ev_le, ev_lt, ev_nlt, ev_ne, ev_eq, ev_uI hL, ev_uJ hL, ev_m hL, ev_mr hL, ev_mt hL, ev_mz hL, ev_mj hL, ev_n8 hL, ev_n64 hL, ev_n229 hL, ev_n254 hL, ev_n257 hL, ev_n259 hL, ev_n260 hL, ev_n261 hL, ev_0 hL, ev_00 hL, ev_01 hL, ev_02 hL, ev_1 hL, ev_1n hL, ev_1r hL, ev_lg hL, ev_lr hL, ev_sr hL, ev_2 hL, ev_2n hL, ev_3 hL, ev_30 hL, ev_31 hL, ev_4 hL, ev_4n hL, ev_5 hL, ev_5n hL, ev_4r hL, ev_lt1 hL, ev_ltr hL, ev_lnt hL, ev_lnn hL, ev_7 hL, ev_7n hL, ev_uE, ev_uK]
  · rw [ev_uI hL (by omega)]; exact s2 l (by omega) hl
  · rw [ev_uI hL (by omega), s3 _ _ (by omega), hI1]; simp (disch := omega) only [↓bnd_in, ↓Option.bind_some, ↓bd2_some, ↓bd3_some, ↓bd4_some, ↓ew_mr hL, ↓ew_00 hL, ↓ew_01 hL, ↓ew_02 hL, ↓ew_1r hL, ↓ew_lr hL, ↓ew_30 hL, ↓ew_31 hL, ↓ew_4r hL, ↓ew_ltr hL, ↓gd_m hL, ↓gd_0 hL, gd_t, Option.bind_some, bd2_some, bd3_some, bd4_some, gm_some, gm_none, ↓reduceIte, or_self, or_false, false_or, or_true, true_or, and_self, and_true, true_and, and_false, false_and, not_false_eq_true, not_true_eq_false, Nat.reduceAdd, Nat.reduceMul, Int32.reduceLT, Int32.reduceLE, eq_self, ev_lit, ev_10, Int32.reduceToNatClampNeg, Nat.reduceLeDiff, Nat.reduceEqDiff, Nat.reduceLT, nI_clamp, ev_ng, ev_L1, ev_L2, ev_L3, ev_K1, ev_K2, ev_K3, ev_K4, ev_K5, ev_a1, ev_m1, ev_s1, ev_s2, nI_add, ev_nle, ev_le, ev_lt, ev_nlt, ev_ne, ev_eq, ev_uI hL, ev_uJ hL, ev_m hL, ev_mr hL, ev_mt hL, ev_mz hL, ev_mj hL, ev_n8 hL, ev_n64 hL, ev_n229 hL, ev_n254 hL, ev_n257 hL, ev_n259 hL, ev_n260 hL, ev_n261 hL, ev_0 hL, ev_00 hL, ev_01 hL, ev_02 hL, ev_1 hL, ev_1n hL, ev_1r hL, ev_lg hL, ev_lr hL, ev_sr hL, ev_2 hL, ev_2n hL, ev_3 hL, ev_30 hL, ev_31 hL, ev_4 hL, ev_4n hL, ev_5 hL, ev_5n hL, ev_4r hL, ev_lt1 hL, ev_ltr hL, ev_lnt hL, ev_lnn hL, ev_7 hL, ev_7n hL, ev_uE, ev_uK]
/-- the place is there; class and reference begin the question alike -/
theorem ask_core (hL : Lay S A ex') (hb : b + 1 < 2 ^ 20) (hq : q < 8) (he : ex' q = true) (hex : ∀ p, p ≠ q → ex' p = ex p) (hn : nu q = 0) {d : Nat} (hd8 : d < 8) {k : Int32} (hk : k = 0 ∨ k = 1 ∨ k = 2 ∨ k = 3 ∨ k = 4) (a bb : Int32) (h : R4 (mI A Ic Ir) (mJ A Jc Jr) ex b sz c pi am fz cm gc nu N) :
    ∃ x Ic' Jc' Ir' Jr', f_ask2 S Ic Jc (A 0) (nI d) k a bb (A (300 + 40 * q)) = some (x, Ic', Jc') ∧ f_M_ask_b135 S Ir Jr 0 (A 6) (A 6) (nI d) k a bb (nI q) = some (x, Ir', Jr') ∧ Rel (mI A Ic' Ir') (mJ A Jc' Jr') ex' (b + 1) ∧ FrC A Ic Ic' ∧ FrC A Jc Jc' ∧ FrR A Ir Ir' ∧ FrR A Jr Jr' ∧ Ir' (A 6) 0 = 0 := by
  have t0 := (hL.qy hq he).2.1.1
  have hh := h
  obtain ⟨h0, h1, h2, ⟨a1, a2, a3, a4, a5, a6⟩, h4⟩ := hh
  rw [mI_c (by omega)] at a1
  rw [mI_r (by omega)] at a2
  obtain ⟨Ic2, hIc2⟩ : ∃ I2 : gMI, I2 = upI Ic (A 0) 3 (Ic (A 0) 3 + 1) := ⟨_, rfl⟩
  have e03 : Ic (A 0) 3 + 1 = nI (N + 1) := by rw [a1, ev_a1]
  have c2 : ∀ d k, ¬ (d = 0 ∧ k = 3) → Ic2 (A d) k = Ic (A d) k := fun d k hd => by rw [hIc2, ev_uI hL (by omega)]
  have c23 : Ic2 (A 0) 3 = nI (N + 1) := by rw [hIc2, ev_uE, e03]
  obtain ⟨Ic3, b1, b2, b3, b4, b5, b6, b7, b8⟩ := begin_c hL hq he (Ic2 (A 0) 3) k a bb Ic2 Jc
  obtain ⟨Ic4, x1, x2, x3, x4, x5, x6, x7, x8, x9, x10⟩ := turn_c hL hq he (nI d) Ic3 Jc
  obtain ⟨Ir2, r1, r2, r3, r4, r5, r6, r7, r8, r9, r10⟩ := ask_r hL hq (nI d) k a bb Ir Jr
  obtain ⟨Ir3, y1, y2, y3, y4, y5, y6, y7, y8, y9⟩ := turn_r hL hq (nI d) Ir2 Jr
  rw [a2, ev_a1] at r3 r4
  -- memories before the asking
  have mc : ∀ d k, ¬ (d = 0 ∧ k = 3) → ¬ (d = 300 + 40 * q ∧ 5 ≤ k ∧ k ≤ 15) → ¬ (d = 300 + 40 * q + 1 ∧ k < 8) → ¬ (d = 300 + 40 * q + 4 ∧ k = 6) → Ic4 (A d) k = Ic (A d) k := fun d k d1 d2 d3 d4 => by
    rw [x10 _ _ (by omega) (by omega), b8 _ _ (by omega) (by omega), c2 _ _ (by omega)]
  have mr : ∀ d k, ¬ (d = 6 ∧ (k = 0 ∨ k = 4)) → ¬ (231 ≤ d ∧ d ≤ 241 ∧ k = q) → ¬ (d = 243 ∧ 8 * q ≤ k ∧ k < 8 * q + 8) → Ir3 (A d) k = Ir (A d) k := fun d k d1 d2 d3 => by
    rw [y9 _ _ (by omega), r10 _ _ (by omega) (by omega) (by omega)]
  obtain ⟨Ic', Jc', Ir', Jr', c', am', s1, s2, s3, s4, s5, s6, s7, s8⟩ := ask_all (b := b + 1) (N := N + 1) (sz := sz) (pi := pi) (nu := fun p => if p = q then N + 1 else nu p) (fz := fun p => if p = q then fun _ => none else fz p) (gc := fun p => if p = q then gc q else gc p) (c := c) (am := am) (Ic := Ic4) (Ir := Ir3) (Jc := Jc) (Jr := Jr) (kd := 1) (cm := fun p => if p = q then fun _ => false else cm p) hL (by omega) hq he (by rw [if_pos rfl]; omega) (fun l hl => by rw [if_pos rfl]) (fun Ic1 Ir1 p1 p2 p3 p4 p5 q1 q2 q3 q4 => by
    have es : Ir1 (A 238) q = 0 := by rw [q4 _ _ (by omega) (by omega) (by omega)]; exact y5
    have M1 : ∀ d k, ¬ inQ q d k → mI A Ic1 Ir1 d k = mI A Ic Ir d k := fun d k hd => by
      unfold inQ own at hd
      by_cases e : d = 6 ∨ (226 ≤ d ∧ d < 263)
      · rw [mI_r e, mI_r e, q4 _ _ (by omega) (by omega) (by omega), mr _ _ (by omega) (by omega) (by omega)]
      · rw [mI_c e, mI_c e, p5 _ _ (by omega) (by omega) (by omega) (by omega), mc _ _ (by omega) (by omega) (by omega) (by omega)]
    refine ⟨q_upd (M' := mI A Ic1 Ir1) (K' := mJ A (upJ Jc (A (300 + 40 * q + 3)) 3 0) Jr) (ex' := ex') (b' := b + 1) (N' := N + 1) (u := N + 1) (f' := fun _ => none) (m' := fun _ => false) (g' := gc q) h hq M1 (fun d k hd d1 d2 => ?_) hex he (by omega) (by omega) (by omega) (by omega) ?_ ?_ ?_ (Nat.le_refl _) (fun p hp hne e => ?_) ⟨?_, fun l hl => ?_, ⟨fun l hl => ?_, ?_, ?_, fun l hl e => absurd e Bool.false_ne_true⟩, fun e => ?_, fun _ => ?_, fun e => ?_⟩ (fun _ => ⟨⟨?_, ⟨?_, ?_⟩, fun _ => ⟨?_, ?_, fun l hl e => absurd e Bool.false_ne_true, ?_, ?_⟩⟩, 1, 1, by omega, by omega, ?_, ?_, fun i hi e => ?_⟩), es⟩
    · unfold inQ own at hd
      by_cases e : d = 6 ∨ (226 ≤ d ∧ d < 263)
      · rw [mJ_r e, mJ_r e]
      · rw [mJ_c e, mJ_c e, ev_uJ hL (by omega)]
    · simp (disch := omega) only [mI_c, mI_r, mJ_c, mJ_r]
      rw [p5 _ _ (by omega) (by omega) (by omega) (by omega), x10 _ _ (by omega) (by omega), b8 _ _ (by omega) (by omega)]
      exact c23
    · simp (disch := omega) only [mI_c, mI_r, mJ_c, mJ_r]
      rw [q4 _ _ (by omega) (by omega) (by omega), y9 _ _ (by omega)]
      exact r3
    · simp (disch := omega) only [mI_c, mI_r, mJ_c, mJ_r]
      rw [q4 _ _ (by omega) (by omega) (by omega), y9 _ _ (by omega)]
      exact r4
    · have := (a4 p hp).2
      omega
    · unfold RQf
      simp (disch := omega) only [mI_c, mI_r, mJ_c, mJ_r]
      refine ⟨?_, ?_, ?_, ?_, ?_, ?_, ?_, ?_, ?_, ?_, ?_, ?_⟩
      · rw [p5 _ _ (by omega) (by omega) (by omega) (by omega), x10 _ _ (by omega) (by omega), b2, c23, q4 _ _ (by omega) (by omega) (by omega), y9 _ _ (by omega), r4]
      · rw [p5 _ _ (by omega) (by omega) (by omega) (by omega), x10 _ _ (by omega) (by omega), b3, q4 _ _ (by omega) (by omega) (by omega), y9 _ _ (by omega), r5]
      · rw [p5 _ _ (by omega) (by omega) (by omega) (by omega), x10 _ _ (by omega) (by omega), b4, q4 _ _ (by omega) (by omega) (by omega), y9 _ _ (by omega), r6]
      · rw [p5 _ _ (by omega) (by omega) (by omega) (by omega), x10 _ _ (by omega) (by omega), b5, q4 _ _ (by omega) (by omega) (by omega), y9 _ _ (by omega), r7]
      · rw [p5 _ _ (by omega) (by omega) (by omega) (by omega), x2, q4 _ _ (by omega) (by omega) (by omega), y2]
      · rw [p5 _ _ (by omega) (by omega) (by omega) (by omega), x3, b6, q4 _ _ (by omega) (by omega) (by omega), y3, r8]
      · rw [p1, x4, q2, y4]
      · rw [p5 _ _ (by omega) (by omega) (by omega) (by omega), x7, q4 _ _ (by omega) (by omega) (by omega), y5]
      · rw [p5 _ _ (by omega) (by omega) (by omega) (by omega), x5, q4 _ _ (by omega) (by omega) (by omega), y6]
      · rw [p5 _ _ (by omega) (by omega) (by omega) (by omega), x6, q4 _ _ (by omega) (by omega) (by omega), y7]
      · rw [p5 _ _ (by omega) (by omega) (by omega) (by omega), x9, q4 _ _ (by omega) (by omega) (by omega), y8]
      · rw [p5 _ _ (by omega) (by omega) (by omega) (by omega), x8, q1]
    · unfold RFz
      simp (disch := omega) only [mI_c, mI_r, mJ_c, mJ_r]
      rw [p5 _ _ (by omega) (by omega) (by omega) (by omega), x10 _ _ (by omega) (by omega), b7 l hl, q4 _ _ (by omega) (by omega) (by omega), y9 _ _ (by omega), r9 l hl]
      exact ⟨rfl, rfl⟩
    · simp (disch := omega) only [mI_c, mI_r, mJ_c, mJ_r]
      exact ⟨p2 l hl, q3 l hl⟩
    · simp (disch := omega) only [mI_c, mI_r, mJ_c, mJ_r]
      rw [p3, cmN_0]; rfl
    · simp (disch := omega) only [mI_c, mI_r, mJ_c, mJ_r]
      rw [ev_uK, cmS_0]
    · rw [mI_r (by omega), q1] at e
      exact absurd e (by decide)
    · have e1 : mI A Ic1 Ir1 242 q = 1 := by simp (disch := omega) only [mI_c, mI_r, mJ_c, mJ_r]; exact q1
      unfold RAs
      rw [e1]
      exact ⟨fun e => absurd e (by decide), fun e => absurd e (by decide), fun e => absurd e (by decide), fun e => absurd e (by decide), fun _ => ⟨fun e => absurd e (by decide), fun e => absurd e (by decide)⟩⟩
    · rw [mI_r (by omega), es] at e
      exact absurd e (by decide)
    · rw [mI_r (by omega)]; exact Or.inl es
    · exact ⟨d, hd8, by rw [mI_r (by omega), q4 _ _ (by omega) (by omega) (by omega), y2]⟩
    · rw [mI_r (by omega), q4 _ _ (by omega) (by omega) (by omega), y9 _ _ (by omega), r5]
      exact hk
    · rw [mI_r (by omega)]; exact Or.inl q1
    · rw [mI_r (by omega)]; exact fun e => absurd q1 e
    · rw [mI_r (by omega), q1]; exact fun e => absurd e (by decide)
    · simp (disch := omega) only [mI_c, mI_r, mJ_c, mJ_r]
      rw [q1]
      exact ⟨fun e => absurd e (by decide), fun e => absurd e (by decide), fun e => absurd e (by decide)⟩
    · rw [mI_r (by omega), q4 _ _ (by omega) (by omega) (by omega), y3, r8]; rfl
    · rw [mI_r (by omega), q2, y4]; rfl
    · obtain ⟨ka, f, t, w, v1, v2, v3, v4, v5, v6, v7, v8, v9⟩ := h4.1 i hi
      rw [M1 259 _ (by unfold inQ own; omega), v9] at e
      have := (ev_L3 (a := w) (b := N + 1) (by omega) (by omega)).mp e
      omega)
  have fN := s3.2.2.2.1
  obtain ⟨z1, z2, -⟩ := fN
  rw [mI_c (by omega)] at z1
  rw [mI_r (by omega)] at z2
  have hbg := y1 _ s2
  refine ⟨nI (N + 1), Ic', Jc', Ir', Jr', ?_, ?_, s3.rel, fun d k hd => ?_, s5, fun d k hd => ?_, s7, ?_⟩
  · rw [f_ask2, gd_in (ev_0 hL), bnd_in, ← hIc2, gd_in t0, ob_h b1, ob_h x1, b2_h s1, z1]
  · rw [r1 _ _ hbg, z2]
  · rw [s4 d k hd, mc _ _ (by omega) (by omega) (by omega) (by omega)]
  · rw [s6 d k hd, mr _ _ (by omega) (by omega) (by omega)]
  · rw [s8, y9 _ _ (by omega), r2]
end ASK
