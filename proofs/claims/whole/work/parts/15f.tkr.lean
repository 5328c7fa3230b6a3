-- An answer is taken: the reference's side
section TKR
variable {S : gS} {A : Nat → Nat} {ex : Nat → Bool} {J Jr : gMJ} {q f : Nat}
theorem tk_b83 (hL : Lay S A ex) (hq : q < 8) (hf : f < 8) : ∀ (g i n : Nat) (I : gMI), i + g = 64 → g < n → ∃ I', f_M_take_b83 S n I J (A 6) (nI q) (nI (8 * q + f)) (nI i) = f_M_take_b121 S gFuel I' J (A 6) (nI q) 1 0 ∧ (∀ j, j < 64 → I' (A 257) (64 * (8 * q + f) + j) = if j < i then I (A 257) (64 * (8 * q + f) + j) else I (A 262) j) ∧ ∀ d k, ¬ (d = 257 ∧ 64 * (8 * q + f) ≤ k ∧ k < 64 * (8 * q + f) + 64) → I' (A d) k = I (A d) k := by
  intro g
  induction g with
  | zero =>
    intro i n I hi hn
    obtain ⟨n, rfl⟩ : ∃ k, n = k + 1 := ⟨n - 1, by omega⟩
    refine ⟨I, ?_, fun j hj => by rw [if_pos (by omega)], fun _ _ _ => rfl⟩
    simp (disch := omega) only [f_M_take_b83, ↓bnd_in, ↓Option.bind_some, ↓bd2_some, ↓bd3_some, ↓bd4_some, ↓ew_mr hL, ↓ew_00 hL, ↓ew_01 hL, ↓ew_02 hL, ↓ew_1r hL, ↓ew_lr hL, ↓ew_30 hL, ↓ew_31 hL, ↓ew_4r hL, ↓ew_ltr hL, ↓gd_m hL, ↓gd_0 hL, gd_t, Option.bind_some, bd2_some, bd3_some, bd4_some, gm_some, gm_none, ↓reduceIte, or_self, or_false, false_or, or_true, true_or, and_self, and_true, true_and, and_false, false_and, not_false_eq_true, not_true_eq_false, Nat.reduceAdd, Nat.reduceMul, Int32.reduceLT, Int32.reduceLE, eq_self, ev_lit, ev_10, Int32.reduceToNatClampNeg, Nat.reduceLeDiff, Nat.reduceEqDiff, Nat.reduceLT, nI_clamp, ev_ng, ev_L1, ev_L2, ev_L3, ev_K1, ev_K2, ev_K3, ev_K4, ev_K5, ev_a1, ev_m1, ev_s1, ev_s2, nI_add, ev_nle, ev_le, ev_lt, ev_nlt, ev_ne, ev_eq, ev_uI hL, ev_uJ hL, ev_m hL, ev_mr hL, ev_mt hL, ev_mz hL, ev_mj hL, ev_n8 hL, ev_n64 hL, ev_n229 hL, ev_n254 hL, ev_n257 hL, ev_n259 hL, ev_n260 hL, ev_n261 hL, ev_0 hL, ev_00 hL, ev_01 hL, ev_02 hL, ev_1 hL, ev_1n hL, ev_1r hL, ev_lg hL, ev_lr hL, ev_sr hL, ev_2 hL, ev_2n hL, ev_3 hL, ev_30 hL, ev_31 hL, ev_4 hL, ev_4n hL, ev_5 hL, ev_5n hL, ev_4r hL, ev_lt1 hL, ev_ltr hL, ev_lnt hL, ev_lnn hL, ev_7 hL, ev_7n hL, ev_uE, ev_uK]
  | succ g ih =>
    intro i n I hi hn
    obtain ⟨n, rfl⟩ : ∃ k, n = k + 1 := ⟨n - 1, by omega⟩
    obtain ⟨I', s1, s2, s3⟩ := ih (i + 1) n (upI I (A 257) (64 * (8 * q + f) + i) (I (A 262) i)) (by omega) (by omega)
    refine ⟨I', ?_, fun j hj => ?_, fun d k d1 => by rw [s3 _ _ d1, ev_uI hL (by omega)]⟩
    · rw [← s1]
      have hN := ev_n257 hL
      simp (disch := omega) only [f_M_take_b83, ↓bnd_in, ↓Option.bind_some, ↓bd2_some, ↓bd3_some, ↓bd4_some, ↓ew_mr hL, ↓ew_00 hL, ↓ew_01 hL, ↓ew_02 hL, ↓ew_1r hL, ↓ew_lr hL, ↓ew_30 hL, ↓ew_31 hL, ↓ew_4r hL, ↓ew_ltr hL, ↓gd_m hL, ↓gd_0 hL, gd_t, Option.bind_some, bd2_some, bd3_some, bd4_some, gm_some, gm_none, ↓reduceIte, or_self, or_false, false_or, or_true, true_or, and_self, and_true, true_and, and_false, false_and, not_false_eq_true, not_true_eq_false, Nat.reduceAdd, Nat.reduceMul, Int32.reduceLT, Int32.reduceLE, eq_self, ev_lit, ev_10, Int32.reduceToNatClampNeg, Nat.reduceLeDiff, Nat.reduceEqDiff, Nat.reduceLT, nI_clamp, ev_ng, ev_L1, ev_L2, ev_L3, ev_K1, ev_K2, ev_K3, ev_K4, ev_K5, ev_a1, ev_m1, ev_s1, ev_s2, nI_add, ev_nle, ev_le, ev_lt, ev_nlt, ev_ne, ev_eq, ev_uI hL, ev_uJ hL, ev_m hL, ev_mr hL, ev_mt hL, ev_mz hL, ev_mj hL, ev_n8 hL, ev_n64 hL, ev_n229 hL, ev_n254 hL, ev_n257 hL, ev_n259 hL, ev_n260 hL, ev_n261 hL, ev_0 hL, ev_00 hL, ev_01 hL, ev_02 hL, ev_1 hL, ev_1n hL, ev_1r hL, ev_lg hL, ev_lr hL, ev_sr hL, ev_2 hL, ev_2n hL, ev_3 hL, ev_30 hL, ev_31 hL, ev_4 hL, ev_4n hL, ev_5 hL, ev_5n hL, ev_4r hL, ev_lt1 hL, ev_ltr hL, ev_lnt hL, ev_lnn hL, ev_7 hL, ev_7n hL, ev_uE, ev_uK]
    · rw [s2 j hj]
      by_cases e : j < i
      · rw [if_pos (by omega), if_pos e, ev_uI hL (by omega)]
      · rw [if_neg e]
        by_cases e2 : j = i
        · rw [if_pos (by omega), e2, ev_uE]
        · rw [if_neg (by omega), ev_uI hL (by omega)]
theorem tk_b17 (hL : Lay S A ex) (hq : q < 8) (hf : f < 8) {am : Nat} (ham : am ≤ 64) : ∀ (g i n : Nat) (I : gMI), i + g = 4 → g < n → I (A 6) 37 = nI am → (∀ j, am ≤ j → j < 64 → I (A 262) j = 0) → ∃ I', f_M_take_b17 S n I J (A 6) (nI q) (nI (8 * q + f)) (nI i) = f_M_take_b121 S gFuel I' (upJ J (A 255) (8 * q + f) (J (A 6) 38)) (A 6) (nI q) 1 0 ∧ (∀ k, k < 4 → I' (A 254) (4 * (8 * q + f) + k) = if k < i then I (A 254) (4 * (8 * q + f) + k) else I (A 262) k) ∧ I' (A 256) (8 * q + f) = nI am ∧ (∀ j, j < 64 → I' (A 257) (64 * (8 * q + f) + j) = I (A 262) j) ∧ ∀ d k, ¬ (d = 254 ∧ 4 * (8 * q + f) ≤ k ∧ k < 4 * (8 * q + f) + 4) → ¬ (d = 256 ∧ k = 8 * q + f) → ¬ (d = 257 ∧ 64 * (8 * q + f) ≤ k ∧ k < 64 * (8 * q + f) + 64) → I' (A d) k = I (A d) k := by
  intro g
  induction g with
  | zero =>
    intro i n I hi hn h37 hz
    obtain ⟨n, rfl⟩ : ∃ k, n = k + 1 := ⟨n - 1, by omega⟩
    obtain ⟨I', s1, s2, s3⟩ := tk_b83 (J := upJ J (A 255) (8 * q + f) (J (A 6) 38)) hL hq hf 64 0 gFuel (upI I (A 256) (8 * q + f) (nI am)) (by omega) (by unfold gFuel; omega)
    rw [show nI 0 = (0 : Int32) from rfl] at s1
    refine ⟨I', ?_, fun k hk => ?_, ?_, fun j hj => ?_, fun d k d1 d2 d3 => by rw [s3 _ _ d3, ev_uI hL (by omega)]⟩
    · rw [← s1]
      simp (disch := omega) only [f_M_take_b17, h37, ↓bnd_in, ↓Option.bind_some, ↓bd2_some, ↓bd3_some, ↓bd4_some, ↓ew_mr hL, ↓ew_00 hL, ↓ew_01 hL, ↓ew_02 hL, ↓ew_1r hL, ↓ew_lr hL, ↓ew_30 hL, ↓ew_31 hL, ↓ew_4r hL, ↓ew_ltr hL, ↓gd_m hL, ↓gd_0 hL, gd_t, Option.bind_some, bd2_some, bd3_some, bd4_some, gm_some, gm_none, ↓reduceIte, or_self, or_false, false_or, or_true, true_or, and_self, and_true, true_and, and_false, false_and, not_false_eq_true, not_true_eq_false, Nat.reduceAdd, Nat.reduceMul, Int32.reduceLT, Int32.reduceLE, eq_self, ev_lit, ev_10, Int32.reduceToNatClampNeg, Nat.reduceLeDiff, Nat.reduceEqDiff, Nat.reduceLT, nI_clamp, ev_ng, ev_L1, ev_L2, ev_L3, ev_K1, ev_K2, ev_K3, ev_K4, ev_K5, ev_a1, ev_m1, ev_s1, ev_s2, nI_add, ev_nle, ev_le, ev_lt, ev_nlt, ev_ne, ev_eq, ev_uI hL, ev_uJ hL, ev_m hL, ev_mr hL, ev_mt hL, ev_mz hL, ev_mj hL, ev_n8 hL, ev_n64 hL, ev_n229 hL, ev_n254 hL, ev_n257 hL, ev_n259 hL, ev_n260 hL, ev_n261 hL, ev_0 hL, ev_00 hL, ev_01 hL, ev_02 hL, ev_1 hL, ev_1n hL, ev_1r hL, ev_lg hL, ev_lr hL, ev_sr hL, ev_2 hL, ev_2n hL, ev_3 hL, ev_30 hL, ev_31 hL, ev_4 hL, ev_4n hL, ev_5 hL, ev_5n hL, ev_4r hL, ev_lt1 hL, ev_ltr hL, ev_lnt hL, ev_lnn hL, ev_7 hL, ev_7n hL, ev_uE, ev_uK]
    · rw [if_pos (by omega), s3 _ _ (by omega), ev_uI hL (by omega)]
    · rw [s3 _ _ (by omega), ev_uE]
    · rw [s2 j hj, if_neg (by omega), ev_uI hL (by omega)]
  | succ g ih =>
    intro i n I hi hn h37 hz
    obtain ⟨n, rfl⟩ : ∃ k, n = k + 1 := ⟨n - 1, by omega⟩
    have hN := ev_n254 hL
    obtain ⟨I', s1, s2, s3, s4, s5⟩ := ih (i + 1) n (upI I (A 254) (4 * (8 * q + f) + i) (I (A 262) i)) (by omega) (by omega) (by rw [ev_uI hL (by omega)]; exact h37) (fun j j1 j2 => by rw [ev_uI hL (by omega)]; exact hz j j1 j2)
    refine ⟨I', ?_, fun k hk => ?_, s3, fun j hj => by rw [s4 j hj, ev_uI hL (by omega)], fun d k d1 d2 d3 => by rw [s5 _ _ d1 d2 d3, ev_uI hL (by omega)]⟩
    · by_cases e : i < am
      · rw [← s1]
        simp (disch := omega) only [f_M_take_b17, h37, f_M_take_b53, ↓bnd_in, ↓Option.bind_some, ↓bd2_some, ↓bd3_some, ↓bd4_some, ↓ew_mr hL, ↓ew_00 hL, ↓ew_01 hL, ↓ew_02 hL, ↓ew_1r hL, ↓ew_lr hL, ↓ew_30 hL, ↓ew_31 hL, ↓ew_4r hL, ↓ew_ltr hL, ↓gd_m hL, ↓gd_0 hL, gd_t, Option.bind_some, bd2_some, bd3_some, bd4_some, gm_some, gm_none, ↓reduceIte, or_self, or_false, false_or, or_true, true_or, and_self, and_true, true_and, and_false, false_and, not_false_eq_true, not_true_eq_false, Nat.reduceAdd, Nat.reduceMul, Int32.reduceLT, Int32.reduceLE, eq_self, ev_lit, ev_10, Int32.reduceToNatClampNeg, Nat.reduceLeDiff, Nat.reduceEqDiff, Nat.reduceLT, nI_clamp, ev_ng, ev_L1, ev_L2, ev_L3, ev_K1, ev_K2, ev_K3, ev_K4, ev_K5, ev_a1, ev_m1, ev_s1, ev_s2, nI_add, ev_nle, ev_le, ev_lt, ev_nlt, ev_ne, ev_eq, ev_uI hL, ev_uJ hL, ev_m hL, ev_mr hL, ev_mt hL, ev_mz hL, ev_mj hL, ev_n8 hL, ev_n64 hL, ev_n229 hL, ev_n254 hL, ev_n257 hL, ev_n259 hL, ev_n260 hL, ev_n261 hL, ev_0 hL, ev_00 hL, ev_01 hL, ev_02 hL, ev_1 hL, ev_1n hL, ev_1r hL, ev_lg hL, ev_lr hL, ev_sr hL, ev_2 hL, ev_2n hL, ev_3 hL, ev_30 hL, ev_31 hL, ev_4 hL, ev_4n hL, ev_5 hL, ev_5n hL, ev_4r hL, ev_lt1 hL, ev_ltr hL, ev_lnt hL, ev_lnn hL, ev_7 hL, ev_7n hL, ev_uE, ev_uK]
      · rw [← s1, hz i (by omega) (by omega)]
        simp (disch := omega) only [f_M_take_b17, h37, f_M_take_b53, ↓bnd_in, ↓Option.bind_some, ↓bd2_some, ↓bd3_some, ↓bd4_some, ↓ew_mr hL, ↓ew_00 hL, ↓ew_01 hL, ↓ew_02 hL, ↓ew_1r hL, ↓ew_lr hL, ↓ew_30 hL, ↓ew_31 hL, ↓ew_4r hL, ↓ew_ltr hL, ↓gd_m hL, ↓gd_0 hL, gd_t, Option.bind_some, bd2_some, bd3_some, bd4_some, gm_some, gm_none, ↓reduceIte, or_self, or_false, false_or, or_true, true_or, and_self, and_true, true_and, and_false, false_and, not_false_eq_true, not_true_eq_false, Nat.reduceAdd, Nat.reduceMul, Int32.reduceLT, Int32.reduceLE, eq_self, ev_lit, ev_10, Int32.reduceToNatClampNeg, Nat.reduceLeDiff, Nat.reduceEqDiff, Nat.reduceLT, nI_clamp, ev_ng, ev_L1, ev_L2, ev_L3, ev_K1, ev_K2, ev_K3, ev_K4, ev_K5, ev_a1, ev_m1, ev_s1, ev_s2, nI_add, ev_nle, ev_le, ev_lt, ev_nlt, ev_ne, ev_eq, ev_uI hL, ev_uJ hL, ev_m hL, ev_mr hL, ev_mt hL, ev_mz hL, ev_mj hL, ev_n8 hL, ev_n64 hL, ev_n229 hL, ev_n254 hL, ev_n257 hL, ev_n259 hL, ev_n260 hL, ev_n261 hL, ev_0 hL, ev_00 hL, ev_01 hL, ev_02 hL, ev_1 hL, ev_1n hL, ev_1r hL, ev_lg hL, ev_lr hL, ev_sr hL, ev_2 hL, ev_2n hL, ev_3 hL, ev_30 hL, ev_31 hL, ev_4 hL, ev_4n hL, ev_5 hL, ev_5n hL, ev_4r hL, ev_lt1 hL, ev_ltr hL, ev_lnt hL, ev_lnn hL, ev_7 hL, ev_7n hL, ev_uE, ev_uK]
    · rw [s2 k hk]
      by_cases e : k < i
      · rw [if_pos (by omega), if_pos e, ev_uI hL (by omega)]
      · rw [if_neg e]
        by_cases e2 : k = i
        · rw [if_pos (by omega), e2, ev_uE]
        · rw [if_neg (by omega), ev_uI hL (by omega)]
/-- the reference takes an answer of logger f; then it looks whether all came -/
theorem tk_r (hL : Lay S A ex) (hq : q < 8) (hf : f < 8) {am : Nat} {Ir : gMI} (ham : am ≤ 64) (h37 : Ir (A 6) 37 = nI am) (hz : ∀ j, am ≤ j → j < 64 → Ir (A 262) j = 0) : ∃ I', f_M_take S Ir Jr (A 6) (nI q) (nI f) = f_M_take_b121 S gFuel I' (upJ Jr (A 255) (8 * q + f) (Jr (A 6) 38)) (A 6) (nI q) 1 0 ∧ I' (A 253) (8 * q + f) = 1 ∧ (∀ k, k < 4 → I' (A 254) (4 * (8 * q + f) + k) = Ir (A 262) k) ∧ I' (A 256) (8 * q + f) = nI am ∧ (∀ j, j < 64 → I' (A 257) (64 * (8 * q + f) + j) = Ir (A 262) j) ∧ ∀ d k, ¬ (d = 253 ∧ k = 8 * q + f) → ¬ (d = 254 ∧ 4 * (8 * q + f) ≤ k ∧ k < 4 * (8 * q + f) + 4) → ¬ (d = 256 ∧ k = 8 * q + f) → ¬ (d = 257 ∧ 64 * (8 * q + f) ≤ k ∧ k < 64 * (8 * q + f) + 64) → I' (A d) k = Ir (A d) k := by
  obtain ⟨I', s1, s2, s3, s4, s5⟩ := tk_b17 (J := Jr) hL hq hf ham 4 0 gFuel (upI Ir (A 253) (8 * q + f) 1) (by omega) (by unfold gFuel; omega) (by rw [ev_uI hL (by omega)]; exact h37) (fun j j1 j2 => by rw [ev_uI hL (by omega)]; exact hz j j1 j2)
  rw [show nI 0 = (0 : Int32) from rfl] at s1
  refine ⟨I', ?_, ?_, fun k hk => ?_, s3, fun j hj => ?_, fun d k d1 d2 d3 d4 => ?_⟩
  · rw [← s1]
    simp (disch := omega) only [f_M_take, ↓bnd_in, ↓Option.bind_some, ↓bd2_some, ↓bd3_some, ↓bd4_some, ↓ew_mr hL, ↓ew_00 hL, ↓ew_01 hL, ↓ew_02 hL, ↓ew_1r hL, ↓ew_lr hL, ↓ew_30 hL, ↓ew_31 hL, ↓ew_4r hL, ↓ew_ltr hL, ↓gd_m hL, ↓gd_0 hL, gd_t, Option.bind_some, bd2_some, bd3_some, bd4_some, gm_some, gm_none, ↓reduceIte, or_self, or_false, false_or, or_true, true_or, and_self, and_true, true_and, and_false, false_and, not_false_eq_true, not_true_eq_false, Nat.reduceAdd, Nat.reduceMul, Int32.reduceLT, Int32.reduceLE, eq_self, ev_lit, ev_10, Int32.reduceToNatClampNeg, Nat.reduceLeDiff, Nat.reduceEqDiff, Nat.reduceLT, nI_clamp, ev_ng, ev_L1, ev_L2, ev_L3, ev_K1, ev_K2, ev_K3, ev_K4, ev_K5, ev_a1, ev_m1, ev_s1, ev_s2, nI_add, ev_nle, ev_le, ev_lt, ev_nlt, ev_ne, ev_eq, ev_uI hL, ev_uJ hL, ev_m hL, ev_mr hL, ev_mt hL, ev_mz hL, ev_mj hL, ev_n8 hL, ev_n64 hL, ev_n229 hL, ev_n254 hL, ev_n257 hL, ev_n259 hL, ev_n260 hL, ev_n261 hL, ev_0 hL, ev_00 hL, ev_01 hL, ev_02 hL, ev_1 hL, ev_1n hL, ev_1r hL, ev_lg hL, ev_lr hL, ev_sr hL, ev_2 hL, ev_2n hL, ev_3 hL, ev_30 hL, ev_31 hL, ev_4 hL, ev_4n hL, ev_5 hL, ev_5n hL, ev_4r hL, ev_lt1 hL, ev_ltr hL, ev_lnt hL, ev_lnn hL, ev_7 hL, ev_7n hL, ev_uE, ev_uK]
  · rw [s5 _ _ (by omega) (by omega) (by omega), ev_uE]
  · rw [s2 k hk, if_neg (by omega), ev_uI hL (by omega)]
  · rw [s4 j hj, ev_uI hL (by omega)]
  · rw [s5 _ _ d2 d3 d4, ev_uI hL (by omega)]
/-- not all came: nothing more -/
theorem tk_some (hL : Lay S A ex) (hq : q < 8) {z : Nat → Bool} {I : gMI} (hc : ∀ l, l < 8 → I (A 253) (8 * q + l) = if z l then 1 else 0) : ∀ (g i n : Nat) (b : Bool), i + g = 8 → g < n → (b = false ∨ ∃ l, i ≤ l ∧ l < 8 ∧ z l = false) → f_M_take_b121 S n I J (A 6) (nI q) (if b then 1 else 0) (nI i) = some (I, J) := by
  intro g
  induction g with
  | zero =>
    intro i n b hi hn hb
    obtain ⟨n, rfl⟩ : ∃ k, n = k + 1 := ⟨n - 1, by omega⟩
    have hb : b = false := by
      rcases hb with e | ⟨l, l1, l2, -⟩
      · exact e
      · omega
    subst hb
    simp (disch := omega) only [f_M_take_b121, Bool.false_eq_true, f_M_take_b171, ↓bnd_in, ↓Option.bind_some, ↓bd2_some, ↓bd3_some, ↓bd4_some, ↓ew_mr hL, ↓ew_00 hL, ↓ew_01 hL, ↓ew_02 hL, ↓ew_1r hL, ↓ew_lr hL, ↓ew_30 hL, ↓ew_31 hL, ↓ew_4r hL, ↓ew_ltr hL, ↓gd_m hL, ↓gd_0 hL, gd_t, Option.bind_some, bd2_some, bd3_some, bd4_some, gm_some, gm_none, ↓reduceIte, or_self, or_false, false_or, or_true, true_or, and_self, and_true, true_and, and_false, false_and, not_false_eq_true, not_true_eq_false, Nat.reduceAdd, Nat.reduceMul, Int32.reduceLT, Int32.reduceLE, eq_self, ev_lit, ev_10, Int32.reduceToNatClampNeg, Nat.reduceLeDiff, Nat.reduceEqDiff, Nat.reduceLT, nI_clamp, ev_ng, ev_L1, ev_L2, ev_L3, ev_K1, ev_K2, ev_K3, ev_K4, ev_K5, ev_a1, ev_m1, ev_s1, ev_s2, nI_add, ev_nle, ev_le, ev_lt, ev_nlt, ev_ne, ev_eq, ev_uI hL, ev_uJ hL, ev_m hL, ev_mr hL, ev_mt hL, ev_mz hL, ev_mj hL, ev_n8 hL, ev_n64 hL, ev_n229 hL, ev_n254 hL, ev_n257 hL, ev_n259 hL, ev_n260 hL, ev_n261 hL, ev_0 hL, ev_00 hL, ev_01 hL, ev_02 hL, ev_1 hL, ev_1n hL, ev_1r hL, ev_lg hL, ev_lr hL, ev_sr hL, ev_2 hL, ev_2n hL, ev_3 hL, ev_30 hL, ev_31 hL, ev_4 hL, ev_4n hL, ev_5 hL, ev_5n hL, ev_4r hL, ev_lt1 hL, ev_ltr hL, ev_lnt hL, ev_lnn hL, ev_7 hL, ev_7n hL, ev_uE, ev_uK]
  | succ g ih =>
    intro i n b hi hn hb
    obtain ⟨n, rfl⟩ : ∃ k, n = k + 1 := ⟨n - 1, by omega⟩
    cases b with
    | false =>
      have := ih (i + 1) n false (by omega) (by omega) (Or.inl rfl)
      simp only [Bool.false_eq_true, if_false] at this ⊢
      simp (disch := omega) only [f_M_take_b121, f_M_take_b152, f_M_take_b153, ↓bnd_in, ↓Option.bind_some, ↓bd2_some, ↓bd3_some, ↓bd4_some, ↓ew_mr hL, ↓ew_00 hL, ↓ew_01 hL, ↓ew_02 hL, ↓ew_1r hL, ↓ew_lr hL, ↓ew_30 hL, ↓ew_31 hL, ↓ew_4r hL, ↓ew_ltr hL, ↓gd_m hL, ↓gd_0 hL, gd_t, Option.bind_some, bd2_some, bd3_some, bd4_some, gm_some, gm_none, ↓reduceIte, or_self, or_false, false_or, or_true, true_or, and_self, and_true, true_and, and_false, false_and, not_false_eq_true, not_true_eq_false, Nat.reduceAdd, Nat.reduceMul, Int32.reduceLT, Int32.reduceLE, eq_self, ev_lit, ev_10, Int32.reduceToNatClampNeg, Nat.reduceLeDiff, Nat.reduceEqDiff, Nat.reduceLT, nI_clamp, ev_ng, ev_L1, ev_L2, ev_L3, ev_K1, ev_K2, ev_K3, ev_K4, ev_K5, ev_a1, ev_m1, ev_s1, ev_s2, nI_add, ev_nle, ev_le, ev_lt, ev_nlt, ev_ne, ev_eq, ev_uI hL, ev_uJ hL, ev_m hL, ev_mr hL, ev_mt hL, ev_mz hL, ev_mj hL, ev_n8 hL, ev_n64 hL, ev_n229 hL, ev_n254 hL, ev_n257 hL, ev_n259 hL, ev_n260 hL, ev_n261 hL, ev_0 hL, ev_00 hL, ev_01 hL, ev_02 hL, ev_1 hL, ev_1n hL, ev_1r hL, ev_lg hL, ev_lr hL, ev_sr hL, ev_2 hL, ev_2n hL, ev_3 hL, ev_30 hL, ev_31 hL, ev_4 hL, ev_4n hL, ev_5 hL, ev_5n hL, ev_4r hL, ev_lt1 hL, ev_ltr hL, ev_lnt hL, ev_lnn hL, ev_7 hL, ev_7n hL, ev_uE, ev_uK]
      exact this
    | true =>
      have hi8 := hc i (by omega)
      cases e : z i with
      | false =>
        have := ih (i + 1) n false (by omega) (by omega) (Or.inl rfl)
        simp only [Bool.false_eq_true, if_false] at this
        rw [e, if_neg Bool.false_ne_true] at hi8
        simp (disch := omega) only [f_M_take_b121, f_M_take_b152, f_M_take_b153, hi8, ↓bnd_in, ↓Option.bind_some, ↓bd2_some, ↓bd3_some, ↓bd4_some, ↓ew_mr hL, ↓ew_00 hL, ↓ew_01 hL, ↓ew_02 hL, ↓ew_1r hL, ↓ew_lr hL, ↓ew_30 hL, ↓ew_31 hL, ↓ew_4r hL, ↓ew_ltr hL, ↓gd_m hL, ↓gd_0 hL, gd_t, Option.bind_some, bd2_some, bd3_some, bd4_some, gm_some, gm_none, ↓reduceIte, or_self, or_false, false_or, or_true, true_or, and_self, and_true, true_and, and_false, false_and, not_false_eq_true, not_true_eq_false, Nat.reduceAdd, Nat.reduceMul, Int32.reduceLT, Int32.reduceLE, eq_self, ev_lit, ev_10, Int32.reduceToNatClampNeg, Nat.reduceLeDiff, Nat.reduceEqDiff, Nat.reduceLT, nI_clamp, ev_ng, ev_L1, ev_L2, ev_L3, ev_K1, ev_K2, ev_K3, ev_K4, ev_K5, ev_a1, ev_m1, ev_s1, ev_s2, nI_add, ev_nle, ev_le, ev_lt, ev_nlt, ev_ne, ev_eq, ev_uI hL, ev_uJ hL, ev_m hL, ev_mr hL, ev_mt hL, ev_mz hL, ev_mj hL, ev_n8 hL, ev_n64 hL, ev_n229 hL, ev_n254 hL, ev_n257 hL, ev_n259 hL, ev_n260 hL, ev_n261 hL, ev_0 hL, ev_00 hL, ev_01 hL, ev_02 hL, ev_1 hL, ev_1n hL, ev_1r hL, ev_lg hL, ev_lr hL, ev_sr hL, ev_2 hL, ev_2n hL, ev_3 hL, ev_30 hL, ev_31 hL, ev_4 hL, ev_4n hL, ev_5 hL, ev_5n hL, ev_4r hL, ev_lt1 hL, ev_ltr hL, ev_lnt hL, ev_lnn hL, ev_7 hL, ev_7n hL, ev_uE, ev_uK]
        exact this
      | true =>
        have := ih (i + 1) n true (by omega) (by omega) (Or.inr (by
          rcases hb with e1 | ⟨l, l1, l2, l3⟩
          · exact absurd e1 (by decide)
          · by_cases e2 : l = i
            · rw [e2, e] at l3; exact absurd l3 (by decide)
            · exact ⟨l, by omega, l2, l3⟩))
        simp only [if_true] at this
        rw [e, if_pos rfl] at hi8
        simp (disch := omega) only [f_M_take_b121, f_M_take_b152, f_M_take_b153, hi8, ↓bnd_in, ↓Option.bind_some, ↓bd2_some, ↓bd3_some, ↓bd4_some, ↓ew_mr hL, ↓ew_00 hL, ↓ew_01 hL, ↓ew_02 hL, ↓ew_1r hL, ↓ew_lr hL, ↓ew_30 hL, ↓ew_31 hL, ↓ew_4r hL, ↓ew_ltr hL, ↓gd_m hL, ↓gd_0 hL, gd_t, Option.bind_some, bd2_some, bd3_some, bd4_some, gm_some, gm_none, ↓reduceIte, or_self, or_false, false_or, or_true, true_or, and_self, and_true, true_and, and_false, false_and, not_false_eq_true, not_true_eq_false, Nat.reduceAdd, Nat.reduceMul, Int32.reduceLT, Int32.reduceLE, eq_self, ev_lit, ev_10, Int32.reduceToNatClampNeg, Nat.reduceLeDiff, Nat.reduceEqDiff, Nat.reduceLT, nI_clamp, ev_ng, ev_L1, ev_L2, ev_L3, ev_K1, ev_K2, ev_K3, ev_K4, ev_K5, ev_a1, ev_m1, ev_s1, ev_s2, nI_add, ev_nle, ev_le, ev_lt, ev_nlt, ev_ne, ev_eq, ev_uI hL, ev_uJ hL, ev_m hL, ev_mr hL, ev_mt hL, ev_mz hL, ev_mj hL, ev_n8 hL, ev_n64 hL, ev_n229 hL, ev_n254 hL, ev_n257 hL, ev_n259 hL, ev_n260 hL, ev_n261 hL, ev_0 hL, ev_00 hL, ev_01 hL, ev_02 hL, ev_1 hL, ev_1n hL, ev_1r hL, ev_lg hL, ev_lr hL, ev_sr hL, ev_2 hL, ev_2n hL, ev_3 hL, ev_30 hL, ev_31 hL, ev_4 hL, ev_4n hL, ev_5 hL, ev_5n hL, ev_4r hL, ev_lt1 hL, ev_ltr hL, ev_lnt hL, ev_lnn hL, ev_7 hL, ev_7n hL, ev_uE, ev_uK]
        exact this
theorem tk_all (hL : Lay S A ex) (hq : q < 8) {I : gMI} (hc : ∀ l, l < 8 → I (A 253) (8 * q + l) = 1) : ∀ (g i n : Nat), i + g = 8 → g < n → ∀ r, f_M_goOn S I J (A 6) (nI q) = some r → f_M_take_b121 S n I J (A 6) (nI q) 1 (nI i) = some r := by
  intro g
  induction g with
  | zero =>
    intro i n hi hn r hr
    obtain ⟨n, rfl⟩ : ∃ k, n = k + 1 := ⟨n - 1, by omega⟩
    obtain ⟨r1, r2⟩ := r
    simp (disch := omega) only [f_M_take_b121, ↓b2_h hr, f_M_take_b171, ↓bnd_in, ↓Option.bind_some, ↓bd2_some, ↓bd3_some, ↓bd4_some, ↓ew_mr hL, ↓ew_00 hL, ↓ew_01 hL, ↓ew_02 hL, ↓ew_1r hL, ↓ew_lr hL, ↓ew_30 hL, ↓ew_31 hL, ↓ew_4r hL, ↓ew_ltr hL, ↓gd_m hL, ↓gd_0 hL, gd_t, Option.bind_some, bd2_some, bd3_some, bd4_some, gm_some, gm_none, ↓reduceIte, or_self, or_false, false_or, or_true, true_or, and_self, and_true, true_and, and_false, false_and, not_false_eq_true, not_true_eq_false, Nat.reduceAdd, Nat.reduceMul, Int32.reduceLT, Int32.reduceLE, eq_self, ev_lit, ev_10, Int32.reduceToNatClampNeg, Nat.reduceLeDiff, Nat.reduceEqDiff, Nat.reduceLT, nI_clamp, ev_ng, ev_L1, ev_L2, ev_L3, ev_K1, ev_K2, ev_K3, ev_K4, ev_K5, ev_a1, ev_m1, ev_s1, ev_s2, nI_add, ev_nle, ev_le, ev_lt, ev_nlt, ev_ne, ev_eq, ev_uI hL, ev_uJ hL, ev_m hL, ev_mr hL, ev_mt hL, ev_mz hL, ev_mj hL, ev_n8 hL, ev_n64 hL, ev_n229 hL, ev_n254 hL, ev_n257 hL, ev_n259 hL, ev_n260 hL, ev_n261 hL, ev_0 hL, ev_00 hL, ev_01 hL, ev_02 hL, ev_1 hL, ev_1n hL, ev_1r hL, ev_lg hL, ev_lr hL, ev_sr hL, ev_2 hL, ev_2n hL, ev_3 hL, ev_30 hL, ev_31 hL, ev_4 hL, ev_4n hL, ev_5 hL, ev_5n hL, ev_4r hL, ev_lt1 hL, ev_ltr hL, ev_lnt hL, ev_lnn hL, ev_7 hL, ev_7n hL, ev_uE, ev_uK]
  | succ g ih =>
    intro i n hi hn r hr
    obtain ⟨n, rfl⟩ : ∃ k, n = k + 1 := ⟨n - 1, by omega⟩
    have hi8 := hc i (by omega)
    simp (disch := omega) only [f_M_take_b121, f_M_take_b152, f_M_take_b153, hi8, ↓bnd_in, ↓Option.bind_some, ↓bd2_some, ↓bd3_some, ↓bd4_some, ↓ew_mr hL, ↓ew_00 hL, ↓ew_01 hL, ↓ew_02 hL, ↓ew_1r hL, ↓ew_lr hL, ↓ew_30 hL, ↓ew_31 hL, ↓ew_4r hL, ↓ew_ltr hL, ↓gd_m hL, ↓gd_0 hL, gd_t, Option.bind_some, bd2_some, bd3_some, bd4_some, gm_some, gm_none, ↓reduceIte, or_self, or_false, false_or, or_true, true_or, and_self, and_true, true_and, and_false, false_and, not_false_eq_true, not_true_eq_false, Nat.reduceAdd, Nat.reduceMul, Int32.reduceLT, Int32.reduceLE, eq_self, ev_lit, ev_10, Int32.reduceToNatClampNeg, Nat.reduceLeDiff, Nat.reduceEqDiff, Nat.reduceLT, nI_clamp, ev_ng, ev_L1, ev_L2, ev_L3, ev_K1, ev_K2, ev_K3, ev_K4, ev_K5, ev_a1, ev_m1, ev_s1, ev_s2, nI_add, ev_nle, ev_le, ev_lt, ev_nlt, ev_ne, ev_eq, ev_uI hL, ev_uJ hL, ev_m hL, ev_mr hL, ev_mt hL, ev_mz hL, ev_mj hL, ev_n8 hL, ev_n64 hL, ev_n229 hL, ev_n254 hL, ev_n257 hL, ev_n259 hL, ev_n260 hL, ev_n261 hL, ev_0 hL, ev_00 hL, ev_01 hL, ev_02 hL, ev_1 hL, ev_1n hL, ev_1r hL, ev_lg hL, ev_lr hL, ev_sr hL, ev_2 hL, ev_2n hL, ev_3 hL, ev_30 hL, ev_31 hL, ev_4 hL, ev_4n hL, ev_5 hL, ev_5n hL, ev_4r hL, ev_lt1 hL, ev_ltr hL, ev_lnt hL, ev_lnn hL, ev_7 hL, ev_7n hL, ev_uE, ev_uK]
    exact ih (i + 1) n (by omega) (by omega) r hr
end TKR
