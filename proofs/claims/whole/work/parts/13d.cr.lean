-- crash
def crG (A : Nat → Nat) (cd sl : Nat → Nat) (cq : Nat → Bool) (I : gMI) : Nat → gMI
  | 0 => I
  | i + 1 => if cq i then upI (crG A cd sl cq I i) (A (cd i)) (sl i) 3 else crG A cd sl cq I i
section CR
variable {S : gS} {A : Nat → Nat} {ex : Nat → Bool} {I I' : gMI} {J : gMJ} {b : Nat} {cd sl : Nat → Nat} {cq : Nat → Bool}
theorem crG_ne (hL : Lay S A ex) {d k : Nat} : ∀ {n : Nat}, (∀ i, i < n → d ≠ cd i ∨ k ≠ sl i) → crG A cd sl cq I n (A d) k = I (A d) k
  | 0, _ => rfl
  | n + 1, h => by
    have ih := crG_ne hL (n := n) (fun i hi => h i (by omega))
    show (if cq n then upI (crG A cd sl cq I n) (A (cd n)) (sl n) 3 else crG A cd sl cq I n) (A d) k = _
    cases e : cq n with
    | true => rw [if_pos rfl, ev_uI hL (h n (by omega)), ih]
    | false => rw [if_neg (by decide), ih]
theorem crG_at (hL : Lay S A ex) {q : Nat} : ∀ {n : Nat}, q < n → (∀ i, i < n → i ≠ q → cd q ≠ cd i ∨ sl q ≠ sl i) → crG A cd sl cq I n (A (cd q)) (sl q) = if cq q then 3 else I (A (cd q)) (sl q)
  | 0, h, _ => absurd h (Nat.not_lt_zero q)
  | n + 1, hq, h => by
    show (if cq n then upI (crG A cd sl cq I n) (A (cd n)) (sl n) 3 else crG A cd sl cq I n) (A (cd q)) (sl q) = _
    by_cases e : q = n
    · subst e
      have ih := crG_ne hL (I := I) (cq := cq) (d := cd q) (k := sl q) (cd := cd) (sl := sl) (n := q) (fun i hi => h i (by omega) (by omega))
      cases e : cq q with
      | true => rw [if_pos rfl, if_pos rfl, ev_uE]
      | false => rw [if_neg (by decide), if_neg (by decide), ih]
    · have ih := crG_at hL (n := n) (by omega) (fun i hi => h i (by omega))
      cases e2 : cq n with
      | true => rw [if_pos rfl, ev_uI hL (h n (by omega) (fun x => e x.symm)), ih]
      | false => rw [if_neg (by decide), ih]
theorem crH_loop (hL : Lay S A ex) {nu : Nat → Nat} (h : Nums A I ex nu) {l : Nat} (hl : l < 8) (hcq : ∀ q, q < 8 → (cq q = true ↔ 0 < nu q ∧ I (A (300 + 40 * q)) 10 = nI l ∧ I (A (300 + 40 * q)) 14 = 0)) : ∀ (g i n : Nat), i + g = 8 → g < n → f_H_crash_b13 S J n (crG A (fun i => 300 + 40 * i) (fun _ => 14) cq I i) (A 0) (nI l) (nI (cmN cq i)) (nI i) = some (0, nI (cmN cq 8), crG A (fun i => 300 + 40 * i) (fun _ => 14) cq I 8) := by
  intro g
  induction g with
  | zero =>
    intro i n hi hn
    obtain ⟨n, rfl⟩ : ∃ k, n = k + 1 := ⟨n - 1, by omega⟩
    have : i = 8 := by omega
    subst this
    simp (disch := omega) only [f_H_crash_b13, ↓bnd_in, ↓Option.bind_some, ↓bd2_some, ↓bd3_some, ↓bd4_some, ↓ew_mr hL, ↓ew_00 hL, ↓ew_01 hL, ↓ew_02 hL, ↓ew_1r hL, ↓ew_lr hL, ↓ew_30 hL, ↓ew_31 hL, ↓ew_4r hL, ↓ew_ltr hL, ↓gd_m hL, ↓gd_0 hL, gd_t, Option.bind_some, bd2_some, bd3_some, bd4_some, gm_some, gm_none, ↓reduceIte, or_self, or_false, false_or, or_true, true_or, and_self, and_true, true_and, and_false, false_and, not_false_eq_true, not_true_eq_false, Nat.reduceAdd, Nat.reduceMul, Int32.reduceLT, Int32.reduceLE, eq_self, ev_lit, ev_10, Int32.reduceToNatClampNeg, Nat.reduceLeDiff, Nat.reduceEqDiff, Nat.reduceLT, nI_clamp, ev_ng, ev_L1, ev_L2, ev_L3, ev_K1, ev_K2, ev_K3, ev_K4, ev_K5, ev_a1, ev_m1, ev_s1, ev_s2, nI_add, ev_nle, ev_le, ev_lt, ev_nlt, ev_ne, ev_eq, ev_uI hL, ev_uJ hL, ev_m hL, ev_mr hL, ev_mt hL, ev_mz hL, ev_mj hL, ev_n8 hL, ev_n64 hL, ev_n229 hL, ev_n254 hL, ev_n257 hL, ev_n259 hL, ev_n260 hL, ev_n261 hL, ev_0 hL, ev_00 hL, ev_01 hL, ev_02 hL, ev_1 hL, ev_1n hL, ev_1r hL, ev_lg hL, ev_lr hL, ev_sr hL, ev_2 hL, ev_2n hL, ev_3 hL, ev_30 hL, ev_31 hL, ev_4 hL, ev_4n hL, ev_5 hL, ev_5n hL, ev_4r hL, ev_lt1 hL, ev_ltr hL, ev_lnt hL, ev_lnn hL, ev_7 hL, ev_7n hL, ev_uE, ev_uK]
  | succ g ih =>
    intro i n hi hn
    obtain ⟨n, rfl⟩ : ∃ k, n = k + 1 := ⟨n - 1, by omega⟩
    have ihn := ih (i + 1) n (by omega) (by omega)
    have hc := hcq i (by omega)
    have e10 : crG A (fun i => 300 + 40 * i) (fun _ => 14) cq I i (A (300 + 40 * i)) 10 = I (A (300 + 40 * i)) 10 := crG_ne hL (fun j hj => Or.inr (by decide))
    have e14 : crG A (fun i => 300 + 40 * i) (fun _ => 14) cq I i (A (300 + 40 * i)) 14 = I (A (300 + 40 * i)) 14 := crG_ne hL (fun j hj => Or.inl (by omega))
    have h' : Nums A (crG A (fun i => 300 + 40 * i) (fun _ => 14) cq I i) ex nu := ⟨fun q hq => by
      obtain ⟨a1, a2, a3, a4⟩ := h.1 q hq
      refine ⟨a1, ?_, fun he => ?_, a4⟩
      · rw [crG_ne hL (fun j hj => Or.inl (by omega))]; exact a2
      · rw [crG_ne hL (fun j hj => Or.inr (by decide))]; exact a3 he, h.2⟩
    have hno : cq i = false → crG A (fun i => 300 + 40 * i) (fun _ => 14) cq I (i + 1) = crG A (fun i => 300 + 40 * i) (fun _ => 14) cq I i ∧ cmN cq (i + 1) = cmN cq i := fun e => by
      constructor
      · show (if cq i then _ else _) = _
        rw [e]; rfl
      · show cmN cq i + (if cq i then 1 else 0) = _
        rw [e]; rfl
    cases he : ex i with
    | false =>
      have hqn := hL.qn (by omega) he
      have hcf : cq i = false := by
        cases e : cq i with
        | false => rfl
        | true =>
          have := (hc.mp e).1
          have := (h.1 i (by omega)).2.2.2 he
          omega
      rw [(hno hcf).1, (hno hcf).2] at ihn
      simp (disch := omega) only [f_H_crash_b13, hqn, f_H_crash_b66, ↓bnd_in, ↓Option.bind_some, ↓bd2_some, ↓bd3_some, ↓bd4_some, ↓ew_mr hL, ↓ew_00 hL, ↓ew_01 hL, ↓ew_02 hL, ↓ew_1r hL, ↓ew_lr hL, ↓ew_30 hL, ↓ew_31 hL, ↓ew_4r hL, ↓ew_ltr hL, ↓gd_m hL, ↓gd_0 hL, gd_t, Option.bind_some, bd2_some, bd3_some, bd4_some, gm_some, gm_none, ↓reduceIte, or_self, or_false, false_or, or_true, true_or, and_self, and_true, true_and, and_false, false_and, not_false_eq_true, not_true_eq_false, Nat.reduceAdd, Nat.reduceMul, Int32.reduceLT, Int32.reduceLE, eq_self, ev_lit, ev_10, Int32.reduceToNatClampNeg, Nat.reduceLeDiff, Nat.reduceEqDiff, Nat.reduceLT, nI_clamp, ev_ng, ev_L1, ev_L2, ev_L3, ev_K1, ev_K2, ev_K3, ev_K4, ev_K5, ev_a1, ev_m1, ev_s1, ev_s2, nI_add, ev_nle, ev_le, ev_lt, ev_nlt, ev_ne, ev_eq, ev_uI hL, ev_uJ hL, ev_m hL, ev_mr hL, ev_mt hL, ev_mz hL, ev_mj hL, ev_n8 hL, ev_n64 hL, ev_n229 hL, ev_n254 hL, ev_n257 hL, ev_n259 hL, ev_n260 hL, ev_n261 hL, ev_0 hL, ev_00 hL, ev_01 hL, ev_02 hL, ev_1 hL, ev_1n hL, ev_1r hL, ev_lg hL, ev_lr hL, ev_sr hL, ev_2 hL, ev_2n hL, ev_3 hL, ev_30 hL, ev_31 hL, ev_4 hL, ev_4n hL, ev_5 hL, ev_5n hL, ev_4r hL, ev_lt1 hL, ev_ltr hL, ev_lnt hL, ev_lnn hL, ev_7 hL, ev_7n hL, ev_uE, ev_uK]
      exact ihn
    | true =>
      obtain ⟨hr, hQ⟩ := hL.qy (by omega) he
      have t0 := hQ.1.1
      have hth := isThere_eq (J := J) hL h' (q := i) (by omega) he
      by_cases e : nu i = 0
      · have hcf : cq i = false := by
          cases e2 : cq i with
          | false => rfl
          | true =>
            have := (hc.mp e2).1
            omega
        rw [(hno hcf).1, (hno hcf).2] at ihn
        rw [if_pos e] at hth
        simp (disch := omega) only [f_H_crash_b13, hr, t0, ↓ob_h hth, f_H_crash_b66, ↓bnd_in, ↓Option.bind_some, ↓bd2_some, ↓bd3_some, ↓bd4_some, ↓ew_mr hL, ↓ew_00 hL, ↓ew_01 hL, ↓ew_02 hL, ↓ew_1r hL, ↓ew_lr hL, ↓ew_30 hL, ↓ew_31 hL, ↓ew_4r hL, ↓ew_ltr hL, ↓gd_m hL, ↓gd_0 hL, gd_t, Option.bind_some, bd2_some, bd3_some, bd4_some, gm_some, gm_none, ↓reduceIte, or_self, or_false, false_or, or_true, true_or, and_self, and_true, true_and, and_false, false_and, not_false_eq_true, not_true_eq_false, Nat.reduceAdd, Nat.reduceMul, Int32.reduceLT, Int32.reduceLE, eq_self, ev_lit, ev_10, Int32.reduceToNatClampNeg, Nat.reduceLeDiff, Nat.reduceEqDiff, Nat.reduceLT, nI_clamp, ev_ng, ev_L1, ev_L2, ev_L3, ev_K1, ev_K2, ev_K3, ev_K4, ev_K5, ev_a1, ev_m1, ev_s1, ev_s2, nI_add, ev_nle, ev_le, ev_lt, ev_nlt, ev_ne, ev_eq, ev_uI hL, ev_uJ hL, ev_m hL, ev_mr hL, ev_mt hL, ev_mz hL, ev_mj hL, ev_n8 hL, ev_n64 hL, ev_n229 hL, ev_n254 hL, ev_n257 hL, ev_n259 hL, ev_n260 hL, ev_n261 hL, ev_0 hL, ev_00 hL, ev_01 hL, ev_02 hL, ev_1 hL, ev_1n hL, ev_1r hL, ev_lg hL, ev_lr hL, ev_sr hL, ev_2 hL, ev_2n hL, ev_3 hL, ev_30 hL, ev_31 hL, ev_4 hL, ev_4n hL, ev_5 hL, ev_5n hL, ev_4r hL, ev_lt1 hL, ev_ltr hL, ev_lnt hL, ev_lnn hL, ev_7 hL, ev_7n hL, ev_uE, ev_uK]
        exact ihn
      · rw [if_neg e] at hth
        by_cases e1 : I (A (300 + 40 * i)) 10 = nI l
        · by_cases e2 : I (A (300 + 40 * i)) 14 = 0
          · have hct : cq i = true := hc.mpr ⟨by omega, e1, e2⟩
            rw [show crG A (fun i => 300 + 40 * i) (fun _ => 14) cq I (i + 1) = upI (crG A (fun i => 300 + 40 * i) (fun _ => 14) cq I i) (A (300 + 40 * i)) 14 3 by show (if cq i then _ else _) = _; rw [hct]; rfl, show cmN cq (i + 1) = cmN cq i + 1 by show cmN cq i + (if cq i then 1 else 0) = _; rw [hct]; rfl] at ihn
            simp (disch := omega) only [f_H_crash_b13, hr, t0, ↓ob_h hth, e10, e14, e1, e2, f_H_crash_b66, ↓bnd_in, ↓Option.bind_some, ↓bd2_some, ↓bd3_some, ↓bd4_some, ↓ew_mr hL, ↓ew_00 hL, ↓ew_01 hL, ↓ew_02 hL, ↓ew_1r hL, ↓ew_lr hL, ↓ew_30 hL, ↓ew_31 hL, ↓ew_4r hL, ↓ew_ltr hL, ↓gd_m hL, ↓gd_0 hL, gd_t, Option.bind_some, bd2_some, bd3_some, bd4_some, gm_some, gm_none, ↓reduceIte, or_self, or_false, false_or, or_true, true_or, and_self, and_true, true_and, and_false, false_and, not_false_eq_true, not_true_eq_false, Nat.reduceAdd, Nat.reduceMul, Int32.reduceLT, Int32.reduceLE, eq_self, ev_lit, ev_10, Int32.reduceToNatClampNeg, Nat.reduceLeDiff, Nat.reduceEqDiff, Nat.reduceLT, nI_clamp, ev_ng, ev_L1, ev_L2, ev_L3, ev_K1, ev_K2, ev_K3, ev_K4, ev_K5, ev_a1, ev_m1, ev_s1, ev_s2, nI_add, ev_nle, ev_le, ev_lt, ev_nlt, ev_ne, ev_eq, ev_uI hL, ev_uJ hL, ev_m hL, ev_mr hL, ev_mt hL, ev_mz hL, ev_mj hL, ev_n8 hL, ev_n64 hL, ev_n229 hL, ev_n254 hL, ev_n257 hL, ev_n259 hL, ev_n260 hL, ev_n261 hL, ev_0 hL, ev_00 hL, ev_01 hL, ev_02 hL, ev_1 hL, ev_1n hL, ev_1r hL, ev_lg hL, ev_lr hL, ev_sr hL, ev_2 hL, ev_2n hL, ev_3 hL, ev_30 hL, ev_31 hL, ev_4 hL, ev_4n hL, ev_5 hL, ev_5n hL, ev_4r hL, ev_lt1 hL, ev_ltr hL, ev_lnt hL, ev_lnn hL, ev_7 hL, ev_7n hL, ev_uE, ev_uK]
            exact ihn
          · have hcf : cq i = false := by
              cases e3 : cq i with
              | false => rfl
              | true => exact absurd (hc.mp e3).2.2 e2
            rw [(hno hcf).1, (hno hcf).2] at ihn
            simp (disch := omega) only [f_H_crash_b13, hr, t0, ↓ob_h hth, e10, e14, e1, e2, f_H_crash_b66, ↓bnd_in, ↓Option.bind_some, ↓bd2_some, ↓bd3_some, ↓bd4_some, ↓ew_mr hL, ↓ew_00 hL, ↓ew_01 hL, ↓ew_02 hL, ↓ew_1r hL, ↓ew_lr hL, ↓ew_30 hL, ↓ew_31 hL, ↓ew_4r hL, ↓ew_ltr hL, ↓gd_m hL, ↓gd_0 hL, gd_t, Option.bind_some, bd2_some, bd3_some, bd4_some, gm_some, gm_none, ↓reduceIte, or_self, or_false, false_or, or_true, true_or, and_self, and_true, true_and, and_false, false_and, not_false_eq_true, not_true_eq_false, Nat.reduceAdd, Nat.reduceMul, Int32.reduceLT, Int32.reduceLE, eq_self, ev_lit, ev_10, Int32.reduceToNatClampNeg, Nat.reduceLeDiff, Nat.reduceEqDiff, Nat.reduceLT, nI_clamp, ev_ng, ev_L1, ev_L2, ev_L3, ev_K1, ev_K2, ev_K3, ev_K4, ev_K5, ev_a1, ev_m1, ev_s1, ev_s2, nI_add, ev_nle, ev_le, ev_lt, ev_nlt, ev_ne, ev_eq, ev_uI hL, ev_uJ hL, ev_m hL, ev_mr hL, ev_mt hL, ev_mz hL, ev_mj hL, ev_n8 hL, ev_n64 hL, ev_n229 hL, ev_n254 hL, ev_n257 hL, ev_n259 hL, ev_n260 hL, ev_n261 hL, ev_0 hL, ev_00 hL, ev_01 hL, ev_02 hL, ev_1 hL, ev_1n hL, ev_1r hL, ev_lg hL, ev_lr hL, ev_sr hL, ev_2 hL, ev_2n hL, ev_3 hL, ev_30 hL, ev_31 hL, ev_4 hL, ev_4n hL, ev_5 hL, ev_5n hL, ev_4r hL, ev_lt1 hL, ev_ltr hL, ev_lnt hL, ev_lnn hL, ev_7 hL, ev_7n hL, ev_uE, ev_uK]
            exact ihn
        · have hcf : cq i = false := by
            cases e3 : cq i with
            | false => rfl
            | true => exact absurd (hc.mp e3).2.1 e1
          rw [(hno hcf).1, (hno hcf).2] at ihn
          simp (disch := omega) only [f_H_crash_b13, hr, t0, ↓ob_h hth, e10, e1, f_H_crash_b66, ↓bnd_in, ↓Option.bind_some, ↓bd2_some, ↓bd3_some, ↓bd4_some, ↓ew_mr hL, ↓ew_00 hL, ↓ew_01 hL, ↓ew_02 hL, ↓ew_1r hL, ↓ew_lr hL, ↓ew_30 hL, ↓ew_31 hL, ↓ew_4r hL, ↓ew_ltr hL, ↓gd_m hL, ↓gd_0 hL, gd_t, Option.bind_some, bd2_some, bd3_some, bd4_some, gm_some, gm_none, ↓reduceIte, or_self, or_false, false_or, or_true, true_or, and_self, and_true, true_and, and_false, false_and, not_false_eq_true, not_true_eq_false, Nat.reduceAdd, Nat.reduceMul, Int32.reduceLT, Int32.reduceLE, eq_self, ev_lit, ev_10, Int32.reduceToNatClampNeg, Nat.reduceLeDiff, Nat.reduceEqDiff, Nat.reduceLT, nI_clamp, ev_ng, ev_L1, ev_L2, ev_L3, ev_K1, ev_K2, ev_K3, ev_K4, ev_K5, ev_a1, ev_m1, ev_s1, ev_s2, nI_add, ev_nle, ev_le, ev_lt, ev_nlt, ev_ne, ev_eq, ev_uI hL, ev_uJ hL, ev_m hL, ev_mr hL, ev_mt hL, ev_mz hL, ev_mj hL, ev_n8 hL, ev_n64 hL, ev_n229 hL, ev_n254 hL, ev_n257 hL, ev_n259 hL, ev_n260 hL, ev_n261 hL, ev_0 hL, ev_00 hL, ev_01 hL, ev_02 hL, ev_1 hL, ev_1n hL, ev_1r hL, ev_lg hL, ev_lr hL, ev_sr hL, ev_2 hL, ev_2n hL, ev_3 hL, ev_30 hL, ev_31 hL, ev_4 hL, ev_4n hL, ev_5 hL, ev_5n hL, ev_4r hL, ev_lt1 hL, ev_ltr hL, ev_lnt hL, ev_lnn hL, ev_7 hL, ev_7n hL, ev_uE, ev_uK]
          exact ihn
theorem crM_loop (hL : Lay S A ex) {nu : Nat → Nat} (h : Nums A I ex nu) {l : Nat} (hl : l < 8) (hcq : ∀ q, q < 8 → (cq q = true ↔ 0 < nu q ∧ I (A 235) q = nI l ∧ I (A 238) q = 0)) : ∀ (g i n : Nat), i + g = 8 → g < n → f_M_crash_b36 S J n (crG A (fun _ => 238) (fun i => i) cq I i) (A 6) (nI l) (nI (cmN cq i)) (nI i) = some (nI (cmN cq 8), crG A (fun _ => 238) (fun i => i) cq I 8) := by
  intro g
  induction g with
  | zero =>
    intro i n hi hn
    obtain ⟨n, rfl⟩ : ∃ k, n = k + 1 := ⟨n - 1, by omega⟩
    have : i = 8 := by omega
    subst this
    simp (disch := omega) only [f_M_crash_b36, ↓bnd_in, ↓Option.bind_some, ↓bd2_some, ↓bd3_some, ↓bd4_some, ↓ew_mr hL, ↓ew_00 hL, ↓ew_01 hL, ↓ew_02 hL, ↓ew_1r hL, ↓ew_lr hL, ↓ew_30 hL, ↓ew_31 hL, ↓ew_4r hL, ↓ew_ltr hL, ↓gd_m hL, ↓gd_0 hL, gd_t, Option.bind_some, bd2_some, bd3_some, bd4_some, gm_some, gm_none, ↓reduceIte, or_self, or_false, false_or, or_true, true_or, and_self, and_true, true_and, and_false, false_and, not_false_eq_true, not_true_eq_false, Nat.reduceAdd, Nat.reduceMul, Int32.reduceLT, Int32.reduceLE, eq_self, ev_lit, ev_10, Int32.reduceToNatClampNeg, Nat.reduceLeDiff, Nat.reduceEqDiff, Nat.reduceLT, nI_clamp, ev_ng, ev_L1, ev_L2, ev_L3, ev_K1, ev_K2, ev_K3, ev_K4, ev_K5, ev_a1, ev_m1, ev_s1, ev_s2, nI_add, ev_nle, ev_le, ev_lt, ev_nlt, ev_ne, ev_eq, ev_uI hL, ev_uJ hL, ev_m hL, ev_mr hL, ev_mt hL, ev_mz hL, ev_mj hL, ev_n8 hL, ev_n64 hL, ev_n229 hL, ev_n254 hL, ev_n257 hL, ev_n259 hL, ev_n260 hL, ev_n261 hL, ev_0 hL, ev_00 hL, ev_01 hL, ev_02 hL, ev_1 hL, ev_1n hL, ev_1r hL, ev_lg hL, ev_lr hL, ev_sr hL, ev_2 hL, ev_2n hL, ev_3 hL, ev_30 hL, ev_31 hL, ev_4 hL, ev_4n hL, ev_5 hL, ev_5n hL, ev_4r hL, ev_lt1 hL, ev_ltr hL, ev_lnt hL, ev_lnn hL, ev_7 hL, ev_7n hL, ev_uE, ev_uK]
  | succ g ih =>
    intro i n hi hn
    obtain ⟨n, rfl⟩ : ∃ k, n = k + 1 := ⟨n - 1, by omega⟩
    have ihn := ih (i + 1) n (by omega) (by omega)
    have hc := hcq i (by omega)
    have e231 : crG A (fun _ => 238) (fun i => i) cq I i (A 231) i = nI (nu i) := (crG_ne hL (fun j hj => Or.inl (by decide))).trans (h.1 i (by omega)).2.1
    have e235 : crG A (fun _ => 238) (fun i => i) cq I i (A 235) i = I (A 235) i := crG_ne hL (fun j hj => Or.inl (by decide))
    have e238 : crG A (fun _ => 238) (fun i => i) cq I i (A 238) i = I (A 238) i := crG_ne hL (fun j hj => Or.inr (by omega))
    have hb := (h.1 i (by omega)).1
    have hno : cq i = false → crG A (fun _ => 238) (fun i => i) cq I (i + 1) = crG A (fun _ => 238) (fun i => i) cq I i ∧ cmN cq (i + 1) = cmN cq i := fun e => by
      constructor
      · show (if cq i then _ else _) = _
        rw [e]; rfl
      · show cmN cq i + (if cq i then 1 else 0) = _
        rw [e]; rfl
    by_cases e : nu i = 0
    · have hcf : cq i = false := by
        cases e2 : cq i with
        | false => rfl
        | true =>
          have := (hc.mp e2).1
          omega
      rw [(hno hcf).1, (hno hcf).2] at ihn
      simp (disch := omega) only [f_M_crash_b36, e231, f_M_crash_b80, ↓bnd_in, ↓Option.bind_some, ↓bd2_some, ↓bd3_some, ↓bd4_some, ↓ew_mr hL, ↓ew_00 hL, ↓ew_01 hL, ↓ew_02 hL, ↓ew_1r hL, ↓ew_lr hL, ↓ew_30 hL, ↓ew_31 hL, ↓ew_4r hL, ↓ew_ltr hL, ↓gd_m hL, ↓gd_0 hL, gd_t, Option.bind_some, bd2_some, bd3_some, bd4_some, gm_some, gm_none, ↓reduceIte, or_self, or_false, false_or, or_true, true_or, and_self, and_true, true_and, and_false, false_and, not_false_eq_true, not_true_eq_false, Nat.reduceAdd, Nat.reduceMul, Int32.reduceLT, Int32.reduceLE, eq_self, ev_lit, ev_10, Int32.reduceToNatClampNeg, Nat.reduceLeDiff, Nat.reduceEqDiff, Nat.reduceLT, nI_clamp, ev_ng, ev_L1, ev_L2, ev_L3, ev_K1, ev_K2, ev_K3, ev_K4, ev_K5, ev_a1, ev_m1, ev_s1, ev_s2, nI_add, ev_nle, ev_le, ev_lt, ev_nlt, ev_ne, ev_eq, ev_uI hL, ev_uJ hL, ev_m hL, ev_mr hL, ev_mt hL, ev_mz hL, ev_mj hL, ev_n8 hL, ev_n64 hL, ev_n229 hL, ev_n254 hL, ev_n257 hL, ev_n259 hL, ev_n260 hL, ev_n261 hL, ev_0 hL, ev_00 hL, ev_01 hL, ev_02 hL, ev_1 hL, ev_1n hL, ev_1r hL, ev_lg hL, ev_lr hL, ev_sr hL, ev_2 hL, ev_2n hL, ev_3 hL, ev_30 hL, ev_31 hL, ev_4 hL, ev_4n hL, ev_5 hL, ev_5n hL, ev_4r hL, ev_lt1 hL, ev_ltr hL, ev_lnt hL, ev_lnn hL, ev_7 hL, ev_7n hL, ev_uE, ev_uK]
      exact ihn
    · by_cases e1 : I (A 235) i = nI l
      · by_cases e2 : I (A 238) i = 0
        · have hct : cq i = true := hc.mpr ⟨by omega, e1, e2⟩
          rw [show crG A (fun _ => 238) (fun i => i) cq I (i + 1) = upI (crG A (fun _ => 238) (fun i => i) cq I i) (A 238) i 3 by show (if cq i then _ else _) = _; rw [hct]; rfl, show cmN cq (i + 1) = cmN cq i + 1 by show cmN cq i + (if cq i then 1 else 0) = _; rw [hct]; rfl] at ihn
          simp (disch := omega) only [f_M_crash_b36, e231, e235, e1, e238, e2, f_M_crash_b80, ↓bnd_in, ↓Option.bind_some, ↓bd2_some, ↓bd3_some, ↓bd4_some, ↓ew_mr hL, ↓ew_00 hL, ↓ew_01 hL, ↓ew_02 hL, ↓ew_1r hL, ↓ew_lr hL, ↓ew_30 hL, ↓ew_31 hL, ↓ew_4r hL, ↓ew_ltr hL, ↓gd_m hL, ↓gd_0 hL, gd_t, Option.bind_some, bd2_some, bd3_some, bd4_some, gm_some, gm_none, ↓reduceIte, or_self, or_false, false_or, or_true, true_or, and_self, and_true, true_and, and_false, false_and, not_false_eq_true, not_true_eq_false, Nat.reduceAdd, Nat.reduceMul, Int32.reduceLT, Int32.reduceLE, eq_self, ev_lit, ev_10, Int32.reduceToNatClampNeg, Nat.reduceLeDiff, Nat.reduceEqDiff, Nat.reduceLT, nI_clamp, ev_ng, ev_L1, ev_L2, ev_L3, ev_K1, ev_K2, ev_K3, ev_K4, ev_K5, ev_a1, ev_m1, ev_s1, ev_s2, nI_add, ev_nle, ev_le, ev_lt, ev_nlt, ev_ne, ev_eq, ev_uI hL, ev_uJ hL, ev_m hL, ev_mr hL, ev_mt hL, ev_mz hL, ev_mj hL, ev_n8 hL, ev_n64 hL, ev_n229 hL, ev_n254 hL, ev_n257 hL, ev_n259 hL, ev_n260 hL, ev_n261 hL, ev_0 hL, ev_00 hL, ev_01 hL, ev_02 hL, ev_1 hL, ev_1n hL, ev_1r hL, ev_lg hL, ev_lr hL, ev_sr hL, ev_2 hL, ev_2n hL, ev_3 hL, ev_30 hL, ev_31 hL, ev_4 hL, ev_4n hL, ev_5 hL, ev_5n hL, ev_4r hL, ev_lt1 hL, ev_ltr hL, ev_lnt hL, ev_lnn hL, ev_7 hL, ev_7n hL, ev_uE, ev_uK]
          exact ihn
        · have hcf : cq i = false := by
            cases e3 : cq i with
            | false => rfl
            | true => exact absurd (hc.mp e3).2.2 e2
          rw [(hno hcf).1, (hno hcf).2] at ihn
          simp (disch := omega) only [f_M_crash_b36, e231, e235, e1, e238, e2, f_M_crash_b80, ↓bnd_in, ↓Option.bind_some, ↓bd2_some, ↓bd3_some, ↓bd4_some, ↓ew_mr hL, ↓ew_00 hL, ↓ew_01 hL, ↓ew_02 hL, ↓ew_1r hL, ↓ew_lr hL, ↓ew_30 hL, ↓ew_31 hL, ↓ew_4r hL, ↓ew_ltr hL, ↓gd_m hL, ↓gd_0 hL, gd_t, Option.bind_some, bd2_some, bd3_some, bd4_some, gm_some, gm_none, ↓reduceIte, or_self, or_false, false_or, or_true, true_or, and_self, and_true, true_and, and_false, false_and, not_false_eq_true, not_true_eq_false, Nat.reduceAdd, Nat.reduceMul, Int32.reduceLT, Int32.reduceLE, eq_self, ev_lit, ev_10, Int32.reduceToNatClampNeg, Nat.reduceLeDiff, Nat.reduceEqDiff, Nat.reduceLT, nI_clamp, ev_ng, ev_L1, ev_L2, ev_L3, ev_K1, ev_K2, ev_K3, ev_K4, ev_K5, ev_a1, ev_m1, ev_s1, ev_s2, nI_add, ev_nle, ev_le, ev_lt, ev_nlt, ev_ne, ev_eq, ev_uI hL, ev_uJ hL, ev_m hL, ev_mr hL, ev_mt hL, ev_mz hL, ev_mj hL, ev_n8 hL, ev_n64 hL, ev_n229 hL, ev_n254 hL, ev_n257 hL, ev_n259 hL, ev_n260 hL, ev_n261 hL, ev_0 hL, ev_00 hL, ev_01 hL, ev_02 hL, ev_1 hL, ev_1n hL, ev_1r hL, ev_lg hL, ev_lr hL, ev_sr hL, ev_2 hL, ev_2n hL, ev_3 hL, ev_30 hL, ev_31 hL, ev_4 hL, ev_4n hL, ev_5 hL, ev_5n hL, ev_4r hL, ev_lt1 hL, ev_ltr hL, ev_lnt hL, ev_lnn hL, ev_7 hL, ev_7n hL, ev_uE, ev_uK]
          exact ihn
      · have hcf : cq i = false := by
          cases e3 : cq i with
          | false => rfl
          | true => exact absurd (hc.mp e3).2.1 e1
        rw [(hno hcf).1, (hno hcf).2] at ihn
        simp (disch := omega) only [f_M_crash_b36, e231, e235, e1, f_M_crash_b80, ↓bnd_in, ↓Option.bind_some, ↓bd2_some, ↓bd3_some, ↓bd4_some, ↓ew_mr hL, ↓ew_00 hL, ↓ew_01 hL, ↓ew_02 hL, ↓ew_1r hL, ↓ew_lr hL, ↓ew_30 hL, ↓ew_31 hL, ↓ew_4r hL, ↓ew_ltr hL, ↓gd_m hL, ↓gd_0 hL, gd_t, Option.bind_some, bd2_some, bd3_some, bd4_some, gm_some, gm_none, ↓reduceIte, or_self, or_false, false_or, or_true, true_or, and_self, and_true, true_and, and_false, false_and, not_false_eq_true, not_true_eq_false, Nat.reduceAdd, Nat.reduceMul, Int32.reduceLT, Int32.reduceLE, eq_self, ev_lit, ev_10, Int32.reduceToNatClampNeg, Nat.reduceLeDiff, Nat.reduceEqDiff, Nat.reduceLT, nI_clamp, ev_ng, ev_L1, ev_L2, ev_L3, ev_K1, ev_K2, ev_K3, ev_K4, ev_K5, ev_a1, ev_m1, ev_s1, ev_s2, nI_add, ev_nle, ev_le, ev_lt, ev_nlt, ev_ne, ev_eq, ev_uI hL, ev_uJ hL, ev_m hL, ev_mr hL, ev_mt hL, ev_mz hL, ev_mj hL, ev_n8 hL, ev_n64 hL, ev_n229 hL, ev_n254 hL, ev_n257 hL, ev_n259 hL, ev_n260 hL, ev_n261 hL, ev_0 hL, ev_00 hL, ev_01 hL, ev_02 hL, ev_1 hL, ev_1n hL, ev_1r hL, ev_lg hL, ev_lr hL, ev_sr hL, ev_2 hL, ev_2n hL, ev_3 hL, ev_30 hL, ev_31 hL, ev_4 hL, ev_4n hL, ev_5 hL, ev_5n hL, ev_4r hL, ev_lt1 hL, ev_ltr hL, ev_lnt hL, ev_lnn hL, ev_7 hL, ev_7n hL, ev_uE, ev_uK]
        exact ihn
theorem op_crash (hL : Lay S A ex) (hr : Rel (cI A I) (cJ A J) ex b) (i : Int32) : ∃ k I1 J1 r I2, f_L_crash S I J (A 0) i (A 7) = some (k, I1, J1) ∧ f_M_crash S I1 J1 (A 6) i = some (r, I2) ∧ I2 (A 6) 0 = k ∧ (k = 0 → J1 (A 7) 0 = r.toInt64) ∧ Rel (cI A I2) (cJ A J1) ex b := by
  rcases H_needLogger (S := S) (I := I) (J := J) i with ⟨l, hl, rfl, -⟩ | ⟨ho, hn⟩
  · have hr0 := hr
    obtain ⟨sz, c, pi, am, fz, cm, gc, nu, N, hN, h1, h2, h3, h4⟩ := hr0
    have hnu := h3.nums
    obtain ⟨cq, hcq⟩ : ∃ cq : Nat → Bool, ∀ q, cq q = true ↔ 0 < nu q ∧ I (A 235) q = nI l ∧ I (A 238) q = 0 := ⟨fun q => decide (0 < nu q ∧ I (A 235) q = nI l ∧ I (A 238) q = 0), fun q => decide_eq_true_iff⟩
    have hf : ∀ q, q < 8 → ex q = true → I (A (300 + 40 * q)) 10 = I (A 235) q ∧ I (A (300 + 40 * q)) 14 = I (A 238) q := fun q hq he => by
      have hQ := ((h3.2.2.2.2.2 q hq).1 he).1
      exact ⟨hQ.2.2.2.2.1, hQ.2.2.2.2.2.2.2.1⟩
    -- the class
    have n1 : Nums A (upI I (A (8 + l)) 1 0) ex nu := ⟨fun q hq => by
      obtain ⟨a1, a2, a3, a4⟩ := hnu.1 q hq
      exact ⟨a1, by rw [ev_uI hL (by omega)]; exact a2, fun he => by rw [ev_uI hL (by omega)]; exact a3 he, a4⟩, hnu.2⟩
    have c1 := crH_loop (J := J) (cq := cq) hL n1 hl (fun q hq => by
      rw [hcq q, ev_uI hL (by omega), ev_uI hL (by omega)]
      constructor
      · intro hh
        have he := hnu.mk hq hh.1
        rw [(hf q hq he).1, (hf q hq he).2]; exact hh
      · intro hh
        have he := hnu.mk hq hh.1
        rw [(hf q hq he).1, (hf q hq he).2] at hh; exact hh) 8 0 gFuel (by omega) (by unfold gFuel; omega)
    obtain ⟨I1, hI1⟩ : ∃ I1 : gMI, I1 = crG A (fun i => 300 + 40 * i) (fun _ => 14) cq (upI I (A (8 + l)) 1 0) 8 := ⟨_, rfl⟩
    rw [← hI1] at c1
    have c1 : f_H_crash_b13 S J gFuel (upI I (A (8 + l)) 1 0) (A 0) (nI l) 0 0 = some (0, nI (cmN cq 8), I1) := c1
    have k1 : ∀ d k, (∀ q, q < 8 → d ≠ 300 + 40 * q ∨ k ≠ 14) → I1 (A d) k = upI I (A (8 + l)) 1 0 (A d) k := fun d k hd => by
      rw [hI1]; exact crG_ne hL hd
    have k2 : ∀ q, q < 8 → I1 (A (300 + 40 * q)) 14 = if cq q then 3 else I (A (300 + 40 * q)) 14 := fun q hq => by
      have := crG_at hL (cq := cq) (I := upI I (A (8 + l)) 1 0) (cd := fun i => 300 + 40 * i) (sl := fun _ => 14) (q := q) (n := 8) hq (fun i hi hne => Or.inl (by omega))
      rw [hI1]
      refine Eq.trans this ?_
      rw [ev_uI hL (by omega)]
    -- the reference
    have n2 : Nums A (upI (upI I1 (A 6) 0 0) (A 227) l 1) ex nu := ⟨fun q hq => by
      obtain ⟨a1, a2, a3, a4⟩ := hnu.1 q hq
      refine ⟨a1, ?_, fun he => ?_, a4⟩
      · rw [ev_uI hL (by omega), ev_uI hL (by omega), k1 _ _ (fun q hq => by omega), ev_uI hL (by omega)]; exact a2
      · rw [ev_uI hL (by omega), ev_uI hL (by omega), k1 _ _ (fun q hq => by omega), ev_uI hL (by omega)]; exact a3 he, hnu.2⟩
    obtain ⟨J1, hJ1⟩ : ∃ J1 : gMJ, J1 = upJ J (A 7) 0 (nI (cmN cq 8)).toInt64 := ⟨_, rfl⟩
    have c2 := crM_loop (J := J1) (cq := cq) hL n2 hl (fun q hq => by
      rw [hcq q, ev_uI hL (by omega), ev_uI hL (by omega), k1 _ _ (fun q hq => by omega), ev_uI hL (by omega), ev_uI hL (by omega), ev_uI hL (by omega), k1 _ _ (fun q hq => by omega), ev_uI hL (by omega)]) 8 0 gFuel (by omega) (by unfold gFuel; omega)
    obtain ⟨I2, hI2⟩ : ∃ I2 : gMI, I2 = crG A (fun _ => 238) (fun i => i) cq (upI (upI I1 (A 6) 0 0) (A 227) l 1) 8 := ⟨_, rfl⟩
    rw [← hI2] at c2
    have c2 : f_M_crash_b36 S J1 gFuel (upI (upI I1 (A 6) 0 0) (A 227) l 1) (A 6) (nI l) 0 0 = some (nI (cmN cq 8), I2) := c2
    have k3 : ∀ d k, (d ≠ 238 ∨ 8 ≤ k) → I2 (A d) k = upI (upI I1 (A 6) 0 0) (A 227) l 1 (A d) k := fun d k hd => by
      rw [hI2]; exact crG_ne hL (fun i hi => by omega)
    have k4 : ∀ q, q < 8 → I2 (A 238) q = if cq q then 3 else I (A 238) q := fun q hq => by
      have := crG_at hL (cq := cq) (I := upI (upI I1 (A 6) 0 0) (A 227) l 1) (cd := fun _ => 238) (sl := fun i => i) (q := q) (n := 8) hq (fun i hi hne => Or.inr (by omega))
      rw [hI2]
      refine Eq.trans this ?_
      rw [ev_uI hL (by omega), ev_uI hL (by omega), k1 _ _ (fun q hq => by omega), ev_uI hL (by omega)]
    refine ⟨0, I1, J1, nI (cmN cq 8), I2, ?_, ?_, ?_, fun _ => by rw [hJ1, ev_uK], ?_⟩
    · rw [hJ1]
      simp (disch := omega) only [f_L_crash, f_H_crash, H_loggerOf_in hL hl, ↓b2_h (H_loggerOf_in hL hl), c1, ↓bnd_in, ↓Option.bind_some, ↓bd2_some, ↓bd3_some, ↓bd4_some, ↓ew_mr hL, ↓ew_00 hL, ↓ew_01 hL, ↓ew_02 hL, ↓ew_1r hL, ↓ew_lr hL, ↓ew_30 hL, ↓ew_31 hL, ↓ew_4r hL, ↓ew_ltr hL, ↓gd_m hL, ↓gd_0 hL, gd_t, Option.bind_some, bd2_some, bd3_some, bd4_some, gm_some, gm_none, ↓reduceIte, or_self, or_false, false_or, or_true, true_or, and_self, and_true, true_and, and_false, false_and, not_false_eq_true, not_true_eq_false, Nat.reduceAdd, Nat.reduceMul, Int32.reduceLT, Int32.reduceLE, eq_self, ev_lit, ev_10, Int32.reduceToNatClampNeg, Nat.reduceLeDiff, Nat.reduceEqDiff, Nat.reduceLT, nI_clamp, ev_ng, ev_L1, ev_L2, ev_L3, ev_K1, ev_K2, ev_K3, ev_K4, ev_K5, ev_a1, ev_m1, ev_s1, ev_s2, nI_add, ev_nle, ev_le, ev_lt, ev_nlt, ev_ne, ev_eq, ev_uI hL, ev_uJ hL, ev_m hL, ev_mr hL, ev_mt hL, ev_mz hL, ev_mj hL, ev_n8 hL, ev_n64 hL, ev_n229 hL, ev_n254 hL, ev_n257 hL, ev_n259 hL, ev_n260 hL, ev_n261 hL, ev_0 hL, ev_00 hL, ev_01 hL, ev_02 hL, ev_1 hL, ev_1n hL, ev_1r hL, ev_lg hL, ev_lr hL, ev_sr hL, ev_2 hL, ev_2n hL, ev_3 hL, ev_30 hL, ev_31 hL, ev_4 hL, ev_4n hL, ev_5 hL, ev_5n hL, ev_4r hL, ev_lt1 hL, ev_ltr hL, ev_lnt hL, ev_lnn hL, ev_7 hL, ev_7n hL, ev_uE, ev_uK]
    · simp (disch := omega) only [f_M_crash, ↓ob_h (M_isLogger_in hl), f_M_crash_b13, c2, ↓bnd_in, ↓Option.bind_some, ↓bd2_some, ↓bd3_some, ↓bd4_some, ↓ew_mr hL, ↓ew_00 hL, ↓ew_01 hL, ↓ew_02 hL, ↓ew_1r hL, ↓ew_lr hL, ↓ew_30 hL, ↓ew_31 hL, ↓ew_4r hL, ↓ew_ltr hL, ↓gd_m hL, ↓gd_0 hL, gd_t, Option.bind_some, bd2_some, bd3_some, bd4_some, gm_some, gm_none, ↓reduceIte, or_self, or_false, false_or, or_true, true_or, and_self, and_true, true_and, and_false, false_and, not_false_eq_true, not_true_eq_false, Nat.reduceAdd, Nat.reduceMul, Int32.reduceLT, Int32.reduceLE, eq_self, ev_lit, ev_10, Int32.reduceToNatClampNeg, Nat.reduceLeDiff, Nat.reduceEqDiff, Nat.reduceLT, nI_clamp, ev_ng, ev_L1, ev_L2, ev_L3, ev_K1, ev_K2, ev_K3, ev_K4, ev_K5, ev_a1, ev_m1, ev_s1, ev_s2, nI_add, ev_nle, ev_le, ev_lt, ev_nlt, ev_ne, ev_eq, ev_uI hL, ev_uJ hL, ev_m hL, ev_mr hL, ev_mt hL, ev_mz hL, ev_mj hL, ev_n8 hL, ev_n64 hL, ev_n229 hL, ev_n254 hL, ev_n257 hL, ev_n259 hL, ev_n260 hL, ev_n261 hL, ev_0 hL, ev_00 hL, ev_01 hL, ev_02 hL, ev_1 hL, ev_1n hL, ev_1r hL, ev_lg hL, ev_lr hL, ev_sr hL, ev_2 hL, ev_2n hL, ev_3 hL, ev_30 hL, ev_31 hL, ev_4 hL, ev_4n hL, ev_5 hL, ev_5n hL, ev_4r hL, ev_lt1 hL, ev_ltr hL, ev_lnt hL, ev_lnn hL, ev_7 hL, ev_7n hL, ev_uE, ev_uK]
    · rw [k3 _ _ (by omega), ev_uI hL (by omega), ev_uE]
    · rw [hJ1]
      refine Rel.ou hL ?_ _
      -- what has changed
      have g : ∀ d k, ¬ ((d = 8 + l ∧ k = 1) ∨ (d = 6 ∧ k = 0) ∨ (d = 227 ∧ k = l) ∨ (d = 238 ∧ k < 8) ∨ (∃ q, q < 8 ∧ d = 300 + 40 * q ∧ k = 14)) → cI A I2 d k = cI A I d k := fun d k hd => by
        show I2 (A d) k = I (A d) k
        rw [k3 _ _ (by omega), ev_uI hL (by omega), ev_uI hL (by omega), k1 _ _ (fun q hq => by
          by_cases e : d = 300 + 40 * q ∧ k = 14
          · exact absurd (Or.inr (Or.inr (Or.inr (Or.inr ⟨q, hq, e⟩)))) hd
          · omega), ev_uI hL (by omega)]
      have g1 : ∀ d k, (9 ≤ d ∧ d < 300 ∧ d ≠ 227 ∧ d ≠ 238 ∧ ¬ (d = 8 + l ∧ k = 1)) ∨ (k ≠ 14 ∧ 300 ≤ d) ∨ d < 6 ∨ (d = 6 ∧ k ≠ 0) → cI A I2 d k = cI A I d k := fun d k hd => g d k (by
        rintro (a | a | a | a | ⟨q, hq, e1, e2⟩) <;> omega)
      have g2 : ∀ q j k, q < 8 → 0 < j → j < 40 → cI A I2 (300 + 40 * q + j) k = cI A I (300 + 40 * q + j) k := fun q j k hq hj hj2 => g _ _ (by
        rintro (a | a | a | a | ⟨q', hq', e1, e2⟩) <;> omega)
      have g3 : ∀ d k, (300 ≤ d ∧ d % 40 ≠ 20) → cI A I2 d k = cI A I d k := fun d k hd => g _ _ (by
        rintro (a | a | a | a | ⟨q', hq', e1, e2⟩) <;> omega)
      have s238 : ∀ q, q < 8 → cI A I2 238 q = if cq q then 3 else cI A I 238 q := k4
      have st0 : ∀ q, q < 8 → cI A I2 238 q = 0 → cq q = false ∧ cI A I 238 q = 0 := fun q hq h0 => by
        rw [s238 q hq] at h0
        cases e : cq q with
        | true => rw [e, if_pos rfl] at h0; exact absurd h0 (by decide)
        | false => rw [e, if_neg (by decide)] at h0; exact ⟨rfl, h0⟩
      refine ⟨sz, c, pi, am, fz, cm, gc, nu, N, hN, ?_, ?_, ?_, ?_⟩
      · intro l' hl'
        obtain ⟨u, r⟩ := h1 l' hl'
        refine ⟨?_, ?_⟩
        · by_cases e : l' = l
          · subst e
            refine Or.inr ⟨?_, ?_⟩
            · show I2 (A (8 + l')) 1 = 0
              rw [k3 _ _ (by omega), ev_uI hL (by omega), ev_uI hL (by omega), k1 _ _ (fun q hq => by omega), ev_uE]
            · show I2 (A 227) l' = 1
              rw [k3 _ _ (by omega), ev_uE]
          · have a1 : cI A I2 (8 + l') 1 = cI A I (8 + l') 1 := g _ _ (by rintro (a | a | a | a | ⟨q', hq', e1, e2⟩) <;> omega)
            have a2 : cI A I2 227 l' = cI A I 227 l' := g _ _ (by rintro (a | a | a | a | ⟨q', hq', e1, e2⟩) <;> omega)
            unfold RUp at u ⊢
            rw [a1, a2]; exact u
        · unfold RLg rI rdM at r ⊢
          simp (disch := omega) only [g1 _ _]
          exact r
      · exact h2.congr (fun d k hd => g1 _ _ (by omega)) (g1 _ _ (by omega)) (fun _ _ _ => rfl)
      · obtain ⟨a1, a2, a3, a4, a5, a6⟩ := h3
        refine ⟨by rw [g1 _ _ (by omega)]; exact a1, by rw [g1 _ _ (by omega)]; exact a2, a3, by simp (disch := omega) only [g1 _ _]; exact a4, a5, fun q hq => ⟨fun he => ?_, (a6 q hq).2⟩⟩
        obtain ⟨b1, b2, b3, b4, b5, b6⟩ := (a6 q hq).1 he
        have s14 : cI A I2 (300 + 40 * q) 14 = cI A I2 238 q := by
          show I2 (A (300 + 40 * q)) 14 = I2 (A 238) q
          rw [k4 q hq, k3 _ _ (by omega), ev_uI hL (by omega), ev_uI hL (by omega), k2 q hq, (hf q hq he).2]
        refine ⟨?_, fun l' hl' => ?_, ?_, ?_, ?_, ?_⟩
        · unfold RQf at b1 ⊢
          rw [s14]
          simp (disch := omega) only [g1 _ _, g2 _ _ _]
          obtain ⟨d1, d2, d3, d4, d5, d6, d7, d8, d9, d10, d11, d12⟩ := b1
          exact ⟨d1, d2, d3, d4, d5, d6, d7, trivial, d9, d10, d11, d12⟩
        · have hz := b2 l' hl'
          unfold RFz rI rdM at hz ⊢
          simp (disch := omega) only [g1 _ _, g3 _ _]
          exact hz
        · obtain ⟨c1, c2, c3, c4⟩ := b3
          refine ⟨fun l hl => ?_, by rw [g3 _ _ (by omega)]; exact c2, c3, fun l hl hc k hk => ?_⟩
          · rw [g3 _ _ (by omega), g1 _ _ (by omega)]; exact c1 l hl
          · rw [g3 _ _ (by omega), g1 _ _ (by omega)]; exact c4 l hl hc k hk
        · unfold RGv rI at b4 ⊢
          simp (disch := omega) only [g1 _ _, g3 _ _]
          exact b4
        · intro h0
          have b5 := b5 (st0 q hq h0).2
          unfold RAs at b5 ⊢
          simp (disch := omega) only [g1 _ _, g3 _ _]
          exact b5
        · intro h0
          rw [s238 q hq] at h0
          cases e : cq q with
          | true => rw [e, if_pos rfl] at h0; exact absurd h0 (by decide)
          | false =>
            rw [e, if_neg (by decide)] at h0
            have b6 := b6 h0
            unfold RAn at b6 ⊢
            simp (disch := omega) only [g1 _ _, g3 _ _]
            exact b6
      · have el : ∀ l z a b, lcn (cI A I2) l z a b = lcn (cI A I) l z a b := fun l z a b => by
          unfold lcn rdM
          simp (disch := omega) only [g1 _ _]
        have el2 : ∀ fz a b n, lcs (cI A I2) fz a b n = lcs (cI A I) fz a b n := fun fz a b n => by
          induction n with
          | zero => rfl
          | succ n ih => show _ + _ = _ + _; rw [ih, el]
        refine ⟨fun i hi => ?_, fun q hq hnq => ?_⟩
        · have := h4.1 i hi
          unfold VLt at this ⊢
          simp (disch := omega) only [g1 _ _]
          exact this
        · obtain ⟨v1, tq, sq, w1, w2, w3, w4, w5⟩ := h4.2 q hq hnq
          refine ⟨⟨?_, ?_, fun h0 => ?_⟩, tq, sq, w1, w2, by rw [g1 _ _ (by omega)]; exact w3, by rw [g1 _ _ (by omega)]; exact w4, fun i hi he => ?_⟩
          · rw [s238 q hq]
            cases e : cq q with
            | true => exact Or.inr (Or.inr (Or.inr rfl))
            | false => exact v1.1
          · rw [g1 _ _ (by omega), g1 232 _ (by omega)]; exact v1.2.1
          · have := v1.2.2 (st0 q hq h0).2
            unfold VAn at this ⊢
            simp (disch := omega) only [g1 _ _, el, el2]
            exact this
          · rw [g1 _ _ (by omega), g1 _ _ (by omega)] at he
            obtain ⟨tt, ss, y1, y2, y3, y4, y5, y6, y7⟩ := w5 i hi he
            refine ⟨tt, ss, y1, y2, by rw [g1 _ _ (by omega)]; exact y3, by rw [g1 _ _ (by omega)]; exact y4, y5, ?_, fun a1 a2 a3 => ?_⟩
            · simp (disch := omega) only [g1 _ _, el]
              exact y6
            · have := y7 a1 a2 (st0 q hq a3).2
              unfold VCu VAn at this ⊢
              simp (disch := omega) only [g1 _ _, el]
              exact this
  · refine ⟨1, I, J, 0, upI I (A 6) 0 1, ?_, ?_, ev_uE, fun q => absurd q (by decide), hr.th hL 1⟩
    · simp (disch := omega) only [f_L_crash, f_H_crash, ↓b2_h (H_loggerOf_out hn), ↓bnd_in, ↓Option.bind_some, ↓bd2_some, ↓bd3_some, ↓bd4_some, ↓ew_mr hL, ↓ew_00 hL, ↓ew_01 hL, ↓ew_02 hL, ↓ew_1r hL, ↓ew_lr hL, ↓ew_30 hL, ↓ew_31 hL, ↓ew_4r hL, ↓ew_ltr hL, ↓gd_m hL, ↓gd_0 hL, gd_t, Option.bind_some, bd2_some, bd3_some, bd4_some, gm_some, gm_none, ↓reduceIte, or_self, or_false, false_or, or_true, true_or, and_self, and_true, true_and, and_false, false_and, not_false_eq_true, not_true_eq_false, Nat.reduceAdd, Nat.reduceMul, Int32.reduceLT, Int32.reduceLE, eq_self, ev_lit, ev_10, Int32.reduceToNatClampNeg, Nat.reduceLeDiff, Nat.reduceEqDiff, Nat.reduceLT, nI_clamp, ev_ng, ev_L1, ev_L2, ev_L3, ev_K1, ev_K2, ev_K3, ev_K4, ev_K5, ev_a1, ev_m1, ev_s1, ev_s2, nI_add, ev_nle, ev_le, ev_lt, ev_nlt, ev_ne, ev_eq, ev_uI hL, ev_uJ hL, ev_m hL, ev_mr hL, ev_mt hL, ev_mz hL, ev_mj hL, ev_n8 hL, ev_n64 hL, ev_n229 hL, ev_n254 hL, ev_n257 hL, ev_n259 hL, ev_n260 hL, ev_n261 hL, ev_0 hL, ev_00 hL, ev_01 hL, ev_02 hL, ev_1 hL, ev_1n hL, ev_1r hL, ev_lg hL, ev_lr hL, ev_sr hL, ev_2 hL, ev_2n hL, ev_3 hL, ev_30 hL, ev_31 hL, ev_4 hL, ev_4n hL, ev_5 hL, ev_5n hL, ev_4r hL, ev_lt1 hL, ev_ltr hL, ev_lnt hL, ev_lnn hL, ev_7 hL, ev_7n hL, ev_uE, ev_uK]
    · simp (disch := omega) only [f_M_crash, ↓ob_h (M_isLogger_out ho), f_M_crash_b13, ↓bnd_in, ↓Option.bind_some, ↓bd2_some, ↓bd3_some, ↓bd4_some, ↓ew_mr hL, ↓ew_00 hL, ↓ew_01 hL, ↓ew_02 hL, ↓ew_1r hL, ↓ew_lr hL, ↓ew_30 hL, ↓ew_31 hL, ↓ew_4r hL, ↓ew_ltr hL, ↓gd_m hL, ↓gd_0 hL, gd_t, Option.bind_some, bd2_some, bd3_some, bd4_some, gm_some, gm_none, ↓reduceIte, or_self, or_false, false_or, or_true, true_or, and_self, and_true, true_and, and_false, false_and, not_false_eq_true, not_true_eq_false, Nat.reduceAdd, Nat.reduceMul, Int32.reduceLT, Int32.reduceLE, eq_self, ev_lit, ev_10, Int32.reduceToNatClampNeg, Nat.reduceLeDiff, Nat.reduceEqDiff, Nat.reduceLT, nI_clamp, ev_ng, ev_L1, ev_L2, ev_L3, ev_K1, ev_K2, ev_K3, ev_K4, ev_K5, ev_a1, ev_m1, ev_s1, ev_s2, nI_add, ev_nle, ev_le, ev_lt, ev_nlt, ev_ne, ev_eq, ev_uI hL, ev_uJ hL, ev_m hL, ev_mr hL, ev_mt hL, ev_mz hL, ev_mj hL, ev_n8 hL, ev_n64 hL, ev_n229 hL, ev_n254 hL, ev_n257 hL, ev_n259 hL, ev_n260 hL, ev_n261 hL, ev_0 hL, ev_00 hL, ev_01 hL, ev_02 hL, ev_1 hL, ev_1n hL, ev_1r hL, ev_lg hL, ev_lr hL, ev_sr hL, ev_2 hL, ev_2n hL, ev_3 hL, ev_30 hL, ev_31 hL, ev_4 hL, ev_4n hL, ev_5 hL, ev_5n hL, ev_4r hL, ev_lt1 hL, ev_ltr hL, ev_lnt hL, ev_lnn hL, ev_7 hL, ev_7n hL, ev_uE, ev_uK]
end CR
