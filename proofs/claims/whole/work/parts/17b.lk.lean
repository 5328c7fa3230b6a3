-- A letter arrives: what each side looks at
section LOOK
variable {S : gS} {A : Nat → Nat} {ex : Nat → Bool} {q k0 f t : Nat} {I : gMI} {J : gMJ}
theorem aw_c (hL : Lay S A ex) (hq : q < 8) (he : ex q = true) (hk0 : k0 < 97) (hf : f < 8) (i7 : I (A (32 + k0)) 7 = nI f) : f_Question_awaits S I J (A (300 + 40 * q)) (A (32 + k0)) = some (if I (A (300 + 40 * q)) 14 = 0 ∧ I (A (32 + k0)) 8 = I (A (300 + 40 * q)) 10 ∧ I (A (32 + k0)) 5 = I (A (300 + 40 * q)) 11 ∧ I (A (32 + k0)) 6 = I (A (300 + 40 * q)) 12 ∧ I (A (300 + 40 * q + 6)) f = 0 then 1 else 0) := by
  obtain ⟨⟨t0, t1, t2, t3, t4, t5⟩, -, -, -, ⟨u0, u1, u2, u3⟩, -, -, ⟨v0, v1⟩, -⟩ := (hL.qy hq he).2
  rw [f_Question_awaits, gd_in t0]
  by_cases c1 : I (A (300 + 40 * q)) 14 = 0
  · rw [if_pos c1, gd_in (ev_lt1 hL hk0)]
    by_cases c2 : I (A (32 + k0)) 8 = I (A (300 + 40 * q)) 10
    · rw [if_pos c2]
      by_cases c3 : I (A (32 + k0)) 5 = I (A (300 + 40 * q)) 11
      · rw [if_pos c3]
        by_cases c4 : I (A (32 + k0)) 6 = I (A (300 + 40 * q)) 12
        · rw [if_pos c4, ob_h t3, gd_in u0, ob_h u1, gd_in v0, i7, gd_in (by rw [v1]; exact nI_in (by omega) (by omega)), nI_clamp (by omega)]
          by_cases c5 : I (A (300 + 40 * q + 6)) f = 0
          · rw [if_pos c5, if_pos ⟨c1, c2, c3, c4, c5⟩, f_Question_awaits_b60, gd_in (Or.inr rfl)]
          · rw [if_neg c5, if_neg (fun e => c5 e.2.2.2.2), f_Question_awaits_b59, f_Question_awaits_b60, gd_in (Or.inl rfl)]
        · rw [if_neg c4, if_neg (fun e => c4 e.2.2.2.1), f_Question_awaits_b59, f_Question_awaits_b60, gd_in (Or.inl rfl)]
      · rw [if_neg c3, if_neg (fun e => c3 e.2.2.1), f_Question_awaits_b59, f_Question_awaits_b60, gd_in (Or.inl rfl)]
    · rw [if_neg c2, if_neg (fun e => c2 e.2.1), f_Question_awaits_b59, f_Question_awaits_b60, gd_in (Or.inl rfl)]
  · rw [if_neg c1, if_neg (fun e => c1 e.1), f_Question_awaits_b59, f_Question_awaits_b60, gd_in (Or.inl rfl)]
theorem q_m1 (hq : q < 8) : ¬ nI q = (-1 : Int32) := fun e => by
  have := (nI_pos' (n := q) (by omega))
  rw [e] at this
  exact absurd this (by decide)
theorem br_even (hL : Lay S A ex) (hq : q < 8) (hf : f < 8) (ht : t < 8) {kd nm tn st : Int32} (hp : f_M_placeOf S I J (A 6) nm = some (nI q)) (hd : I (A 227) t = 0) (hpar : kd - kd / 2 * 2 = 0) : brT S I J (A 6) kd nm tn st (nI f) (nI t) = if I (A 235) q = nI t ∧ I (A 238) q = 0 ∧ I (A 236) q = tn ∧ I (A 237) q = st ∧ I (A 253) (8 * q + f) = 0 then f_M_take S I J (A 6) (nI q) (nI f) else some (I, J) := by
  have e1 : f_M_bring_b237 S I J 1 (A 6) (nI f) (nI q) = f_M_take S I J (A 6) (nI q) (nI f) := by
    rw [f_M_bring_b237, if_neg (by decide), gd_m hL]
    cases f_M_take S I J (A 6) (nI q) (nI f) with
    | none => rfl
    | some p => rfl
  have e0 : f_M_bring_b236 S I J (A 6) (nI f) (nI q) = some (I, J) := by
    rw [f_M_bring_b236, f_M_bring_b237, if_pos rfl, f_M_bring_b252]
  have n8 : ∀ {d : Nat}, S.2.1 (A d) = 8 → ¬ (nI q < 0 ∨ S.2.1 (A d) ≤ (nI q).toNatClampNeg) := fun h => by rw [h]; exact nI_in (by omega) (by omega)
  have n8' : ∀ {d : Nat}, S.2.1 (A d) = 8 → ¬ (nI q < 0 ∨ S.2.1 (A d) ≤ q) := fun h e => e.elim (nI_pos (by omega)) (fun u => by rw [h] at u; omega)
  rw [brT, ob_h hp, if_neg (q_m1 hq), ew_mr hL (by omega), gd_in (ev_mz hL (by omega)), gd_in (by rw [ev_n8 hL (by omega)]; exact nI_in (by omega) (by omega)), nI_clamp (by omega), if_pos hd, if_pos hpar, ew_mr hL (by omega), gd_in (ev_mt hL (by omega)), gd_in (n8 (ev_n8 hL (by omega))), nI_clamp (by omega)]
  by_cases c1 : I (A 235) q = nI t
  · rw [if_pos c1, ew_mr hL (by omega), gd_in (ev_mt hL (by omega)), gd_in (n8' (ev_n8 hL (by omega)))]
    by_cases c2 : I (A 238) q = 0
    · rw [if_pos c2, ew_mr hL (by omega), gd_in (ev_mt hL (by omega)), gd_in (n8' (ev_n8 hL (by omega)))]
      by_cases c3 : I (A 236) q = tn
      · rw [if_pos c3, ew_mr hL (by omega), gd_in (ev_mt hL (by omega)), gd_in (n8' (ev_n8 hL (by omega)))]
        by_cases c4 : I (A 237) q = st
        · rw [if_pos c4, ew_mr hL (by omega), gd_in (ev_mz hL (by omega))]
          simp (disch := omega) only [e1, e0, ↓bnd_in, ↓Option.bind_some, ↓bd2_some, ↓bd3_some, ↓bd4_some, ↓ew_mr hL, ↓ew_00 hL, ↓ew_01 hL, ↓ew_02 hL, ↓ew_1r hL, ↓ew_lr hL, ↓ew_30 hL, ↓ew_31 hL, ↓ew_4r hL, ↓ew_ltr hL, ↓gd_m hL, ↓gd_0 hL, gd_t, Option.bind_some, bd2_some, bd3_some, bd4_some, gm_some, gm_none, ↓reduceIte, or_self, or_false, false_or, or_true, true_or, and_self, and_true, true_and, and_false, false_and, not_false_eq_true, not_true_eq_false, Nat.reduceAdd, Nat.reduceMul, Int32.reduceLT, Int32.reduceLE, eq_self, ev_lit, ev_10, Int32.reduceToNatClampNeg, Nat.reduceLeDiff, Nat.reduceEqDiff, Nat.reduceLT, nI_clamp, ev_ng, ev_L1, ev_L2, ev_L3, ev_K1, ev_K2, ev_K3, ev_K4, ev_K5, ev_a1, ev_m1, ev_s1, ev_s2, nI_add, ev_nle, ev_le, ev_lt, ev_nlt, ev_ne, ev_eq, ev_uI hL, ev_uJ hL, ev_m hL, ev_mr hL, ev_mt hL, ev_mz hL, ev_mj hL, ev_n8 hL, ev_n64 hL, ev_n229 hL, ev_n254 hL, ev_n257 hL, ev_n259 hL, ev_n260 hL, ev_n261 hL, ev_0 hL, ev_00 hL, ev_01 hL, ev_02 hL, ev_1 hL, ev_1n hL, ev_1r hL, ev_lg hL, ev_lr hL, ev_sr hL, ev_2 hL, ev_2n hL, ev_3 hL, ev_30 hL, ev_31 hL, ev_4 hL, ev_4n hL, ev_5 hL, ev_5n hL, ev_4r hL, ev_lt1 hL, ev_ltr hL, ev_lnt hL, ev_lnn hL, ev_7 hL, ev_7n hL, ev_uE, ev_uK]
          by_cases c5 : I (A 253) (8 * q + f) = 0
          · rw [if_pos c5, if_pos ⟨c1, c2, c3, c4, c5⟩]
          · rw [if_neg c5, if_neg (fun e => c5 e.2.2.2.2)]
        · rw [if_neg c4, if_neg (fun e => c4 e.2.2.2.1), e0]
      · rw [if_neg c3, if_neg (fun e => c3 e.2.2.1), e0]
    · rw [if_neg c2, if_neg (fun e => c2 e.2.1), e0]
  · rw [if_neg c1, if_neg (fun e => c1 e.1), e0]
theorem br_odd (hL : Lay S A ex) (hq : q < 8) (ht : t < 8) {kd nm tn st fr : Int32} (hp : f_M_placeOf S I J (A 6) nm = some (nI q)) (hd : I (A 227) t = 0) (hpar : ¬ kd - kd / 2 * 2 = 0) : brT S I J (A 6) kd nm tn st fr (nI t) = f_M_bring_b295 S (if kd = 1 ∧ I (A 243) (8 * q + t) = -1 then upI I (A 243) (8 * q + t) (I (A 228) t) else I) J (A 6) kd nm tn st fr (nI t) (nI q) := by
  have m1 := q_m1 hq
  by_cases c1 : kd = 1
  · by_cases c2 : I (A 243) (8 * q + t) = -1
    · rw [if_pos ⟨c1, c2⟩]
      subst c1
      simp (disch := omega) only [brT, ↓ob_h hp, m1, hd, hpar, c2, ↓bnd_in, ↓Option.bind_some, ↓bd2_some, ↓bd3_some, ↓bd4_some, ↓ew_mr hL, ↓ew_00 hL, ↓ew_01 hL, ↓ew_02 hL, ↓ew_1r hL, ↓ew_lr hL, ↓ew_30 hL, ↓ew_31 hL, ↓ew_4r hL, ↓ew_ltr hL, ↓gd_m hL, ↓gd_0 hL, gd_t, Option.bind_some, bd2_some, bd3_some, bd4_some, gm_some, gm_none, ↓reduceIte, or_self, or_false, false_or, or_true, true_or, and_self, and_true, true_and, and_false, false_and, not_false_eq_true, not_true_eq_false, Nat.reduceAdd, Nat.reduceMul, Int32.reduceLT, Int32.reduceLE, eq_self, ev_lit, ev_10, Int32.reduceToNatClampNeg, Nat.reduceLeDiff, Nat.reduceEqDiff, Nat.reduceLT, nI_clamp, ev_ng, ev_L1, ev_L2, ev_L3, ev_K1, ev_K2, ev_K3, ev_K4, ev_K5, ev_a1, ev_m1, ev_s1, ev_s2, nI_add, ev_nle, ev_le, ev_lt, ev_nlt, ev_ne, ev_eq, ev_uI hL, ev_uJ hL, ev_m hL, ev_mr hL, ev_mt hL, ev_mz hL, ev_mj hL, ev_n8 hL, ev_n64 hL, ev_n229 hL, ev_n254 hL, ev_n257 hL, ev_n259 hL, ev_n260 hL, ev_n261 hL, ev_0 hL, ev_00 hL, ev_01 hL, ev_02 hL, ev_1 hL, ev_1n hL, ev_1r hL, ev_lg hL, ev_lr hL, ev_sr hL, ev_2 hL, ev_2n hL, ev_3 hL, ev_30 hL, ev_31 hL, ev_4 hL, ev_4n hL, ev_5 hL, ev_5n hL, ev_4r hL, ev_lt1 hL, ev_ltr hL, ev_lnt hL, ev_lnn hL, ev_7 hL, ev_7n hL, ev_uE, ev_uK]
    · rw [if_neg (fun e => c2 e.2)]
      subst c1
      simp (disch := omega) only [brT, ↓ob_h hp, m1, hd, hpar, c2, ↓bnd_in, ↓Option.bind_some, ↓bd2_some, ↓bd3_some, ↓bd4_some, ↓ew_mr hL, ↓ew_00 hL, ↓ew_01 hL, ↓ew_02 hL, ↓ew_1r hL, ↓ew_lr hL, ↓ew_30 hL, ↓ew_31 hL, ↓ew_4r hL, ↓ew_ltr hL, ↓gd_m hL, ↓gd_0 hL, gd_t, Option.bind_some, bd2_some, bd3_some, bd4_some, gm_some, gm_none, ↓reduceIte, or_self, or_false, false_or, or_true, true_or, and_self, and_true, true_and, and_false, false_and, not_false_eq_true, not_true_eq_false, Nat.reduceAdd, Nat.reduceMul, Int32.reduceLT, Int32.reduceLE, eq_self, ev_lit, ev_10, Int32.reduceToNatClampNeg, Nat.reduceLeDiff, Nat.reduceEqDiff, Nat.reduceLT, nI_clamp, ev_ng, ev_L1, ev_L2, ev_L3, ev_K1, ev_K2, ev_K3, ev_K4, ev_K5, ev_a1, ev_m1, ev_s1, ev_s2, nI_add, ev_nle, ev_le, ev_lt, ev_nlt, ev_ne, ev_eq, ev_uI hL, ev_uJ hL, ev_m hL, ev_mr hL, ev_mt hL, ev_mz hL, ev_mj hL, ev_n8 hL, ev_n64 hL, ev_n229 hL, ev_n254 hL, ev_n257 hL, ev_n259 hL, ev_n260 hL, ev_n261 hL, ev_0 hL, ev_00 hL, ev_01 hL, ev_02 hL, ev_1 hL, ev_1n hL, ev_1r hL, ev_lg hL, ev_lr hL, ev_sr hL, ev_2 hL, ev_2n hL, ev_3 hL, ev_30 hL, ev_31 hL, ev_4 hL, ev_4n hL, ev_5 hL, ev_5n hL, ev_4r hL, ev_lt1 hL, ev_ltr hL, ev_lnt hL, ev_lnn hL, ev_7 hL, ev_7n hL, ev_uE, ev_uK]
  · rw [if_neg (fun e => c1 e.1)]
    simp (disch := omega) only [brT, ↓ob_h hp, m1, hd, hpar, c1, ↓bnd_in, ↓Option.bind_some, ↓bd2_some, ↓bd3_some, ↓bd4_some, ↓ew_mr hL, ↓ew_00 hL, ↓ew_01 hL, ↓ew_02 hL, ↓ew_1r hL, ↓ew_lr hL, ↓ew_30 hL, ↓ew_31 hL, ↓ew_4r hL, ↓ew_ltr hL, ↓gd_m hL, ↓gd_0 hL, gd_t, Option.bind_some, bd2_some, bd3_some, bd4_some, gm_some, gm_none, ↓reduceIte, or_self, or_false, false_or, or_true, true_or, and_self, and_true, true_and, and_false, false_and, not_false_eq_true, not_true_eq_false, Nat.reduceAdd, Nat.reduceMul, Int32.reduceLT, Int32.reduceLE, eq_self, ev_lit, ev_10, Int32.reduceToNatClampNeg, Nat.reduceLeDiff, Nat.reduceEqDiff, Nat.reduceLT, nI_clamp, ev_ng, ev_L1, ev_L2, ev_L3, ev_K1, ev_K2, ev_K3, ev_K4, ev_K5, ev_a1, ev_m1, ev_s1, ev_s2, nI_add, ev_nle, ev_le, ev_lt, ev_nlt, ev_ne, ev_eq, ev_uI hL, ev_uJ hL, ev_m hL, ev_mr hL, ev_mt hL, ev_mz hL, ev_mj hL, ev_n8 hL, ev_n64 hL, ev_n229 hL, ev_n254 hL, ev_n257 hL, ev_n259 hL, ev_n260 hL, ev_n261 hL, ev_0 hL, ev_00 hL, ev_01 hL, ev_02 hL, ev_1 hL, ev_1n hL, ev_1r hL, ev_lg hL, ev_lr hL, ev_sr hL, ev_2 hL, ev_2n hL, ev_3 hL, ev_30 hL, ev_31 hL, ev_4 hL, ev_4n hL, ev_5 hL, ev_5n hL, ev_4r hL, ev_lt1 hL, ev_ltr hL, ev_lnt hL, ev_lnn hL, ev_7 hL, ev_7n hL, ev_uE, ev_uK]
theorem par12 : ∀ ka, ka < 13 → nI ka - nI ka / 2 * 2 = nI (ka % 2) := by
  intro ka h
  have : ∀ k : Fin 13, nI k.val - nI k.val / 2 * 2 = nI (k.val % 2) := by decide
  exact this ⟨ka, h⟩
theorem isA_c (hL : Lay S A ex) (hk0 : k0 < 97) {ka : Nat} (hka : ka < 13) (i3 : I (A (32 + k0)) 3 = nI ka) : f_Letter_isAsking S I J (A (32 + k0)) = some (nI (ka % 2)) := by
  rw [f_Letter_isAsking, gd_in (ev_lt1 hL hk0), i3, par12 ka hka]
  by_cases e : ka % 2 = 1
  · rw [e]
    rfl
  · rw [show ka % 2 = 0 by omega]
    rfl
theorem cmN_le2 (z : Nat → Bool) : ∀ n, cmN z n ≤ n
  | 0 => Nat.le_refl 0
  | n + 1 => by
    have := cmN_le2 z n
    show cmN z n + (if z n then 1 else 0) ≤ n + 1
    split <;> omega
theorem cmN_full {z : Nat → Bool} : ∀ n, (∀ l, l < n → z l = true) → cmN z n = n
  | 0, _ => rfl
  | n + 1, h => by
    show cmN z n + (if z n then 1 else 0) = n + 1
    rw [cmN_full n (fun l hl => h l (by omega)), h n (by omega)]
    rfl
theorem cmN_less {z : Nat → Bool} {l : Nat} (hz : z l = false) : ∀ n, l < n → cmN z n < n
  | 0, h => by omega
  | n + 1, h => by
    show cmN z n + (if z n then 1 else 0) < n + 1
    by_cases e : l = n
    · have := cmN_le2 z n
      rw [← e, hz]
      subst e
      show cmN z l + 0 < l + 1
      omega
    · have := cmN_less hz n (by omega)
      split <;> omega
end LOOK
