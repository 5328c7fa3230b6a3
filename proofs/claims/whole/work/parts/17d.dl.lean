-- deliver and run
section DELIVER
variable {S : gS} {A : Nat → Nat} {ex : Nat → Bool} {b b' c N r : Nat} {sz pi am nu : Nat → Nat} {fz : Nat → Nat → Option Nat} {cm : Nat → Nat → Bool} {gc : Nat → Nat → Nat} {I Ic Ir : gMI} {J Jc Jr : gMJ}
theorem Rel.mono {M : gMI} {K : gMJ} (h : Rel M K ex b) (hb : b ≤ b') : Rel M K ex b' := by
  obtain ⟨sz, c, pi, am, fz, cm, gc, nu, N, h0, h1, h2, h3, h4⟩ := h
  refine ⟨sz, c, pi, am, fz, cm, gc, nu, N, by omega, h1, h2, h3, h4.1, fun q hq hn => ?_⟩
  obtain ⟨v1, tq, sq, w1, w2, w3⟩ := h4.2 q hq hn
  exact ⟨v1, tq, sq, by omega, by omega, w3⟩
theorem del_both (hL : Lay S A ex) (hb : b + 1 < 2 ^ 30) (h : R4 (mI A Ic Ir) (mJ A Jc Jr) ex b sz c pi am fz cm gc nu N) (hr : r < c) : ∃ s Ic1 Ic' Jc' Ir' Jr', (∀ J, f_Post_takeOut S Ic J (A 3) (nI r) = some (some s, Ic1)) ∧ f_H_arrive S Ic1 Jc (A 0) s = some (Ic', Jc') ∧ f_M_bring S Ir Jr (A 6) (nI r) = some (Ir', Jr') ∧ Rel (mI A Ic' Ir') (mJ A Jc' Jr') ex (b + 1) ∧ FrC A Ic Ic' ∧ FrC A Jc Jc' ∧ FrR A Ir Ir' ∧ FrR A Jr Jr' ∧ Ir' (A 6) 0 = Ir (A 6) 0 := by
  obtain ⟨Ic1, Ir1, Jr1, x1, x2, x3, x4, x5, x6, x7, x8, x9⟩ := bring_to hL h hr
  obtain ⟨pi', hpi'⟩ : ∃ pi' : Nat → Nat, pi' = fun i => pi (if i < r then i else if i < 96 then i + 1 else r) := ⟨_, rfl⟩
  have hc := h.2.2.1.1
  rw [← hpi'] at x3
  have p96 : pi' 96 = pi r := by
    rw [hpi']
    dsimp only
    rw [if_neg (by omega), if_neg (by omega)]
  have pr := (h.2.2.1.2.2.2.1 r (by omega)).1
  have hlet := h.2.2.1.2.2.2.2.2 r hr
  unfold RLet at hlet
  simp (disch := omega) only [mI_c, mI_r, mJ_c, mJ_r] at hlet
  obtain ⟨l1, l2, l3, l4, l5, l6, l7, l8, l9, l10, l11⟩ := hlet
  have hvt := h.2.2.2.2.1 r hr
  unfold VLt at hvt
  simp (disch := omega) only [mI_c, mI_r, mJ_c, mJ_r] at hvt
  obtain ⟨ka, f, t, u, k1, k2, hf, ht, hu, k3, k4, k5, k6⟩ := hvt
  rw [k3] at l4
  rw [k6] at l5
  rw [k4] at l8
  rw [k5] at l9
  rw [k3, k6, k4, k5] at x2
  have hH : HND A (pi' 96) Ic1 Jc Ir1 Jr1 (nI ka) (nI u) (Ir (A 259) (7 * r + 2)) (Ir (A 259) (7 * r + 3)) (nI f) (nI t) (am r) := by
    rw [p96]
    refine ⟨l1, ?_, ⟨?_, ?_, ?_, ?_, ?_, ?_⟩, ?_, ?_, fun j hj => ?_⟩
    · rw [x4 _ _ (by omega) (by omega)]; exact l2
    · rw [x4 _ _ (by omega) (by omega)]; exact l4
    · rw [x4 _ _ (by omega) (by omega)]; exact l5
    · rw [x4 _ _ (by omega) (by omega)]; exact l6
    · rw [x4 _ _ (by omega) (by omega)]; exact l7
    · rw [x4 _ _ (by omega) (by omega)]; exact l8
    · rw [x4 _ _ (by omega) (by omega)]; exact l9
    · rw [x9]; exact l10
    · rw [x7]; exact l3
    · rw [x8 j hj, x4 _ _ (by omega) (by omega)]
      exact l11 j hj
  obtain ⟨Ic', Jc', Ir', Jr', y1, y2, y3, y4, y5, y6, y7, y8⟩ := arr_both hL hb x3 (by omega) hH ⟨k1, k2⟩ hf ht hu (fun q hq hn euq tq sq w1 w2 w3 w4 => by
    obtain ⟨-, tq0, sq0, v1, v2, v3, v4, v5⟩ := h.2.2.2.2.2 q hq hn
    rw [x5 _ _ (by omega) (by omega) (by omega) (by omega)] at w3 w4
    rw [mI_r (by omega)] at v3 v4
    have e1 : tq0 = tq := (ev_L3 (by omega) (by omega)).mp (v3.symm.trans w3)
    have e2 : sq0 = sq := (ev_L3 (by omega) (by omega)).mp (v4.symm.trans w4)
    subst e1 e2
    have hd := (v5 r hr (by rw [mI_r (by omega), mI_r (by omega), k6, h.num hq, euq])).hd
    rw [mI_r (by omega), mI_r (by omega), mI_r (by omega), mI_r (by omega), mI_r (by omega), mI_r (by omega), mI_r (by omega), mI_r (by omega), k3, k4, k5, l3] at hd
    rw [x8 0 (by omega), x8 1 (by omega)]
    refine hd.mono (fun _ _ => rfl) ?_ ?_ ?_ ?_ (fun k => ?_)
    · rw [mI_r (by omega), mI_r (by omega), x5 _ _ (by omega) (by omega) (by omega) (by omega)]
    · rw [mI_r (by omega), mI_r (by omega), x5 _ _ (by omega) (by omega) (by omega) (by omega)]
    · rw [mI_r (by omega), mI_r (by omega), x5 _ _ (by omega) (by omega) (by omega) (by omega)]
    · rw [mI_r (by omega), mI_r (by omega), x5 _ _ (by omega) (by omega) (by omega) (by omega)]
    · rw [mI_r (by omega), mI_r (by omega), x5 _ _ (by omega) (by omega) (by omega) (by omega)])
  rw [p96] at y1
  refine ⟨_, Ic1, Ic', Jc', Ir', Jr', x1, y1, x2.trans y2, y3, fun d k hd => by rw [y4 _ _ hd, x4 _ _ (by omega) (by omega)], y5, fun d k hd => by rw [y6 _ _ hd, x5 _ _ (by omega) (by omega) (by omega) (by omega)], fun d k hd => by rw [y7 _ _ hd, x6 _ _ (by omega) (by omega)], by rw [y8, x5 _ _ (by omega) (by omega) (by omega) (by omega)]⟩
theorem Rel.cnt (h : Rel (mI A Ic Ir) (mJ A Jc Jr) ex b) : ∃ c, c ≤ 96 ∧ Ic (A 3) 2 = nI c ∧ Ir (A 6) 32 = nI c := by
  obtain ⟨sz, c, pi, am, fz, cm, gc, nu, N, h⟩ := h.ghosts
  obtain ⟨p1, p2, p3, -⟩ := h.2.2.1
  rw [mI_c (by omega)] at p2
  rw [mI_r (by omega)] at p3
  exact ⟨c, p1, p2, p3⟩
theorem Rel.th0 (hL : Lay S A ex) (h : Rel (mI A Ic Ir) (mJ A Jc Jr) ex b) (x : Int32) : Rel (mI A Ic (upI Ir (A 6) 0 x)) (mJ A Jc Jr) ex b := by
  obtain ⟨sz, c, pi, am, fz, cm, gc, nu, N, h⟩ := h.ghosts
  exact (h.buf (fun d k d1 d2 => by
      by_cases e : d = 6 ∨ (226 ≤ d ∧ d < 263)
      · rw [mI_r e, mI_r e, ev_uI hL (by omega)]
      · rw [mI_c e, mI_c e]) (fun _ _ _ _ => rfl)).rel
theorem op_deliver (hL : Lay S A ex) (hb : b + 1 < 2 ^ 30) (hr : Rel (cI A I) (cJ A J) ex b) (i : Int32) : ∃ k I1 J1 r I2 J2, f_L_deliver S I J (A 0) i (A 7) = some (k, I1, J1) ∧ f_M_deliver S I1 J1 (A 6) i = some (r, I2, J2) ∧ I2 (A 6) 0 = k ∧ (k = 0 → J2 (A 7) 0 = r.toInt64) ∧ Rel (cI A I2) (cJ A J2) ex (b + 1) := by
  have hr0 := hr
  rw [← mI_self, ← mJ_self] at hr0
  obtain ⟨c, p1, q2, q3⟩ := hr0.cnt
  rcases H_needLetter (J := J) hL p1 q2 i with ⟨x, hx, rfl, hn⟩ | ⟨ho, hn⟩
  · obtain ⟨y, Ic', Jc', y', I2, J2, g1, g2, g3, g4, g5, g6⟩ := seq_of (b' := b + 1) (F := fun y Ic' Jc' => f_H_deliver S I J (A 0) (nI x) = some (0, y, Ic', Jc')) (G := fun Ir Jr y Ir' Jr' => f_M_deliver S Ir Jr (A 6) (nI x) = some (y, Ir', Jr')) (P := fun x y => x = y) hL (fun x I1 J1 x' I2 J2 a1 a2 => by
        rw [a1] at a2
        simp only [Option.some.injEq, Prod.mk.injEq, true_and] at a2
        exact a2) hr (fun Ir Jr h' => by
      obtain ⟨sz, c', pi, am, fz, cm, gc, nu', N, h1⟩ := (h'.th0 hL 0).ghosts
      obtain ⟨pc, p2, p3, -⟩ := h1.2.2.1
      rw [mI_c (by omega)] at p2
      rw [mI_r (by omega)] at p3
      have ec : c' = c := (ev_L3 (by omega) (by omega)).mp (p2.symm.trans q2)
      subst ec
      obtain ⟨s, Ic1, Ic', Jc', Ir', Jr', s1, s2, s3, s4, s5, s6, s7, s8, s9⟩ := del_both hL hb h1 hx
      obtain ⟨c2, d1, d2, d3⟩ := s4.cnt
      rw [ev_uE] at s9
      rw [ev_uI hL (by omega)] at p3
      have hin : ∀ J, f_M_isLetter S Ir J (A 6) (nI x) = some 1 := fun J => M_isLetter_in hL p1 hx p3
      refine ⟨nI c2, Ic', Jc', nI c2, Ir', Jr', ?_, ?_, rfl, s9, s4, s5, s6, fun d k hd => by rw [s7 d k hd, ev_uI hL (by omega)], s8⟩
      · simp (disch := omega) only [f_H_deliver, ↓ob_h hn, ↓b2_h (s1 J), ↓b2_h s2, d2, ↓bnd_in, ↓Option.bind_some, ↓bd2_some, ↓bd3_some, ↓bd4_some, ↓ew_mr hL, ↓ew_00 hL, ↓ew_01 hL, ↓ew_02 hL, ↓ew_1r hL, ↓ew_lr hL, ↓ew_30 hL, ↓ew_31 hL, ↓ew_4r hL, ↓ew_ltr hL, ↓gd_m hL, ↓gd_0 hL, gd_t, Option.bind_some, bd2_some, bd3_some, bd4_some, gm_some, gm_none, ↓reduceIte, or_self, or_false, false_or, or_true, true_or, and_self, and_true, true_and, and_false, false_and, not_false_eq_true, not_true_eq_false, Nat.reduceAdd, Nat.reduceMul, Int32.reduceLT, Int32.reduceLE, eq_self, ev_lit, ev_10, Int32.reduceToNatClampNeg, Nat.reduceLeDiff, Nat.reduceEqDiff, Nat.reduceLT, nI_clamp, ev_ng, ev_L1, ev_L2, ev_L3, ev_K1, ev_K2, ev_K3, ev_K4, ev_K5, ev_a1, ev_m1, ev_s1, ev_s2, nI_add, ev_nle, ev_le, ev_lt, ev_nlt, ev_ne, ev_eq, ev_uI hL, ev_uJ hL, ev_m hL, ev_mr hL, ev_mt hL, ev_mz hL, ev_mj hL, ev_n8 hL, ev_n64 hL, ev_n229 hL, ev_n254 hL, ev_n257 hL, ev_n259 hL, ev_n260 hL, ev_n261 hL, ev_0 hL, ev_00 hL, ev_01 hL, ev_02 hL, ev_1 hL, ev_1n hL, ev_1r hL, ev_lg hL, ev_lr hL, ev_sr hL, ev_2 hL, ev_2n hL, ev_3 hL, ev_30 hL, ev_31 hL, ev_4 hL, ev_4n hL, ev_5 hL, ev_5n hL, ev_4r hL, ev_lt1 hL, ev_ltr hL, ev_lnt hL, ev_lnn hL, ev_7 hL, ev_7n hL, ev_uE, ev_uK]
      · simp (disch := omega) only [f_M_deliver, ↓ob_h (hin _), f_M_deliver_b14, ↓b2_h s3, f_M_deliver_b29, f_M_deliver_b44, s9, d3, Int32.le_refl, ↓bnd_in, ↓Option.bind_some, ↓bd2_some, ↓bd3_some, ↓bd4_some, ↓ew_mr hL, ↓ew_00 hL, ↓ew_01 hL, ↓ew_02 hL, ↓ew_1r hL, ↓ew_lr hL, ↓ew_30 hL, ↓ew_31 hL, ↓ew_4r hL, ↓ew_ltr hL, ↓gd_m hL, ↓gd_0 hL, gd_t, Option.bind_some, bd2_some, bd3_some, bd4_some, gm_some, gm_none, ↓reduceIte, or_self, or_false, false_or, or_true, true_or, and_self, and_true, true_and, and_false, false_and, not_false_eq_true, not_true_eq_false, Nat.reduceAdd, Nat.reduceMul, Int32.reduceLT, Int32.reduceLE, eq_self, ev_lit, ev_10, Int32.reduceToNatClampNeg, Nat.reduceLeDiff, Nat.reduceEqDiff, Nat.reduceLT, nI_clamp, ev_ng, ev_L1, ev_L2, ev_L3, ev_K1, ev_K2, ev_K3, ev_K4, ev_K5, ev_a1, ev_m1, ev_s1, ev_s2, nI_add, ev_nle, ev_le, ev_lt, ev_nlt, ev_ne, ev_eq, ev_uI hL, ev_uJ hL, ev_m hL, ev_mr hL, ev_mt hL, ev_mz hL, ev_mj hL, ev_n8 hL, ev_n64 hL, ev_n229 hL, ev_n254 hL, ev_n257 hL, ev_n259 hL, ev_n260 hL, ev_n261 hL, ev_0 hL, ev_00 hL, ev_01 hL, ev_02 hL, ev_1 hL, ev_1n hL, ev_1r hL, ev_lg hL, ev_lr hL, ev_sr hL, ev_2 hL, ev_2n hL, ev_3 hL, ev_30 hL, ev_31 hL, ev_4 hL, ev_4n hL, ev_5 hL, ev_5n hL, ev_4r hL, ev_lt1 hL, ev_ltr hL, ev_lnt hL, ev_lnn hL, ev_7 hL, ev_7n hL, ev_uE, ev_uK]) (fun x => x.toInt64)
    subst g3
    refine ⟨0, Ic', _, y, I2, J2, ?_, g2, g4, fun _ => g5, g6⟩
    simp (disch := omega) only [f_L_deliver, ↓b4_h g1, ↓bnd_in, ↓Option.bind_some, ↓bd2_some, ↓bd3_some, ↓bd4_some, ↓ew_mr hL, ↓ew_00 hL, ↓ew_01 hL, ↓ew_02 hL, ↓ew_1r hL, ↓ew_lr hL, ↓ew_30 hL, ↓ew_31 hL, ↓ew_4r hL, ↓ew_ltr hL, ↓gd_m hL, ↓gd_0 hL, gd_t, Option.bind_some, bd2_some, bd3_some, bd4_some, gm_some, gm_none, ↓reduceIte, or_self, or_false, false_or, or_true, true_or, and_self, and_true, true_and, and_false, false_and, not_false_eq_true, not_true_eq_false, Nat.reduceAdd, Nat.reduceMul, Int32.reduceLT, Int32.reduceLE, eq_self, ev_lit, ev_10, Int32.reduceToNatClampNeg, Nat.reduceLeDiff, Nat.reduceEqDiff, Nat.reduceLT, nI_clamp, ev_ng, ev_L1, ev_L2, ev_L3, ev_K1, ev_K2, ev_K3, ev_K4, ev_K5, ev_a1, ev_m1, ev_s1, ev_s2, nI_add, ev_nle, ev_le, ev_lt, ev_nlt, ev_ne, ev_eq, ev_uI hL, ev_uJ hL, ev_m hL, ev_mr hL, ev_mt hL, ev_mz hL, ev_mj hL, ev_n8 hL, ev_n64 hL, ev_n229 hL, ev_n254 hL, ev_n257 hL, ev_n259 hL, ev_n260 hL, ev_n261 hL, ev_0 hL, ev_00 hL, ev_01 hL, ev_02 hL, ev_1 hL, ev_1n hL, ev_1r hL, ev_lg hL, ev_lr hL, ev_sr hL, ev_2 hL, ev_2n hL, ev_3 hL, ev_30 hL, ev_31 hL, ev_4 hL, ev_4n hL, ev_5 hL, ev_5n hL, ev_4r hL, ev_lt1 hL, ev_ltr hL, ev_lnt hL, ev_lnn hL, ev_7 hL, ev_7n hL, ev_uE, ev_uK]
  · have hin : ∀ J, f_M_isLetter S I J (A 6) i = some 0 := fun J => M_isLetter_out hL ho q3
    refine ⟨1, I, J, 0, upI I (A 6) 0 1, J, ?_, ?_, ev_uE, fun q => absurd q (by decide), (hr.th hL 1).mono (by omega)⟩
    · simp (disch := omega) only [f_L_deliver, f_H_deliver, ↓ob_h hn, ↓bnd_in, ↓Option.bind_some, ↓bd2_some, ↓bd3_some, ↓bd4_some, ↓ew_mr hL, ↓ew_00 hL, ↓ew_01 hL, ↓ew_02 hL, ↓ew_1r hL, ↓ew_lr hL, ↓ew_30 hL, ↓ew_31 hL, ↓ew_4r hL, ↓ew_ltr hL, ↓gd_m hL, ↓gd_0 hL, gd_t, Option.bind_some, bd2_some, bd3_some, bd4_some, gm_some, gm_none, ↓reduceIte, or_self, or_false, false_or, or_true, true_or, and_self, and_true, true_and, and_false, false_and, not_false_eq_true, not_true_eq_false, Nat.reduceAdd, Nat.reduceMul, Int32.reduceLT, Int32.reduceLE, eq_self, ev_lit, ev_10, Int32.reduceToNatClampNeg, Nat.reduceLeDiff, Nat.reduceEqDiff, Nat.reduceLT, nI_clamp, ev_ng, ev_L1, ev_L2, ev_L3, ev_K1, ev_K2, ev_K3, ev_K4, ev_K5, ev_a1, ev_m1, ev_s1, ev_s2, nI_add, ev_nle, ev_le, ev_lt, ev_nlt, ev_ne, ev_eq, ev_uI hL, ev_uJ hL, ev_m hL, ev_mr hL, ev_mt hL, ev_mz hL, ev_mj hL, ev_n8 hL, ev_n64 hL, ev_n229 hL, ev_n254 hL, ev_n257 hL, ev_n259 hL, ev_n260 hL, ev_n261 hL, ev_0 hL, ev_00 hL, ev_01 hL, ev_02 hL, ev_1 hL, ev_1n hL, ev_1r hL, ev_lg hL, ev_lr hL, ev_sr hL, ev_2 hL, ev_2n hL, ev_3 hL, ev_30 hL, ev_31 hL, ev_4 hL, ev_4n hL, ev_5 hL, ev_5n hL, ev_4r hL, ev_lt1 hL, ev_ltr hL, ev_lnt hL, ev_lnn hL, ev_7 hL, ev_7n hL, ev_uE, ev_uK]
    · simp (disch := omega) only [f_M_deliver, ↓ob_h (hin _), f_M_deliver_b14, f_M_deliver_b29, f_M_deliver_b44, ↓bnd_in, ↓Option.bind_some, ↓bd2_some, ↓bd3_some, ↓bd4_some, ↓ew_mr hL, ↓ew_00 hL, ↓ew_01 hL, ↓ew_02 hL, ↓ew_1r hL, ↓ew_lr hL, ↓ew_30 hL, ↓ew_31 hL, ↓ew_4r hL, ↓ew_ltr hL, ↓gd_m hL, ↓gd_0 hL, gd_t, Option.bind_some, bd2_some, bd3_some, bd4_some, gm_some, gm_none, ↓reduceIte, or_self, or_false, false_or, or_true, true_or, and_self, and_true, true_and, and_false, false_and, not_false_eq_true, not_true_eq_false, Nat.reduceAdd, Nat.reduceMul, Int32.reduceLT, Int32.reduceLE, eq_self, ev_lit, ev_10, Int32.reduceToNatClampNeg, Nat.reduceLeDiff, Nat.reduceEqDiff, Nat.reduceLT, nI_clamp, ev_ng, ev_L1, ev_L2, ev_L3, ev_K1, ev_K2, ev_K3, ev_K4, ev_K5, ev_a1, ev_m1, ev_s1, ev_s2, nI_add, ev_nle, ev_le, ev_lt, ev_nlt, ev_ne, ev_eq, ev_uI hL, ev_uJ hL, ev_m hL, ev_mr hL, ev_mt hL, ev_mz hL, ev_mj hL, ev_n8 hL, ev_n64 hL, ev_n229 hL, ev_n254 hL, ev_n257 hL, ev_n259 hL, ev_n260 hL, ev_n261 hL, ev_0 hL, ev_00 hL, ev_01 hL, ev_02 hL, ev_1 hL, ev_1n hL, ev_1r hL, ev_lg hL, ev_lr hL, ev_sr hL, ev_2 hL, ev_2n hL, ev_3 hL, ev_30 hL, ev_31 hL, ev_4 hL, ev_4n hL, ev_5 hL, ev_5n hL, ev_4r hL, ev_lt1 hL, ev_ltr hL, ev_lnt hL, ev_lnn hL, ev_7 hL, ev_7n hL, ev_uE, ev_uK]
theorem run_loop (hL : Lay S A ex) {many : Nat} (hm : many ≤ 1000) : ∀ (g i n m : Nat) (b : Nat) (Ic : gMI) (Jc : gMJ) (Ir : gMI) (Jr : gMJ), i + g = many → g < n → g < m → b + g < 2 ^ 30 → Rel (mI A Ic Ir) (mJ A Jc Jr) ex b → Ir (A 6) 0 = 0 → ∃ x Ic' Jc' Ir' Jr', f_H_run_b23 S n Ic Jc (A 0) (nI many) (nI i) = some (0, x, Ic', Jc') ∧ f_M_run_b22 S m Ir Jr (A 6) (nI many) (nI i) = some (x, Ir', Jr') ∧ Rel (mI A Ic' Ir') (mJ A Jc' Jr') ex (b + g) ∧ FrC A Ic Ic' ∧ FrC A Jc Jc' ∧ FrR A Ir Ir' ∧ FrR A Jr Jr' ∧ Ir' (A 6) 0 = 0 := by
  intro g
  induction g with
  | zero =>
    intro i n m b Ic Jc Ir Jr hi hn hm' hb h h0
    obtain ⟨n, rfl⟩ : ∃ k, n = k + 1 := ⟨n - 1, by omega⟩
    obtain ⟨m, rfl⟩ : ∃ k, m = k + 1 := ⟨m - 1, by omega⟩
    obtain rfl : i = many := by omega
    refine ⟨nI i, Ic, Jc, Ir, Jr, ?_, ?_, h, FrC.rfl, FrC.rfl, FrR.rfl, FrR.rfl, h0⟩
    · simp (disch := omega) only [f_H_run_b23, f_H_run_b56, ↓bnd_in, ↓Option.bind_some, ↓bd2_some, ↓bd3_some, ↓bd4_some, ↓ew_mr hL, ↓ew_00 hL, ↓ew_01 hL, ↓ew_02 hL, ↓ew_1r hL, ↓ew_lr hL, ↓ew_30 hL, ↓ew_31 hL, ↓ew_4r hL, ↓ew_ltr hL, ↓gd_m hL, ↓gd_0 hL, gd_t, Option.bind_some, bd2_some, bd3_some, bd4_some, gm_some, gm_none, ↓reduceIte, or_self, or_false, false_or, or_true, true_or, and_self, and_true, true_and, and_false, false_and, not_false_eq_true, not_true_eq_false, Nat.reduceAdd, Nat.reduceMul, Int32.reduceLT, Int32.reduceLE, eq_self, ev_lit, ev_10, Int32.reduceToNatClampNeg, Nat.reduceLeDiff, Nat.reduceEqDiff, Nat.reduceLT, nI_clamp, ev_ng, ev_L1, ev_L2, ev_L3, ev_K1, ev_K2, ev_K3, ev_K4, ev_K5, ev_a1, ev_m1, ev_s1, ev_s2, nI_add, ev_nle, ev_le, ev_lt, ev_nlt, ev_ne, ev_eq, ev_uI hL, ev_uJ hL, ev_m hL, ev_mr hL, ev_mt hL, ev_mz hL, ev_mj hL, ev_n8 hL, ev_n64 hL, ev_n229 hL, ev_n254 hL, ev_n257 hL, ev_n259 hL, ev_n260 hL, ev_n261 hL, ev_0 hL, ev_00 hL, ev_01 hL, ev_02 hL, ev_1 hL, ev_1n hL, ev_1r hL, ev_lg hL, ev_lr hL, ev_sr hL, ev_2 hL, ev_2n hL, ev_3 hL, ev_30 hL, ev_31 hL, ev_4 hL, ev_4n hL, ev_5 hL, ev_5n hL, ev_4r hL, ev_lt1 hL, ev_ltr hL, ev_lnt hL, ev_lnn hL, ev_7 hL, ev_7n hL, ev_uE, ev_uK]
    · simp (disch := omega) only [f_M_run_b22, h0, f_M_run_b52, ↓bnd_in, ↓Option.bind_some, ↓bd2_some, ↓bd3_some, ↓bd4_some, ↓ew_mr hL, ↓ew_00 hL, ↓ew_01 hL, ↓ew_02 hL, ↓ew_1r hL, ↓ew_lr hL, ↓ew_30 hL, ↓ew_31 hL, ↓ew_4r hL, ↓ew_ltr hL, ↓gd_m hL, ↓gd_0 hL, gd_t, Option.bind_some, bd2_some, bd3_some, bd4_some, gm_some, gm_none, ↓reduceIte, or_self, or_false, false_or, or_true, true_or, and_self, and_true, true_and, and_false, false_and, not_false_eq_true, not_true_eq_false, Nat.reduceAdd, Nat.reduceMul, Int32.reduceLT, Int32.reduceLE, eq_self, ev_lit, ev_10, Int32.reduceToNatClampNeg, Nat.reduceLeDiff, Nat.reduceEqDiff, Nat.reduceLT, nI_clamp, ev_ng, ev_L1, ev_L2, ev_L3, ev_K1, ev_K2, ev_K3, ev_K4, ev_K5, ev_a1, ev_m1, ev_s1, ev_s2, nI_add, ev_nle, ev_le, ev_lt, ev_nlt, ev_ne, ev_eq, ev_uI hL, ev_uJ hL, ev_m hL, ev_mr hL, ev_mt hL, ev_mz hL, ev_mj hL, ev_n8 hL, ev_n64 hL, ev_n229 hL, ev_n254 hL, ev_n257 hL, ev_n259 hL, ev_n260 hL, ev_n261 hL, ev_0 hL, ev_00 hL, ev_01 hL, ev_02 hL, ev_1 hL, ev_1n hL, ev_1r hL, ev_lg hL, ev_lr hL, ev_sr hL, ev_2 hL, ev_2n hL, ev_3 hL, ev_30 hL, ev_31 hL, ev_4 hL, ev_4n hL, ev_5 hL, ev_5n hL, ev_4r hL, ev_lt1 hL, ev_ltr hL, ev_lnt hL, ev_lnn hL, ev_7 hL, ev_7n hL, ev_uE, ev_uK]
  | succ g ih =>
    intro i n m b Ic Jc Ir Jr hi hn hm' hb h h0
    obtain ⟨n, rfl⟩ : ∃ k, n = k + 1 := ⟨n - 1, by omega⟩
    obtain ⟨m, rfl⟩ : ∃ k, m = k + 1 := ⟨m - 1, by omega⟩
    obtain ⟨sz, c, pi, am, fz, cm, gc, nu, N, h1⟩ := h.ghosts
    obtain ⟨pc, p2, p3, -⟩ := h1.2.2.1
    rw [mI_c (by omega)] at p2
    rw [mI_r (by omega)] at p3
    by_cases ec : c = 0
    · rw [ec] at p2 p3
      have hz : nI 0 ≤ 0 := by decide
      refine ⟨nI i, Ic, Jc, Ir, Jr, ?_, ?_, h.mono (by omega), FrC.rfl, FrC.rfl, FrR.rfl, FrR.rfl, h0⟩
      · simp (disch := omega) only [f_H_run_b23, f_H_run_b56, p2, hz, ↓bnd_in, ↓Option.bind_some, ↓bd2_some, ↓bd3_some, ↓bd4_some, ↓ew_mr hL, ↓ew_00 hL, ↓ew_01 hL, ↓ew_02 hL, ↓ew_1r hL, ↓ew_lr hL, ↓ew_30 hL, ↓ew_31 hL, ↓ew_4r hL, ↓ew_ltr hL, ↓gd_m hL, ↓gd_0 hL, gd_t, Option.bind_some, bd2_some, bd3_some, bd4_some, gm_some, gm_none, ↓reduceIte, or_self, or_false, false_or, or_true, true_or, and_self, and_true, true_and, and_false, false_and, not_false_eq_true, not_true_eq_false, Nat.reduceAdd, Nat.reduceMul, Int32.reduceLT, Int32.reduceLE, eq_self, ev_lit, ev_10, Int32.reduceToNatClampNeg, Nat.reduceLeDiff, Nat.reduceEqDiff, Nat.reduceLT, nI_clamp, ev_ng, ev_L1, ev_L2, ev_L3, ev_K1, ev_K2, ev_K3, ev_K4, ev_K5, ev_a1, ev_m1, ev_s1, ev_s2, nI_add, ev_nle, ev_le, ev_lt, ev_nlt, ev_ne, ev_eq, ev_uI hL, ev_uJ hL, ev_m hL, ev_mr hL, ev_mt hL, ev_mz hL, ev_mj hL, ev_n8 hL, ev_n64 hL, ev_n229 hL, ev_n254 hL, ev_n257 hL, ev_n259 hL, ev_n260 hL, ev_n261 hL, ev_0 hL, ev_00 hL, ev_01 hL, ev_02 hL, ev_1 hL, ev_1n hL, ev_1r hL, ev_lg hL, ev_lr hL, ev_sr hL, ev_2 hL, ev_2n hL, ev_3 hL, ev_30 hL, ev_31 hL, ev_4 hL, ev_4n hL, ev_5 hL, ev_5n hL, ev_4r hL, ev_lt1 hL, ev_ltr hL, ev_lnt hL, ev_lnn hL, ev_7 hL, ev_7n hL, ev_uE, ev_uK]
      · simp (disch := omega) only [f_M_run_b22, h0, f_M_run_b52, p3, hz, ↓bnd_in, ↓Option.bind_some, ↓bd2_some, ↓bd3_some, ↓bd4_some, ↓ew_mr hL, ↓ew_00 hL, ↓ew_01 hL, ↓ew_02 hL, ↓ew_1r hL, ↓ew_lr hL, ↓ew_30 hL, ↓ew_31 hL, ↓ew_4r hL, ↓ew_ltr hL, ↓gd_m hL, ↓gd_0 hL, gd_t, Option.bind_some, bd2_some, bd3_some, bd4_some, gm_some, gm_none, ↓reduceIte, or_self, or_false, false_or, or_true, true_or, and_self, and_true, true_and, and_false, false_and, not_false_eq_true, not_true_eq_false, Nat.reduceAdd, Nat.reduceMul, Int32.reduceLT, Int32.reduceLE, eq_self, ev_lit, ev_10, Int32.reduceToNatClampNeg, Nat.reduceLeDiff, Nat.reduceEqDiff, Nat.reduceLT, nI_clamp, ev_ng, ev_L1, ev_L2, ev_L3, ev_K1, ev_K2, ev_K3, ev_K4, ev_K5, ev_a1, ev_m1, ev_s1, ev_s2, nI_add, ev_nle, ev_le, ev_lt, ev_nlt, ev_ne, ev_eq, ev_uI hL, ev_uJ hL, ev_m hL, ev_mr hL, ev_mt hL, ev_mz hL, ev_mj hL, ev_n8 hL, ev_n64 hL, ev_n229 hL, ev_n254 hL, ev_n257 hL, ev_n259 hL, ev_n260 hL, ev_n261 hL, ev_0 hL, ev_00 hL, ev_01 hL, ev_02 hL, ev_1 hL, ev_1n hL, ev_1r hL, ev_lg hL, ev_lr hL, ev_sr hL, ev_2 hL, ev_2n hL, ev_3 hL, ev_30 hL, ev_31 hL, ev_4 hL, ev_4n hL, ev_5 hL, ev_5n hL, ev_4r hL, ev_lt1 hL, ev_ltr hL, ev_lnt hL, ev_lnn hL, ev_7 hL, ev_7n hL, ev_uE, ev_uK]
    · have hz : ¬ nI c ≤ 0 := fun e => by
        have := (nI_leI (a := c) (b := 0) (by omega) (by omega)).mp e
        omega
      obtain ⟨s, Ic1, Ic2, Jc2, Ir2, Jr2, s1, s2, s3, s4, s5, s6, s7, s8, s9⟩ := del_both hL (by omega) h1 (show 0 < c by omega)
      obtain ⟨x, Ic', Jc', Ir', Jr', y1, y2, y3, y4, y5, y6, y7, y8⟩ := ih (i + 1) n m (b + 1) Ic2 Jc2 Ir2 Jr2 (by omega) (by omega) (by omega) (by omega) s4 (by rw [s9]; exact h0)
      have s1' : f_Post_takeOut S Ic Jc (A 3) 0 = some (some s, Ic1) := s1 Jc
      have s3' : f_M_bring S Ir Jr (A 6) 0 = some (Ir2, Jr2) := s3
      refine ⟨x, Ic', Jc', Ir', Jr', ?_, ?_, y3.mono (by omega), s5.trans y4, s6.trans y5, s7.trans y6, s8.trans y7, y8⟩
      · rw [← y1]
        simp (disch := omega) only [f_H_run_b23, p2, hz, ↓b2_h s1', ↓b2_h s2, ↓bnd_in, ↓Option.bind_some, ↓bd2_some, ↓bd3_some, ↓bd4_some, ↓ew_mr hL, ↓ew_00 hL, ↓ew_01 hL, ↓ew_02 hL, ↓ew_1r hL, ↓ew_lr hL, ↓ew_30 hL, ↓ew_31 hL, ↓ew_4r hL, ↓ew_ltr hL, ↓gd_m hL, ↓gd_0 hL, gd_t, Option.bind_some, bd2_some, bd3_some, bd4_some, gm_some, gm_none, ↓reduceIte, or_self, or_false, false_or, or_true, true_or, and_self, and_true, true_and, and_false, false_and, not_false_eq_true, not_true_eq_false, Nat.reduceAdd, Nat.reduceMul, Int32.reduceLT, Int32.reduceLE, eq_self, ev_lit, ev_10, Int32.reduceToNatClampNeg, Nat.reduceLeDiff, Nat.reduceEqDiff, Nat.reduceLT, nI_clamp, ev_ng, ev_L1, ev_L2, ev_L3, ev_K1, ev_K2, ev_K3, ev_K4, ev_K5, ev_a1, ev_m1, ev_s1, ev_s2, nI_add, ev_nle, ev_le, ev_lt, ev_nlt, ev_ne, ev_eq, ev_uI hL, ev_uJ hL, ev_m hL, ev_mr hL, ev_mt hL, ev_mz hL, ev_mj hL, ev_n8 hL, ev_n64 hL, ev_n229 hL, ev_n254 hL, ev_n257 hL, ev_n259 hL, ev_n260 hL, ev_n261 hL, ev_0 hL, ev_00 hL, ev_01 hL, ev_02 hL, ev_1 hL, ev_1n hL, ev_1r hL, ev_lg hL, ev_lr hL, ev_sr hL, ev_2 hL, ev_2n hL, ev_3 hL, ev_30 hL, ev_31 hL, ev_4 hL, ev_4n hL, ev_5 hL, ev_5n hL, ev_4r hL, ev_lt1 hL, ev_ltr hL, ev_lnt hL, ev_lnn hL, ev_7 hL, ev_7n hL, ev_uE, ev_uK]
      · rw [← y2]
        simp (disch := omega) only [f_M_run_b22, h0, p3, hz, ↓b2_h s3', ↓bnd_in, ↓Option.bind_some, ↓bd2_some, ↓bd3_some, ↓bd4_some, ↓ew_mr hL, ↓ew_00 hL, ↓ew_01 hL, ↓ew_02 hL, ↓ew_1r hL, ↓ew_lr hL, ↓ew_30 hL, ↓ew_31 hL, ↓ew_4r hL, ↓ew_ltr hL, ↓gd_m hL, ↓gd_0 hL, gd_t, Option.bind_some, bd2_some, bd3_some, bd4_some, gm_some, gm_none, ↓reduceIte, or_self, or_false, false_or, or_true, true_or, and_self, and_true, true_and, and_false, false_and, not_false_eq_true, not_true_eq_false, Nat.reduceAdd, Nat.reduceMul, Int32.reduceLT, Int32.reduceLE, eq_self, ev_lit, ev_10, Int32.reduceToNatClampNeg, Nat.reduceLeDiff, Nat.reduceEqDiff, Nat.reduceLT, nI_clamp, ev_ng, ev_L1, ev_L2, ev_L3, ev_K1, ev_K2, ev_K3, ev_K4, ev_K5, ev_a1, ev_m1, ev_s1, ev_s2, nI_add, ev_nle, ev_le, ev_lt, ev_nlt, ev_ne, ev_eq, ev_uI hL, ev_uJ hL, ev_m hL, ev_mr hL, ev_mt hL, ev_mz hL, ev_mj hL, ev_n8 hL, ev_n64 hL, ev_n229 hL, ev_n254 hL, ev_n257 hL, ev_n259 hL, ev_n260 hL, ev_n261 hL, ev_0 hL, ev_00 hL, ev_01 hL, ev_02 hL, ev_1 hL, ev_1n hL, ev_1r hL, ev_lg hL, ev_lr hL, ev_sr hL, ev_2 hL, ev_2n hL, ev_3 hL, ev_30 hL, ev_31 hL, ev_4 hL, ev_4n hL, ev_5 hL, ev_5n hL, ev_4r hL, ev_lt1 hL, ev_ltr hL, ev_lnt hL, ev_lnn hL, ev_7 hL, ev_7n hL, ev_uE, ev_uK]
theorem op_run (hL : Lay S A ex) (hb : b + 1000 < 2 ^ 30) (hr : Rel (cI A I) (cJ A J) ex b) (v : Int32) : ∃ k I1 J1 r I2 J2, f_L_run S I J (A 0) v (A 7) = some (k, I1, J1) ∧ f_M_run S I1 J1 (A 6) v = some (r, I2, J2) ∧ I2 (A 6) 0 = k ∧ (k = 0 → J2 (A 7) 0 = r.toInt64) ∧ Rel (cI A I2) (cJ A J2) ex (b + 1000) := by
  by_cases hv : v < 0 ∨ ¬ v ≤ 1000
  · refine ⟨1, I, J, 0, upI I (A 6) 0 1, J, ?_, ?_, ev_uE, fun q => absurd q (by decide), (hr.th hL 1).mono (by omega)⟩
    · have : f_H_run S I J (A 0) v = some (2, 0, I, J) := by
        rw [f_H_run]
        rcases hv with h | h
        · rw [if_pos h, f_H_run_b11]
        · by_cases h0 : v < 0
          · rw [if_pos h0, f_H_run_b11]
          · rw [if_neg h0, if_neg h, f_H_run_b11]
      simp (disch := omega) only [f_L_run, ↓b4_h this, ↓bnd_in, ↓Option.bind_some, ↓bd2_some, ↓bd3_some, ↓bd4_some, ↓ew_mr hL, ↓ew_00 hL, ↓ew_01 hL, ↓ew_02 hL, ↓ew_1r hL, ↓ew_lr hL, ↓ew_30 hL, ↓ew_31 hL, ↓ew_4r hL, ↓ew_ltr hL, ↓gd_m hL, ↓gd_0 hL, gd_t, Option.bind_some, bd2_some, bd3_some, bd4_some, gm_some, gm_none, ↓reduceIte, or_self, or_false, false_or, or_true, true_or, and_self, and_true, true_and, and_false, false_and, not_false_eq_true, not_true_eq_false, Nat.reduceAdd, Nat.reduceMul, Int32.reduceLT, Int32.reduceLE, eq_self, ev_lit, ev_10, Int32.reduceToNatClampNeg, Nat.reduceLeDiff, Nat.reduceEqDiff, Nat.reduceLT, nI_clamp, ev_ng, ev_L1, ev_L2, ev_L3, ev_K1, ev_K2, ev_K3, ev_K4, ev_K5, ev_a1, ev_m1, ev_s1, ev_s2, nI_add, ev_nle, ev_le, ev_lt, ev_nlt, ev_ne, ev_eq, ev_uI hL, ev_uJ hL, ev_m hL, ev_mr hL, ev_mt hL, ev_mz hL, ev_mj hL, ev_n8 hL, ev_n64 hL, ev_n229 hL, ev_n254 hL, ev_n257 hL, ev_n259 hL, ev_n260 hL, ev_n261 hL, ev_0 hL, ev_00 hL, ev_01 hL, ev_02 hL, ev_1 hL, ev_1n hL, ev_1r hL, ev_lg hL, ev_lr hL, ev_sr hL, ev_2 hL, ev_2n hL, ev_3 hL, ev_30 hL, ev_31 hL, ev_4 hL, ev_4n hL, ev_5 hL, ev_5n hL, ev_4r hL, ev_lt1 hL, ev_ltr hL, ev_lnt hL, ev_lnn hL, ev_7 hL, ev_7n hL, ev_uE, ev_uK]
    · have hb12 : f_M_run_b12 S I J (A 6) (A 6) v = some (0, upI I (A 6) 0 1, J) := by
        have e1 : ∀ n, f_M_run_b22 S (n + 1) (upI I (A 6) 0 1) J (A 6) v 0 = some (0, upI I (A 6) 0 1, J) := fun n => by
          rw [f_M_run_b22, gd_m hL, ev_uE, if_neg (by decide), f_M_run_b52]
        have e2 : gFuel = 9999 + 1 := rfl
        rw [f_M_run_b12, f_M_run_b17, gd_m hL, bnd_in, e2, e1]
      rw [f_M_run]
      rcases hv with h | h
      · rw [if_pos h, hb12]
      · by_cases h0 : v < 0
        · rw [if_pos h0, hb12]
        · rw [if_neg h0, if_neg h, hb12]
  · have hv0 : ¬ v < 0 := fun e => hv (Or.inl e)
    have hv1 : v ≤ 1000 := by
      by_cases e : v ≤ 1000
      · exact e
      · exact absurd (Or.inr e) hv
    obtain ⟨many, hm, rfl⟩ : ∃ many : Nat, many ≤ 1000 ∧ v = nI many := by
      have a1 := Int32.le_iff_toInt_le.mp hv1
      have a2 : ¬ v.toInt < 0 := fun e => hv0 (Int32.lt_iff_toInt_lt.mpr e)
      rw [show (1000 : Int32).toInt = 1000 from rfl] at a1
      exact ⟨v.toInt.toNat, by omega, Int32.toInt_inj.mp (by rw [nI_toInt (by omega)]; omega)⟩
    obtain ⟨y, Ic', Jc', y', I2, J2, g1, g2, g3, g4, g5, g6⟩ := seq_of (b' := b + 1000) (F := fun y Ic' Jc' => f_H_run S I J (A 0) (nI many) = some (0, y, Ic', Jc')) (G := fun Ir Jr y Ir' Jr' => f_M_run S Ir Jr (A 6) (nI many) = some (y, Ir', Jr')) (P := fun x y => x = y) hL (fun x I1 J1 x' I2 J2 a1 a2 => by
        rw [a1] at a2
        simp only [Option.some.injEq, Prod.mk.injEq, true_and] at a2
        exact a2) hr (fun Ir Jr h' => by
      obtain ⟨x, Ic', Jc', Ir', Jr', y1, y2, y3, y4, y5, y6, y7, y8⟩ := run_loop hL hm many 0 gFuel gFuel b I J (upI Ir (A 6) 0 0) Jr (by omega) (by unfold gFuel; omega) (by unfold gFuel; omega) (by omega) (h'.th0 hL 0) ev_uE
      refine ⟨x, Ic', Jc', x, Ir', Jr', ?_, ?_, rfl, y8, y3.mono (by omega), y4, y5, fun d k hd => by rw [y6 d k hd, ev_uI hL (by omega)], y7⟩
      · rw [f_H_run, if_neg hv0, if_pos hv1]
        exact y1
      · rw [f_M_run, if_neg hv0, if_pos hv1, f_M_run_b17, gd_m hL, bnd_in]
        exact y2) (fun x => x.toInt64)
    subst g3
    refine ⟨0, Ic', _, y, I2, J2, ?_, g2, g4, fun _ => g5, g6⟩
    simp (disch := omega) only [f_L_run, ↓b4_h g1, ↓bnd_in, ↓Option.bind_some, ↓bd2_some, ↓bd3_some, ↓bd4_some, ↓ew_mr hL, ↓ew_00 hL, ↓ew_01 hL, ↓ew_02 hL, ↓ew_1r hL, ↓ew_lr hL, ↓ew_30 hL, ↓ew_31 hL, ↓ew_4r hL, ↓ew_ltr hL, ↓gd_m hL, ↓gd_0 hL, gd_t, Option.bind_some, bd2_some, bd3_some, bd4_some, gm_some, gm_none, ↓reduceIte, or_self, or_false, false_or, or_true, true_or, and_self, and_true, true_and, and_false, false_and, not_false_eq_true, not_true_eq_false, Nat.reduceAdd, Nat.reduceMul, Int32.reduceLT, Int32.reduceLE, eq_self, ev_lit, ev_10, Int32.reduceToNatClampNeg, Nat.reduceLeDiff, Nat.reduceEqDiff, Nat.reduceLT, nI_clamp, ev_ng, ev_L1, ev_L2, ev_L3, ev_K1, ev_K2, ev_K3, ev_K4, ev_K5, ev_a1, ev_m1, ev_s1, ev_s2, nI_add, ev_nle, ev_le, ev_lt, ev_nlt, ev_ne, ev_eq, ev_uI hL, ev_uJ hL, ev_m hL, ev_mr hL, ev_mt hL, ev_mz hL, ev_mj hL, ev_n8 hL, ev_n64 hL, ev_n229 hL, ev_n254 hL, ev_n257 hL, ev_n259 hL, ev_n260 hL, ev_n261 hL, ev_0 hL, ev_00 hL, ev_01 hL, ev_02 hL, ev_1 hL, ev_1n hL, ev_1r hL, ev_lg hL, ev_lr hL, ev_sr hL, ev_2 hL, ev_2n hL, ev_3 hL, ev_30 hL, ev_31 hL, ev_4 hL, ev_4n hL, ev_5 hL, ev_5n hL, ev_4r hL, ev_lt1 hL, ev_ltr hL, ev_lnt hL, ev_lnn hL, ev_7 hL, ev_7n hL, ev_uE, ev_uK]
end DELIVER
