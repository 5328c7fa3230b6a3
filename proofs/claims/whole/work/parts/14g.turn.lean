-- A new turn; takeOver
section TURN
variable {S : gS} {A : Nat → Nat} {ex : Nat → Bool} {b N c : Nat} {sz pi am nu : Nat → Nat} {fz : Nat → Nat → Option Nat} {cm : Nat → Nat → Bool} {gc : Nat → Nat → Nat} {I Ic Ir : gMI} {J Jc Jr : gMJ}
theorem turn_c (hL : Lay S A ex) {q : Nat} (hq : q < 8) (he : ex q = true) (dr : Int32) (I : gMI) (J : gMJ) : ∃ I2, f_Question_beginTurn S I J (A (300 + 40 * q)) dr = some I2 ∧ I2 (A (300 + 40 * q)) 10 = dr ∧ I2 (A (300 + 40 * q)) 11 = I (A (300 + 40 * q)) 11 + 1 ∧ I2 (A (300 + 40 * q)) 12 = 0 ∧ I2 (A (300 + 40 * q)) 13 = 0 ∧ I2 (A (300 + 40 * q)) 15 = 0 ∧ I2 (A (300 + 40 * q)) 14 = 0 ∧ I2 (A (300 + 40 * q)) 5 = 1 ∧ I2 (A (300 + 40 * q + 4)) 6 = 0 ∧ ∀ d k, ¬ (d = 300 + 40 * q ∧ (k = 5 ∨ (10 ≤ k ∧ k ≤ 15))) → ¬ (d = 300 + 40 * q + 4 ∧ k = 6) → I2 (A d) k = I (A d) k := by
  obtain ⟨⟨t0, t1, t2, t3, t4, t5⟩, -, -, -, -, w0, -⟩ := (hL.qy hq he).2
  obtain ⟨I2, hI2⟩ : ∃ I2 : gMI, I2 = upI (upI (upI (upI (upI (upI (upI (upI I (A (300 + 40 * q)) 10 dr) (A (300 + 40 * q)) 11 (I (A (300 + 40 * q)) 11 + 1)) (A (300 + 40 * q)) 12 0) (A (300 + 40 * q)) 13 0) (A (300 + 40 * q)) 15 0) (A (300 + 40 * q + 4)) 6 0) (A (300 + 40 * q)) 14 0) (A (300 + 40 * q)) 5 1 := ⟨_, rfl⟩
  refine ⟨I2, ?_, ?_, ?_, ?_, ?_, ?_, ?_, ?_, ?_, fun d k d1 d2 => ?_⟩
  · rw [hI2]
    simp (disch := omega) only [f_Question_beginTurn, t0, ↓ob_h t4, w0, ↓bnd_in, ↓Option.bind_some, ↓bd2_some, ↓bd3_some, ↓bd4_some, ↓ew_mr hL, ↓ew_00 hL, ↓ew_01 hL, ↓ew_02 hL, ↓ew_1r hL, ↓ew_lr hL, ↓ew_30 hL, ↓ew_31 hL, ↓ew_4r hL, ↓ew_ltr hL, ↓gd_m hL, ↓gd_0 hL, gd_t, Option.bind_some, bd2_some, bd3_some, bd4_some, gm_some, gm_none, ↓reduceIte, or_self, or_false, false_or, or_true, true_or, and_self, and_true, true_and, and_false, false_and, not_false_eq_true, not_true_eq_false, Nat.reduceAdd, Nat.reduceMul, Int32.reduceLT, Int32.reduceLE, eq_self, ev_lit, ev_10, Int32.reduceToNatClampNeg, Nat.reduceLeDiff, Nat.reduceEqDiff, Nat.reduceLT, nI_clamp, ev_ng, ev_L1, ev_L2, ev_L3, ev_K1, ev_K2, ev_K3, ev_K4, ev_K5, ev_a1, ev_m1, ev_s1, ev_s2, nI_add, ev_nle, ev_le, ev_lt, ev_nlt, ev_ne, ev_eq, ev_uI hL, ev_uJ hL, ev_m hL, ev_mr hL, ev_mt hL, ev_mz hL, ev_mj hL, ev_n8 hL, ev_n64 hL, ev_n229 hL, ev_n254 hL, ev_n257 hL, ev_n259 hL, ev_n260 hL, ev_n261 hL, ev_0 hL, ev_00 hL, ev_01 hL, ev_02 hL, ev_1 hL, ev_1n hL, ev_1r hL, ev_lg hL, ev_lr hL, ev_sr hL, ev_2 hL, ev_2n hL, ev_3 hL, ev_30 hL, ev_31 hL, ev_4 hL, ev_4n hL, ev_5 hL, ev_5n hL, ev_4r hL, ev_lt1 hL, ev_ltr hL, ev_lnt hL, ev_lnn hL, ev_7 hL, ev_7n hL, ev_uE, ev_uK]
  all_goals
    rw [hI2]
    simp (disch := omega) only [↓bnd_in, ↓Option.bind_some, ↓bd2_some, ↓bd3_some, ↓bd4_some, ↓ew_mr hL, ↓ew_00 hL, ↓ew_01 hL, ↓ew_02 hL, ↓ew_1r hL, ↓ew_lr hL, ↓ew_30 hL, ↓ew_31 hL, ↓ew_4r hL, ↓ew_ltr hL, ↓gd_m hL, ↓gd_0 hL, gd_t, Option.bind_some, bd2_some, bd3_some, bd4_some, gm_some, gm_none, ↓reduceIte, or_self, or_false, false_or, or_true, true_or, and_self, and_true, true_and, and_false, false_and, not_false_eq_true, not_true_eq_false, Nat.reduceAdd, Nat.reduceMul, Int32.reduceLT, Int32.reduceLE, eq_self, ev_lit, ev_10, Int32.reduceToNatClampNeg, Nat.reduceLeDiff, Nat.reduceEqDiff, Nat.reduceLT, nI_clamp, ev_ng, ev_L1, ev_L2, ev_L3, ev_K1, ev_K2, ev_K3, ev_K4, ev_K5, ev_a1, ev_m1, ev_s1, ev_s2, nI_add, ev_nle, ev_le, ev_lt, ev_nlt, ev_ne, ev_eq, ev_uI hL, ev_uJ hL, ev_m hL, ev_mr hL, ev_mt hL, ev_mz hL, ev_mj hL, ev_n8 hL, ev_n64 hL, ev_n229 hL, ev_n254 hL, ev_n257 hL, ev_n259 hL, ev_n260 hL, ev_n261 hL, ev_0 hL, ev_00 hL, ev_01 hL, ev_02 hL, ev_1 hL, ev_1n hL, ev_1r hL, ev_lg hL, ev_lr hL, ev_sr hL, ev_2 hL, ev_2n hL, ev_3 hL, ev_30 hL, ev_31 hL, ev_4 hL, ev_4n hL, ev_5 hL, ev_5n hL, ev_4r hL, ev_lt1 hL, ev_ltr hL, ev_lnt hL, ev_lnn hL, ev_7 hL, ev_7n hL, ev_uE, ev_uK]
theorem turn_r (hL : Lay S A ex) {q : Nat} (hq : q < 8) (dr : Int32) (I : gMI) (J : gMJ) : ∃ I2, (∀ r, f_M_askAll S I2 J (A 6) (nI q) 1 = some r → f_M_begin S I J (A 6) (nI q) dr = some r) ∧ I2 (A 235) q = dr ∧ I2 (A 236) q = I (A 236) q + 1 ∧ I2 (A 237) q = 0 ∧ I2 (A 238) q = 0 ∧ I2 (A 239) q = 0 ∧ I2 (A 240) q = 0 ∧ I2 (A 241) q = 0 ∧ ∀ d k, ¬ (235 ≤ d ∧ d ≤ 241 ∧ k = q) → I2 (A d) k = I (A d) k := by
  obtain ⟨I2, hI2⟩ : ∃ I2 : gMI, I2 = upI (upI (upI (upI (upI (upI (upI I (A 235) q dr) (A 236) q (I (A 236) q + 1)) (A 237) q 0) (A 238) q 0) (A 239) q 0) (A 240) q 0) (A 241) q 0 := ⟨_, rfl⟩
  refine ⟨I2, fun r hr => ?_, ?_, ?_, ?_, ?_, ?_, ?_, ?_, fun d k d1 => ?_⟩
  · obtain ⟨r1, r2⟩ := r
    rw [hI2] at hr
    simp (disch := omega) only [f_M_begin, ↓b2_h hr, ↓bnd_in, ↓Option.bind_some, ↓bd2_some, ↓bd3_some, ↓bd4_some, ↓ew_mr hL, ↓ew_00 hL, ↓ew_01 hL, ↓ew_02 hL, ↓ew_1r hL, ↓ew_lr hL, ↓ew_30 hL, ↓ew_31 hL, ↓ew_4r hL, ↓ew_ltr hL, ↓gd_m hL, ↓gd_0 hL, gd_t, Option.bind_some, bd2_some, bd3_some, bd4_some, gm_some, gm_none, ↓reduceIte, or_self, or_false, false_or, or_true, true_or, and_self, and_true, true_and, and_false, false_and, not_false_eq_true, not_true_eq_false, Nat.reduceAdd, Nat.reduceMul, Int32.reduceLT, Int32.reduceLE, eq_self, ev_lit, ev_10, Int32.reduceToNatClampNeg, Nat.reduceLeDiff, Nat.reduceEqDiff, Nat.reduceLT, nI_clamp, ev_ng, ev_L1, ev_L2, ev_L3, ev_K1, ev_K2, ev_K3, ev_K4, ev_K5, ev_a1, ev_m1, ev_s1, ev_s2, nI_add, ev_nle, ev_le, ev_lt, ev_nlt, ev_ne, ev_eq, ev_uI hL, ev_uJ hL, ev_m hL, ev_mr hL, ev_mt hL, ev_mz hL, ev_mj hL, ev_n8 hL, ev_n64 hL, ev_n229 hL, ev_n254 hL, ev_n257 hL, ev_n259 hL, ev_n260 hL, ev_n261 hL, ev_0 hL, ev_00 hL, ev_01 hL, ev_02 hL, ev_1 hL, ev_1n hL, ev_1r hL, ev_lg hL, ev_lr hL, ev_sr hL, ev_2 hL, ev_2n hL, ev_3 hL, ev_30 hL, ev_31 hL, ev_4 hL, ev_4n hL, ev_5 hL, ev_5n hL, ev_4r hL, ev_lt1 hL, ev_ltr hL, ev_lnt hL, ev_lnn hL, ev_7 hL, ev_7n hL, ev_uE, ev_uK]
  all_goals
    rw [hI2]
    simp (disch := omega) only [↓bnd_in, ↓Option.bind_some, ↓bd2_some, ↓bd3_some, ↓bd4_some, ↓ew_mr hL, ↓ew_00 hL, ↓ew_01 hL, ↓ew_02 hL, ↓ew_1r hL, ↓ew_lr hL, ↓ew_30 hL, ↓ew_31 hL, ↓ew_4r hL, ↓ew_ltr hL, ↓gd_m hL, ↓gd_0 hL, gd_t, Option.bind_some, bd2_some, bd3_some, bd4_some, gm_some, gm_none, ↓reduceIte, or_self, or_false, false_or, or_true, true_or, and_self, and_true, true_and, and_false, false_and, not_false_eq_true, not_true_eq_false, Nat.reduceAdd, Nat.reduceMul, Int32.reduceLT, Int32.reduceLE, eq_self, ev_lit, ev_10, Int32.reduceToNatClampNeg, Nat.reduceLeDiff, Nat.reduceEqDiff, Nat.reduceLT, nI_clamp, ev_ng, ev_L1, ev_L2, ev_L3, ev_K1, ev_K2, ev_K3, ev_K4, ev_K5, ev_a1, ev_m1, ev_s1, ev_s2, nI_add, ev_nle, ev_le, ev_lt, ev_nlt, ev_ne, ev_eq, ev_uI hL, ev_uJ hL, ev_m hL, ev_mr hL, ev_mt hL, ev_mz hL, ev_mj hL, ev_n8 hL, ev_n64 hL, ev_n229 hL, ev_n254 hL, ev_n257 hL, ev_n259 hL, ev_n260 hL, ev_n261 hL, ev_0 hL, ev_00 hL, ev_01 hL, ev_02 hL, ev_1 hL, ev_1n hL, ev_1r hL, ev_lg hL, ev_lr hL, ev_sr hL, ev_2 hL, ev_2n hL, ev_3 hL, ev_30 hL, ev_31 hL, ev_4 hL, ev_4n hL, ev_5 hL, ev_5n hL, ev_4r hL, ev_lt1 hL, ev_ltr hL, ev_lnt hL, ev_lnn hL, ev_7 hL, ev_7n hL, ev_uE, ev_uK]
theorem turn_both (hL : Lay S A ex) (hb : b + 1 < 2 ^ 30) {q dr : Nat} (hq : q < 8) (he : ex q = true) (hn : 0 < nu q) (hd8 : dr < 8) (h : R4 (mI A Ic Ir) (mJ A Jc Jr) ex b sz c pi am fz cm gc nu N) : ∃ I2 Ic' Jc' Ir' Jr' c' am', f_Question_beginTurn S Ic Jc (A (300 + 40 * q)) (nI dr) = some I2 ∧ f_H_askAll S I2 Jc (A 0) (A (300 + 40 * q)) = some (Ic', Jc') ∧ f_M_begin S Ir Jr (A 6) (nI q) (nI dr) = some (Ir', Jr') ∧ R4 (mI A Ic' Ir') (mJ A Jc' Jr') ex (b + 1) sz c' pi am' fz (fun p => if p = q then fun _ => false else cm p) gc nu N ∧ FrC A Ic Ic' ∧ FrC A Jc Jc' ∧ FrR A Ir Ir' ∧ FrR A Jr Jr' ∧ Ir' (A 6) 0 = Ir (A 6) 0 := by
  obtain ⟨Ic2, x1, x2, x3, x4, x5, x6, x7, x8, x9, x10⟩ := turn_c hL hq he (nI dr) Ic Jc
  obtain ⟨Ir2, y1, y2, y3, y4, y5, y6, y7, y8, y9⟩ := turn_r hL hq (nI dr) Ir Jr
  have hf := ((h.2.2.2.1.2.2.2.2.2 q hq).1 he).1
  unfold RQf at hf
  simp (disch := omega) only [mI_c, mI_r, mJ_c, mJ_r] at hf
  obtain ⟨f6, f7, f8, f9, f10, f11, f12, f14, f13, f15, g6, f5⟩ := hf
  obtain ⟨Ic', Jc', Ir', Jr', c', am', s1, s2, s3, s4, s5, s6, s7, s8⟩ := ask_all (b := b + 1) (N := N) (sz := sz) (pi := pi) (nu := nu) (fz := fz) (gc := gc) (c := c) (am := am) (Ic := Ic2) (Ir := Ir2) (Jc := Jc) (Jr := Jr) (kd := 1) (cm := fun p => if p = q then fun _ => false else cm p) hL (by omega) hq he hn (fun l hl => by rw [if_pos rfl]) (fun Ic1 Ir1 p1 p2 p3 p4 p5 r1 r2 r3 r4 => by
    have es : Ir1 (A 238) q = 0 := by rw [r4 _ _ (by omega) (by omega) (by omega)]; exact y5
    refine ⟨step_rel h hq he hn (fun d k hd => ?_) (fun d k hd d1 d2 => ?_) ?_ (fun l hl => ?_) ?_ ?_ ?_ ?_ ?_ ?_ ?_ ?_ ?_ ?_ ?_, es⟩
    · unfold stQ at hd
      by_cases e : d = 6 ∨ (226 ≤ d ∧ d < 263)
      · rw [mI_r e, mI_r e, r4 _ _ (by omega) (by omega) (by omega), y9 _ _ (by omega)]
      · rw [mI_c e, mI_c e, p5 _ _ (by omega) (by omega) (by omega) (by omega), x10 _ _ (by omega) (by omega)]
    · unfold stQ at hd
      by_cases e : d = 6 ∨ (226 ≤ d ∧ d < 263)
      · rw [mJ_r e, mJ_r e]
      · rw [mJ_c e, mJ_c e, ev_uJ hL (by omega)]
    · unfold RQf
      simp (disch := omega) only [mI_c, mI_r, mJ_c, mJ_r]
      refine ⟨?_, ?_, ?_, ?_, ?_, ?_, ?_, ?_, ?_, ?_, ?_, ?_⟩
      · rw [p5 _ _ (by omega) (by omega) (by omega) (by omega), x10 _ _ (by omega) (by omega), r4 _ _ (by omega) (by omega) (by omega), y9 _ _ (by omega)]; exact f6
      · rw [p5 _ _ (by omega) (by omega) (by omega) (by omega), x10 _ _ (by omega) (by omega), r4 _ _ (by omega) (by omega) (by omega), y9 _ _ (by omega)]; exact f7
      · rw [p5 _ _ (by omega) (by omega) (by omega) (by omega), x10 _ _ (by omega) (by omega), r4 _ _ (by omega) (by omega) (by omega), y9 _ _ (by omega)]; exact f8
      · rw [p5 _ _ (by omega) (by omega) (by omega) (by omega), x10 _ _ (by omega) (by omega), r4 _ _ (by omega) (by omega) (by omega), y9 _ _ (by omega)]; exact f9
      · rw [p5 _ _ (by omega) (by omega) (by omega) (by omega), x2, r4 _ _ (by omega) (by omega) (by omega), y2]
      · rw [p5 _ _ (by omega) (by omega) (by omega) (by omega), x3, r4 _ _ (by omega) (by omega) (by omega), y3, f11]
      · rw [p1, x4, r2, y4]
      · rw [p5 _ _ (by omega) (by omega) (by omega) (by omega), x7, r4 _ _ (by omega) (by omega) (by omega), y5]
      · rw [p5 _ _ (by omega) (by omega) (by omega) (by omega), x5, r4 _ _ (by omega) (by omega) (by omega), y6]
      · rw [p5 _ _ (by omega) (by omega) (by omega) (by omega), x6, r4 _ _ (by omega) (by omega) (by omega), y7]
      · rw [p5 _ _ (by omega) (by omega) (by omega) (by omega), x9, r4 _ _ (by omega) (by omega) (by omega), y8]
      · rw [p5 _ _ (by omega) (by omega) (by omega) (by omega), x8, r1]
    · simp (disch := omega) only [mI_c, mI_r, mJ_c, mJ_r]
      exact ⟨p2 l hl, r3 l hl⟩
    · simp (disch := omega) only [mI_c, mI_r, mJ_c, mJ_r]
      exact p3
    · simp (disch := omega) only [mI_c, mI_r, mJ_c, mJ_r]
      exact ev_uK
    · simp (disch := omega) only [mI_c, mI_r, mJ_c, mJ_r]
      exact p4
    · have e1 : mI A Ic1 Ir1 242 q = 1 := by simp (disch := omega) only [mI_c, mI_r, mJ_c, mJ_r]; exact r1
      unfold RAs
      rw [e1]
      exact ⟨fun e => absurd e (by decide), fun e => absurd e (by decide), fun e => absurd e (by decide), fun e => absurd e (by decide), fun _ => ⟨fun e => absurd e (by decide), fun e => absurd e (by decide)⟩⟩
    · simp (disch := omega) only [mI_c, mI_r, mJ_c, mJ_r]; exact es
    · exact ⟨dr, hd8, by simp (disch := omega) only [mI_c, mI_r, mJ_c, mJ_r]; rw [r4 _ _ (by omega) (by omega) (by omega), y2]⟩
    · simp (disch := omega) only [mI_c, mI_r, mJ_c, mJ_r]; exact Or.inl r1
    · simp (disch := omega) only [mI_c, mI_r, mJ_c, mJ_r]; exact fun e => absurd r1 e
    · simp (disch := omega) only [mI_c, mI_r, mJ_c, mJ_r]; rw [r1]; exact fun e => absurd e (by decide)
    · simp (disch := omega) only [mI_c, mI_r, mJ_c, mJ_r]; rw [r1]; exact ⟨fun e => absurd e (by decide), fun e => absurd e (by decide), fun e => absurd e (by decide)⟩
    · intro tq sq e1 e2 l1 l2
      simp (disch := omega) only [mI_c, mI_r, mJ_c, mJ_r] at e1 e2
      refine ⟨tq + 1, 1, ?_, ?_, Or.inr ⟨rfl, rfl⟩⟩
      · simp (disch := omega) only [mI_c, mI_r, mJ_c, mJ_r]; rw [r4 _ _ (by omega) (by omega) (by omega), y3, e1, ev_a1]
      · simp (disch := omega) only [mI_c, mI_r, mJ_c, mJ_r]; rw [r2, y4]; rfl)
  refine ⟨Ic2, Ic', Jc', Ir', Jr', c', am', x1, s1, y1 _ s2, s3, fun d k hd => ?_, s5, fun d k hd => ?_, s7, ?_⟩
  · rw [s4 d k hd, x10 _ _ (by omega) (by omega)]
  · rw [s6 d k hd, y9 _ _ (by omega)]
  · rw [s8, y9 _ _ (by omega)]
theorem op_takeOver (hL : Lay S A ex) (hb : b + 1 < 2 ^ 30) (hr : Rel (cI A I) (cJ A J) ex b) (v dv : Int32) : ∃ k I1 J1 r I2 J2, f_L_takeOver S I J (A 0) v dv (A 7) = some (k, I1, J1) ∧ f_M_takeOver S I1 J1 (A 6) v dv = some (r, I2, J2) ∧ I2 (A 6) 0 = k ∧ (k = 0 → J2 (A 7) 0 = r.toInt64) ∧ Rel (cI A I2) (cJ A J2) ex (b + 1) := by
  have hr0 := hr
  obtain ⟨sz, c, pi, am, fz, cm, gc, nu, N, h⟩ := hr0.ghosts
  have hup : ∀ {I2 : gMI} {J2 : gMJ}, Rel (cI A I2) (cJ A J2) ex b → Rel (cI A I2) (cJ A J2) ex (b + 1) := fun hh => by
    obtain ⟨sz, c, pi, am, fz, cm, gc, nu, N, h0, h1, h2, h3, h4⟩ := hh
    refine ⟨sz, c, pi, am, fz, cm, gc, nu, N, by omega, h1, h2, h3, h4.1, fun q hq hn => ?_⟩
    obtain ⟨v1, tq, sq, w1, w2, w3⟩ := h4.2 q hq hn
    exact ⟨v1, tq, sq, by omega, by omega, w3⟩
  rw [← mI_self, ← mJ_self] at h
  rcases find_both2 hL h.nums v with ⟨q, hq, hn, rfl, he, f1, f2, f3⟩ | ⟨hv, f1, f2, f3⟩
  · have t0 := (hL.qy hq he).2.1.1
    have es : I (A (300 + 40 * q)) 14 = I (A 238) q := by
      have := ((h.2.2.2.1.2.2.2.2.2 q hq).1 he).1.2.2.2.2.2.2.2.1
      simp (disch := omega) only [mI_c, mI_r, mJ_c, mJ_r] at this
      exact this
    have hm1 : ¬ nI q = (-1 : Int32) := fun e => by
      have := (nI_pos' (n := q) (by omega))
      rw [e] at this
      exact absurd this (by decide)
    rcases H_needLogger (S := S) (I := I) (J := J) dv with ⟨dr, hd8, rfl, hl⟩ | ⟨ho, hl⟩
    · have hlo := H_loggerOf_in (I := I) (J := J) hL hd8
      have hnu := H_needUp (I := I) (J := J) hL hd8
      have hil : ∀ I J, f_M_isLogger S I J (nI dr) = some 1 := fun I J => M_isLogger_in hd8
      have hu := (h.2.1 dr hd8).1
      unfold RUp at hu
      simp (disch := omega) only [mI_c, mI_r, mJ_c, mJ_r] at hu
      rcases hu with ⟨u1, u2⟩ | ⟨u1, u2⟩
      · rw [u1, if_neg (by decide)] at hnu
        by_cases e0 : I (A 238) q = 0 ∨ I (A 238) q = 3
        · obtain ⟨x, Ic', Jc', y, I2, J2, g1, g2, g3, g4, g5, g6⟩ := seq_of (b' := b + 1) (F := fun x Ic' Jc' => f_H_takeOver S I J (A 0) (nI (nu q)) (nI dr) = some (0, x, Ic', Jc')) (G := fun Ir Jr y Ir' Jr' => f_M_takeOver S Ir Jr (A 6) (nI (nu q)) (nI dr) = some (y, Ir', Jr')) (P := fun x y => x = y) hL (fun x I1 J1 x' I2 J2 a1 a2 => by
              rw [a1] at a2
              simp only [Option.some.injEq, Prod.mk.injEq, true_and] at a2
              exact a2) hr (fun Ir Jr h' => by
            obtain ⟨sz, c, pi, am, fz, cm, gc, nu', N, h'⟩ := h'.ghosts
            have en := h'.nums
            have e9 : nu' q = nu q := by
              have a1 := (en.1 q hq).2.2.1 he
              have a2 := (h.nums.1 q hq).2.2.1 he
              have l1 := (en.1 q hq).1
              have l2 := (h.nums.1 q hq).1
              exact (nI_eq (by omega) (by omega)).mp (a1.symm.trans a2)
            have hn' : 0 < nu' q := by omega
            have s0 : Ir (A 238) q = I (A 238) q := by
              have := ((h'.2.2.2.1.2.2.2.2.2 q hq).1 he).1.2.2.2.2.2.2.2.1
              simp (disch := omega) only [mI_c, mI_r, mJ_c, mJ_r] at this
              rw [← this, es]
            have u3 : Ir (A 227) dr = 0 := by
              have := (h'.2.1 dr hd8).1
              unfold RUp at this
              simp (disch := omega) only [mI_c, mI_r, mJ_c, mJ_r] at this
              rcases this with ⟨_, a⟩ | ⟨a, _⟩
              · exact a
              · rw [u1] at a; exact absurd a (by decide)
            have hpl : ∀ J, f_M_placeOf S Ir J (A 6) (nI (nu q)) = some (nI q) := fun J => by
              rw [← e9]; exact place_hit2 hL en hq hn' 8 0 gFuel _ (by omega) (by unfold gFuel; omega) (Or.inl (by omega))
            have h1 : R4 (mI A I (upI Ir (A 6) 0 0)) (mJ A J Jr) ex b sz c pi am fz cm gc nu' N := h'.buf (fun d k d1 d2 => by
                by_cases e : d = 6 ∨ (226 ≤ d ∧ d < 263)
                · rw [mI_r e, mI_r e, ev_uI hL (by omega)]
                · rw [mI_c e, mI_c e]) (fun _ _ _ _ => rfl)
            obtain ⟨I3, Ic', Jc', Ir', Jr', c', am', s1, s2, s3, s4, s5, s6, s7, s8, s9⟩ := turn_both hL hb hq he hn' hd8 h1
            have ft : Ic' (A (300 + 40 * q)) 11 = Ir' (A 236) q := by
              have := ((s4.2.2.2.1.2.2.2.2.2 q hq).1 he).1.2.2.2.2.2.1
              simp (disch := omega) only [mI_c, mI_r, mJ_c, mJ_r] at this
              exact this
            refine ⟨Ic' (A (300 + 40 * q)) 11, Ic', Jc', Ir' (A 236) q, Ir', Jr', ?_, ?_, ft, ?_, s4.rel, s5, s6, fun d k hd => ?_, s8⟩
            · have hb39 : f_H_takeOver_b39 S I J (A 0) (nI dr) (A (300 + 40 * q)) = some (0, Ic' (A (300 + 40 * q)) 11, Ic', Jc') := by
                rw [f_H_takeOver_b39, gd_in t0, ob_h s1, gd_0 hL, b2_h s2]
              rw [f_H_takeOver, gd_0 hL, b2_h (f1 _), if_pos rfl, Option.bind_some, b2_h hlo, if_pos rfl, Option.bind_some, hnu, Option.bind_some, if_pos rfl, gd_in t0, es]
              rcases e0 with e0 | e0
              · rw [if_pos e0, hb39]
              · rw [if_neg (by rw [e0]; decide), if_pos e0, hb39]
            · have hb55 : f_M_takeOver_b55 S Ir Jr (A 6) (A 6) (nI dr) (nI q) = some (Ir' (A 236) q, Ir', Jr') := by
                simp (disch := omega) only [f_M_takeOver_b55, f_M_takeOver_b56, Int32.le_refl, ↓b2_h s3, ↓bnd_in, ↓Option.bind_some, ↓bd2_some, ↓bd3_some, ↓bd4_some, ↓ew_mr hL, ↓ew_00 hL, ↓ew_01 hL, ↓ew_02 hL, ↓ew_1r hL, ↓ew_lr hL, ↓ew_30 hL, ↓ew_31 hL, ↓ew_4r hL, ↓ew_ltr hL, ↓gd_m hL, ↓gd_0 hL, gd_t, Option.bind_some, bd2_some, bd3_some, bd4_some, gm_some, gm_none, ↓reduceIte, or_self, or_false, false_or, or_true, true_or, and_self, and_true, true_and, and_false, false_and, not_false_eq_true, not_true_eq_false, Nat.reduceAdd, Nat.reduceMul, Int32.reduceLT, Int32.reduceLE, eq_self, ev_lit, ev_10, Int32.reduceToNatClampNeg, Nat.reduceLeDiff, Nat.reduceEqDiff, Nat.reduceLT, nI_clamp, ev_ng, ev_L1, ev_L2, ev_L3, ev_K1, ev_K2, ev_K3, ev_K4, ev_K5, ev_a1, ev_m1, ev_s1, ev_s2, nI_add, ev_nle, ev_le, ev_lt, ev_nlt, ev_ne, ev_eq, ev_uI hL, ev_uJ hL, ev_m hL, ev_mr hL, ev_mt hL, ev_mz hL, ev_mj hL, ev_n8 hL, ev_n64 hL, ev_n229 hL, ev_n254 hL, ev_n257 hL, ev_n259 hL, ev_n260 hL, ev_n261 hL, ev_0 hL, ev_00 hL, ev_01 hL, ev_02 hL, ev_1 hL, ev_1n hL, ev_1r hL, ev_lg hL, ev_lr hL, ev_sr hL, ev_2 hL, ev_2n hL, ev_3 hL, ev_30 hL, ev_31 hL, ev_4 hL, ev_4n hL, ev_5 hL, ev_5n hL, ev_4r hL, ev_lt1 hL, ev_ltr hL, ev_lnt hL, ev_lnn hL, ev_7 hL, ev_7n hL, ev_uE, ev_uK]
              rcases e0 with e0 | e0
              · rw [e0] at s0
                simp (disch := omega) only [f_M_takeOver, ↓ob_h (hpl _), hm1, ↓ob_h (hil _ _), u3, s0, ↓bnd_in, ↓Option.bind_some, ↓bd2_some, ↓bd3_some, ↓bd4_some, ↓ew_mr hL, ↓ew_00 hL, ↓ew_01 hL, ↓ew_02 hL, ↓ew_1r hL, ↓ew_lr hL, ↓ew_30 hL, ↓ew_31 hL, ↓ew_4r hL, ↓ew_ltr hL, ↓gd_m hL, ↓gd_0 hL, gd_t, Option.bind_some, bd2_some, bd3_some, bd4_some, gm_some, gm_none, ↓reduceIte, or_self, or_false, false_or, or_true, true_or, and_self, and_true, true_and, and_false, false_and, not_false_eq_true, not_true_eq_false, Nat.reduceAdd, Nat.reduceMul, Int32.reduceLT, Int32.reduceLE, eq_self, ev_lit, ev_10, Int32.reduceToNatClampNeg, Nat.reduceLeDiff, Nat.reduceEqDiff, Nat.reduceLT, nI_clamp, ev_ng, ev_L1, ev_L2, ev_L3, ev_K1, ev_K2, ev_K3, ev_K4, ev_K5, ev_a1, ev_m1, ev_s1, ev_s2, nI_add, ev_nle, ev_le, ev_lt, ev_nlt, ev_ne, ev_eq, ev_uI hL, ev_uJ hL, ev_m hL, ev_mr hL, ev_mt hL, ev_mz hL, ev_mj hL, ev_n8 hL, ev_n64 hL, ev_n229 hL, ev_n254 hL, ev_n257 hL, ev_n259 hL, ev_n260 hL, ev_n261 hL, ev_0 hL, ev_00 hL, ev_01 hL, ev_02 hL, ev_1 hL, ev_1n hL, ev_1r hL, ev_lg hL, ev_lr hL, ev_sr hL, ev_2 hL, ev_2n hL, ev_3 hL, ev_30 hL, ev_31 hL, ev_4 hL, ev_4n hL, ev_5 hL, ev_5n hL, ev_4r hL, ev_lt1 hL, ev_ltr hL, ev_lnt hL, ev_lnn hL, ev_7 hL, ev_7n hL, ev_uE, ev_uK]
                exact hb55
              · rw [e0] at s0
                simp (disch := omega) only [f_M_takeOver, ↓ob_h (hpl _), hm1, ↓ob_h (hil _ _), u3, s0, ↓bnd_in, ↓Option.bind_some, ↓bd2_some, ↓bd3_some, ↓bd4_some, ↓ew_mr hL, ↓ew_00 hL, ↓ew_01 hL, ↓ew_02 hL, ↓ew_1r hL, ↓ew_lr hL, ↓ew_30 hL, ↓ew_31 hL, ↓ew_4r hL, ↓ew_ltr hL, ↓gd_m hL, ↓gd_0 hL, gd_t, Option.bind_some, bd2_some, bd3_some, bd4_some, gm_some, gm_none, ↓reduceIte, or_self, or_false, false_or, or_true, true_or, and_self, and_true, true_and, and_false, false_and, not_false_eq_true, not_true_eq_false, Nat.reduceAdd, Nat.reduceMul, Int32.reduceLT, Int32.reduceLE, eq_self, ev_lit, ev_10, Int32.reduceToNatClampNeg, Nat.reduceLeDiff, Nat.reduceEqDiff, Nat.reduceLT, nI_clamp, ev_ng, ev_L1, ev_L2, ev_L3, ev_K1, ev_K2, ev_K3, ev_K4, ev_K5, ev_a1, ev_m1, ev_s1, ev_s2, nI_add, ev_nle, ev_le, ev_lt, ev_nlt, ev_ne, ev_eq, ev_uI hL, ev_uJ hL, ev_m hL, ev_mr hL, ev_mt hL, ev_mz hL, ev_mj hL, ev_n8 hL, ev_n64 hL, ev_n229 hL, ev_n254 hL, ev_n257 hL, ev_n259 hL, ev_n260 hL, ev_n261 hL, ev_0 hL, ev_00 hL, ev_01 hL, ev_02 hL, ev_1 hL, ev_1n hL, ev_1r hL, ev_lg hL, ev_lr hL, ev_sr hL, ev_2 hL, ev_2n hL, ev_3 hL, ev_30 hL, ev_31 hL, ev_4 hL, ev_4n hL, ev_5 hL, ev_5n hL, ev_4r hL, ev_lt1 hL, ev_ltr hL, ev_lnt hL, ev_lnn hL, ev_7 hL, ev_7n hL, ev_uE, ev_uK]
                exact hb55
            · rw [s9, ev_uE]
            · rw [s7 d k hd, ev_uI hL (by omega)]) (fun x => x.toInt64)
          subst g3
          refine ⟨0, Ic', _, x, I2, J2, ?_, g2, g4, fun _ => g5, g6⟩
          simp (disch := omega) only [f_L_takeOver, ↓b4_h g1, ↓bnd_in, ↓Option.bind_some, ↓bd2_some, ↓bd3_some, ↓bd4_some, ↓ew_mr hL, ↓ew_00 hL, ↓ew_01 hL, ↓ew_02 hL, ↓ew_1r hL, ↓ew_lr hL, ↓ew_30 hL, ↓ew_31 hL, ↓ew_4r hL, ↓ew_ltr hL, ↓gd_m hL, ↓gd_0 hL, gd_t, Option.bind_some, bd2_some, bd3_some, bd4_some, gm_some, gm_none, ↓reduceIte, or_self, or_false, false_or, or_true, true_or, and_self, and_true, true_and, and_false, false_and, not_false_eq_true, not_true_eq_false, Nat.reduceAdd, Nat.reduceMul, Int32.reduceLT, Int32.reduceLE, eq_self, ev_lit, ev_10, Int32.reduceToNatClampNeg, Nat.reduceLeDiff, Nat.reduceEqDiff, Nat.reduceLT, nI_clamp, ev_ng, ev_L1, ev_L2, ev_L3, ev_K1, ev_K2, ev_K3, ev_K4, ev_K5, ev_a1, ev_m1, ev_s1, ev_s2, nI_add, ev_nle, ev_le, ev_lt, ev_nlt, ev_ne, ev_eq, ev_uI hL, ev_uJ hL, ev_m hL, ev_mr hL, ev_mt hL, ev_mz hL, ev_mj hL, ev_n8 hL, ev_n64 hL, ev_n229 hL, ev_n254 hL, ev_n257 hL, ev_n259 hL, ev_n260 hL, ev_n261 hL, ev_0 hL, ev_00 hL, ev_01 hL, ev_02 hL, ev_1 hL, ev_1n hL, ev_1r hL, ev_lg hL, ev_lr hL, ev_sr hL, ev_2 hL, ev_2n hL, ev_3 hL, ev_30 hL, ev_31 hL, ev_4 hL, ev_4n hL, ev_5 hL, ev_5n hL, ev_4r hL, ev_lt1 hL, ev_ltr hL, ev_lnt hL, ev_lnn hL, ev_7 hL, ev_7n hL, ev_uE, ev_uK]
        · have n0 : ¬ I (A 238) q = 0 := fun e => e0 (Or.inl e)
          have n3 : ¬ I (A 238) q = 3 := fun e => e0 (Or.inr e)
          have n30 : (3 : Nat) ≠ 0 := by decide
          refine ⟨2, I, J, 0, upI I (A 6) 0 2, J, ?_, ?_, ev_uE, fun q => absurd q (by decide), hup (hr.th hL 2)⟩
          · simp (disch := omega) only [f_L_takeOver, f_H_takeOver, ↓b2_h (f1 _), ↓b2_h hlo, ↓ob_h hnu, t0, es, n0, n3, ↓bnd_in, ↓Option.bind_some, ↓bd2_some, ↓bd3_some, ↓bd4_some, ↓ew_mr hL, ↓ew_00 hL, ↓ew_01 hL, ↓ew_02 hL, ↓ew_1r hL, ↓ew_lr hL, ↓ew_30 hL, ↓ew_31 hL, ↓ew_4r hL, ↓ew_ltr hL, ↓gd_m hL, ↓gd_0 hL, gd_t, Option.bind_some, bd2_some, bd3_some, bd4_some, gm_some, gm_none, ↓reduceIte, or_self, or_false, false_or, or_true, true_or, and_self, and_true, true_and, and_false, false_and, not_false_eq_true, not_true_eq_false, Nat.reduceAdd, Nat.reduceMul, Int32.reduceLT, Int32.reduceLE, eq_self, ev_lit, ev_10, Int32.reduceToNatClampNeg, Nat.reduceLeDiff, Nat.reduceEqDiff, Nat.reduceLT, nI_clamp, ev_ng, ev_L1, ev_L2, ev_L3, ev_K1, ev_K2, ev_K3, ev_K4, ev_K5, ev_a1, ev_m1, ev_s1, ev_s2, nI_add, ev_nle, ev_le, ev_lt, ev_nlt, ev_ne, ev_eq, ev_uI hL, ev_uJ hL, ev_m hL, ev_mr hL, ev_mt hL, ev_mz hL, ev_mj hL, ev_n8 hL, ev_n64 hL, ev_n229 hL, ev_n254 hL, ev_n257 hL, ev_n259 hL, ev_n260 hL, ev_n261 hL, ev_0 hL, ev_00 hL, ev_01 hL, ev_02 hL, ev_1 hL, ev_1n hL, ev_1r hL, ev_lg hL, ev_lr hL, ev_sr hL, ev_2 hL, ev_2n hL, ev_3 hL, ev_30 hL, ev_31 hL, ev_4 hL, ev_4n hL, ev_5 hL, ev_5n hL, ev_4r hL, ev_lt1 hL, ev_ltr hL, ev_lnt hL, ev_lnn hL, ev_7 hL, ev_7n hL, ev_uE, ev_uK]
          · simp (disch := omega) only [f_M_takeOver, ↓ob_h (f3 _), hm1, ↓ob_h (hil _ _), u2, n0, n3, f_M_takeOver_b51, f_M_takeOver_b56, ↓bnd_in, ↓Option.bind_some, ↓bd2_some, ↓bd3_some, ↓bd4_some, ↓ew_mr hL, ↓ew_00 hL, ↓ew_01 hL, ↓ew_02 hL, ↓ew_1r hL, ↓ew_lr hL, ↓ew_30 hL, ↓ew_31 hL, ↓ew_4r hL, ↓ew_ltr hL, ↓gd_m hL, ↓gd_0 hL, gd_t, Option.bind_some, bd2_some, bd3_some, bd4_some, gm_some, gm_none, ↓reduceIte, or_self, or_false, false_or, or_true, true_or, and_self, and_true, true_and, and_false, false_and, not_false_eq_true, not_true_eq_false, Nat.reduceAdd, Nat.reduceMul, Int32.reduceLT, Int32.reduceLE, eq_self, ev_lit, ev_10, Int32.reduceToNatClampNeg, Nat.reduceLeDiff, Nat.reduceEqDiff, Nat.reduceLT, nI_clamp, ev_ng, ev_L1, ev_L2, ev_L3, ev_K1, ev_K2, ev_K3, ev_K4, ev_K5, ev_a1, ev_m1, ev_s1, ev_s2, nI_add, ev_nle, ev_le, ev_lt, ev_nlt, ev_ne, ev_eq, ev_uI hL, ev_uJ hL, ev_m hL, ev_mr hL, ev_mt hL, ev_mz hL, ev_mj hL, ev_n8 hL, ev_n64 hL, ev_n229 hL, ev_n254 hL, ev_n257 hL, ev_n259 hL, ev_n260 hL, ev_n261 hL, ev_0 hL, ev_00 hL, ev_01 hL, ev_02 hL, ev_1 hL, ev_1n hL, ev_1r hL, ev_lg hL, ev_lr hL, ev_sr hL, ev_2 hL, ev_2n hL, ev_3 hL, ev_30 hL, ev_31 hL, ev_4 hL, ev_4n hL, ev_5 hL, ev_5n hL, ev_4r hL, ev_lt1 hL, ev_ltr hL, ev_lnt hL, ev_lnn hL, ev_7 hL, ev_7n hL, ev_uE, ev_uK]
      · rw [u1, if_pos rfl] at hnu
        refine ⟨2, I, J, 0, upI I (A 6) 0 2, J, ?_, ?_, ev_uE, fun q => absurd q (by decide), hup (hr.th hL 2)⟩
        · simp (disch := omega) only [f_L_takeOver, f_H_takeOver, ↓b2_h (f1 _), ↓b2_h hlo, ↓ob_h hnu, ↓bnd_in, ↓Option.bind_some, ↓bd2_some, ↓bd3_some, ↓bd4_some, ↓ew_mr hL, ↓ew_00 hL, ↓ew_01 hL, ↓ew_02 hL, ↓ew_1r hL, ↓ew_lr hL, ↓ew_30 hL, ↓ew_31 hL, ↓ew_4r hL, ↓ew_ltr hL, ↓gd_m hL, ↓gd_0 hL, gd_t, Option.bind_some, bd2_some, bd3_some, bd4_some, gm_some, gm_none, ↓reduceIte, or_self, or_false, false_or, or_true, true_or, and_self, and_true, true_and, and_false, false_and, not_false_eq_true, not_true_eq_false, Nat.reduceAdd, Nat.reduceMul, Int32.reduceLT, Int32.reduceLE, eq_self, ev_lit, ev_10, Int32.reduceToNatClampNeg, Nat.reduceLeDiff, Nat.reduceEqDiff, Nat.reduceLT, nI_clamp, ev_ng, ev_L1, ev_L2, ev_L3, ev_K1, ev_K2, ev_K3, ev_K4, ev_K5, ev_a1, ev_m1, ev_s1, ev_s2, nI_add, ev_nle, ev_le, ev_lt, ev_nlt, ev_ne, ev_eq, ev_uI hL, ev_uJ hL, ev_m hL, ev_mr hL, ev_mt hL, ev_mz hL, ev_mj hL, ev_n8 hL, ev_n64 hL, ev_n229 hL, ev_n254 hL, ev_n257 hL, ev_n259 hL, ev_n260 hL, ev_n261 hL, ev_0 hL, ev_00 hL, ev_01 hL, ev_02 hL, ev_1 hL, ev_1n hL, ev_1r hL, ev_lg hL, ev_lr hL, ev_sr hL, ev_2 hL, ev_2n hL, ev_3 hL, ev_30 hL, ev_31 hL, ev_4 hL, ev_4n hL, ev_5 hL, ev_5n hL, ev_4r hL, ev_lt1 hL, ev_ltr hL, ev_lnt hL, ev_lnn hL, ev_7 hL, ev_7n hL, ev_uE, ev_uK]
        · simp (disch := omega) only [f_M_takeOver, ↓ob_h (f3 _), hm1, ↓ob_h (hil _ _), u2, f_M_takeOver_b51, f_M_takeOver_b56, ↓bnd_in, ↓Option.bind_some, ↓bd2_some, ↓bd3_some, ↓bd4_some, ↓ew_mr hL, ↓ew_00 hL, ↓ew_01 hL, ↓ew_02 hL, ↓ew_1r hL, ↓ew_lr hL, ↓ew_30 hL, ↓ew_31 hL, ↓ew_4r hL, ↓ew_ltr hL, ↓gd_m hL, ↓gd_0 hL, gd_t, Option.bind_some, bd2_some, bd3_some, bd4_some, gm_some, gm_none, ↓reduceIte, or_self, or_false, false_or, or_true, true_or, and_self, and_true, true_and, and_false, false_and, not_false_eq_true, not_true_eq_false, Nat.reduceAdd, Nat.reduceMul, Int32.reduceLT, Int32.reduceLE, eq_self, ev_lit, ev_10, Int32.reduceToNatClampNeg, Nat.reduceLeDiff, Nat.reduceEqDiff, Nat.reduceLT, nI_clamp, ev_ng, ev_L1, ev_L2, ev_L3, ev_K1, ev_K2, ev_K3, ev_K4, ev_K5, ev_a1, ev_m1, ev_s1, ev_s2, nI_add, ev_nle, ev_le, ev_lt, ev_nlt, ev_ne, ev_eq, ev_uI hL, ev_uJ hL, ev_m hL, ev_mr hL, ev_mt hL, ev_mz hL, ev_mj hL, ev_n8 hL, ev_n64 hL, ev_n229 hL, ev_n254 hL, ev_n257 hL, ev_n259 hL, ev_n260 hL, ev_n261 hL, ev_0 hL, ev_00 hL, ev_01 hL, ev_02 hL, ev_1 hL, ev_1n hL, ev_1r hL, ev_lg hL, ev_lr hL, ev_sr hL, ev_2 hL, ev_2n hL, ev_3 hL, ev_30 hL, ev_31 hL, ev_4 hL, ev_4n hL, ev_5 hL, ev_5n hL, ev_4r hL, ev_lt1 hL, ev_ltr hL, ev_lnt hL, ev_lnn hL, ev_7 hL, ev_7n hL, ev_uE, ev_uK]
    · have hlo := H_loggerOf_out (A := A) hl
      have hil : ∀ I J, f_M_isLogger S I J dv = some 0 := fun I J => M_isLogger_out ho
      refine ⟨1, I, J, 0, upI I (A 6) 0 1, J, ?_, ?_, ev_uE, fun q => absurd q (by decide), hup (hr.th hL 1)⟩
      · simp (disch := omega) only [f_L_takeOver, f_H_takeOver, ↓b2_h (f1 _), ↓b2_h hlo, ↓bnd_in, ↓Option.bind_some, ↓bd2_some, ↓bd3_some, ↓bd4_some, ↓ew_mr hL, ↓ew_00 hL, ↓ew_01 hL, ↓ew_02 hL, ↓ew_1r hL, ↓ew_lr hL, ↓ew_30 hL, ↓ew_31 hL, ↓ew_4r hL, ↓ew_ltr hL, ↓gd_m hL, ↓gd_0 hL, gd_t, Option.bind_some, bd2_some, bd3_some, bd4_some, gm_some, gm_none, ↓reduceIte, or_self, or_false, false_or, or_true, true_or, and_self, and_true, true_and, and_false, false_and, not_false_eq_true, not_true_eq_false, Nat.reduceAdd, Nat.reduceMul, Int32.reduceLT, Int32.reduceLE, eq_self, ev_lit, ev_10, Int32.reduceToNatClampNeg, Nat.reduceLeDiff, Nat.reduceEqDiff, Nat.reduceLT, nI_clamp, ev_ng, ev_L1, ev_L2, ev_L3, ev_K1, ev_K2, ev_K3, ev_K4, ev_K5, ev_a1, ev_m1, ev_s1, ev_s2, nI_add, ev_nle, ev_le, ev_lt, ev_nlt, ev_ne, ev_eq, ev_uI hL, ev_uJ hL, ev_m hL, ev_mr hL, ev_mt hL, ev_mz hL, ev_mj hL, ev_n8 hL, ev_n64 hL, ev_n229 hL, ev_n254 hL, ev_n257 hL, ev_n259 hL, ev_n260 hL, ev_n261 hL, ev_0 hL, ev_00 hL, ev_01 hL, ev_02 hL, ev_1 hL, ev_1n hL, ev_1r hL, ev_lg hL, ev_lr hL, ev_sr hL, ev_2 hL, ev_2n hL, ev_3 hL, ev_30 hL, ev_31 hL, ev_4 hL, ev_4n hL, ev_5 hL, ev_5n hL, ev_4r hL, ev_lt1 hL, ev_ltr hL, ev_lnt hL, ev_lnn hL, ev_7 hL, ev_7n hL, ev_uE, ev_uK]
      · simp (disch := omega) only [f_M_takeOver, ↓ob_h (f3 _), hm1, ↓ob_h (hil _ _), f_M_takeOver_b19, f_M_takeOver_b56, ↓bnd_in, ↓Option.bind_some, ↓bd2_some, ↓bd3_some, ↓bd4_some, ↓ew_mr hL, ↓ew_00 hL, ↓ew_01 hL, ↓ew_02 hL, ↓ew_1r hL, ↓ew_lr hL, ↓ew_30 hL, ↓ew_31 hL, ↓ew_4r hL, ↓ew_ltr hL, ↓gd_m hL, ↓gd_0 hL, gd_t, Option.bind_some, bd2_some, bd3_some, bd4_some, gm_some, gm_none, ↓reduceIte, or_self, or_false, false_or, or_true, true_or, and_self, and_true, true_and, and_false, false_and, not_false_eq_true, not_true_eq_false, Nat.reduceAdd, Nat.reduceMul, Int32.reduceLT, Int32.reduceLE, eq_self, ev_lit, ev_10, Int32.reduceToNatClampNeg, Nat.reduceLeDiff, Nat.reduceEqDiff, Nat.reduceLT, nI_clamp, ev_ng, ev_L1, ev_L2, ev_L3, ev_K1, ev_K2, ev_K3, ev_K4, ev_K5, ev_a1, ev_m1, ev_s1, ev_s2, nI_add, ev_nle, ev_le, ev_lt, ev_nlt, ev_ne, ev_eq, ev_uI hL, ev_uJ hL, ev_m hL, ev_mr hL, ev_mt hL, ev_mz hL, ev_mj hL, ev_n8 hL, ev_n64 hL, ev_n229 hL, ev_n254 hL, ev_n257 hL, ev_n259 hL, ev_n260 hL, ev_n261 hL, ev_0 hL, ev_00 hL, ev_01 hL, ev_02 hL, ev_1 hL, ev_1n hL, ev_1r hL, ev_lg hL, ev_lr hL, ev_sr hL, ev_2 hL, ev_2n hL, ev_3 hL, ev_30 hL, ev_31 hL, ev_4 hL, ev_4n hL, ev_5 hL, ev_5n hL, ev_4r hL, ev_lt1 hL, ev_ltr hL, ev_lnt hL, ev_lnn hL, ev_7 hL, ev_7n hL, ev_uE, ev_uK]
  · refine ⟨1, I, J, 0, upI I (A 6) 0 1, J, ?_, ?_, ev_uE, fun q => absurd q (by decide), hup (hr.th hL 1)⟩
    · simp (disch := omega) only [f_L_takeOver, f_H_takeOver, ↓b2_h (f1 _), ↓bnd_in, ↓Option.bind_some, ↓bd2_some, ↓bd3_some, ↓bd4_some, ↓ew_mr hL, ↓ew_00 hL, ↓ew_01 hL, ↓ew_02 hL, ↓ew_1r hL, ↓ew_lr hL, ↓ew_30 hL, ↓ew_31 hL, ↓ew_4r hL, ↓ew_ltr hL, ↓gd_m hL, ↓gd_0 hL, gd_t, Option.bind_some, bd2_some, bd3_some, bd4_some, gm_some, gm_none, ↓reduceIte, or_self, or_false, false_or, or_true, true_or, and_self, and_true, true_and, and_false, false_and, not_false_eq_true, not_true_eq_false, Nat.reduceAdd, Nat.reduceMul, Int32.reduceLT, Int32.reduceLE, eq_self, ev_lit, ev_10, Int32.reduceToNatClampNeg, Nat.reduceLeDiff, Nat.reduceEqDiff, Nat.reduceLT, nI_clamp, ev_ng, ev_L1, ev_L2, ev_L3, ev_K1, ev_K2, ev_K3, ev_K4, ev_K5, ev_a1, ev_m1, ev_s1, ev_s2, nI_add, ev_nle, ev_le, ev_lt, ev_nlt, ev_ne, ev_eq, ev_uI hL, ev_uJ hL, ev_m hL, ev_mr hL, ev_mt hL, ev_mz hL, ev_mj hL, ev_n8 hL, ev_n64 hL, ev_n229 hL, ev_n254 hL, ev_n257 hL, ev_n259 hL, ev_n260 hL, ev_n261 hL, ev_0 hL, ev_00 hL, ev_01 hL, ev_02 hL, ev_1 hL, ev_1n hL, ev_1r hL, ev_lg hL, ev_lr hL, ev_sr hL, ev_2 hL, ev_2n hL, ev_3 hL, ev_30 hL, ev_31 hL, ev_4 hL, ev_4n hL, ev_5 hL, ev_5n hL, ev_4r hL, ev_lt1 hL, ev_ltr hL, ev_lnt hL, ev_lnn hL, ev_7 hL, ev_7n hL, ev_uE, ev_uK]
    · simp (disch := omega) only [f_M_takeOver, ↓ob_h (f3 _), f_M_takeOver_b19, f_M_takeOver_b56, ↓bnd_in, ↓Option.bind_some, ↓bd2_some, ↓bd3_some, ↓bd4_some, ↓ew_mr hL, ↓ew_00 hL, ↓ew_01 hL, ↓ew_02 hL, ↓ew_1r hL, ↓ew_lr hL, ↓ew_30 hL, ↓ew_31 hL, ↓ew_4r hL, ↓ew_ltr hL, ↓gd_m hL, ↓gd_0 hL, gd_t, Option.bind_some, bd2_some, bd3_some, bd4_some, gm_some, gm_none, ↓reduceIte, or_self, or_false, false_or, or_true, true_or, and_self, and_true, true_and, and_false, false_and, not_false_eq_true, not_true_eq_false, Nat.reduceAdd, Nat.reduceMul, Int32.reduceLT, Int32.reduceLE, eq_self, ev_lit, ev_10, Int32.reduceToNatClampNeg, Nat.reduceLeDiff, Nat.reduceEqDiff, Nat.reduceLT, nI_clamp, ev_ng, ev_L1, ev_L2, ev_L3, ev_K1, ev_K2, ev_K3, ev_K4, ev_K5, ev_a1, ev_m1, ev_s1, ev_s2, nI_add, ev_nle, ev_le, ev_lt, ev_nlt, ev_ne, ev_eq, ev_uI hL, ev_uJ hL, ev_m hL, ev_mr hL, ev_mt hL, ev_mz hL, ev_mj hL, ev_n8 hL, ev_n64 hL, ev_n229 hL, ev_n254 hL, ev_n257 hL, ev_n259 hL, ev_n260 hL, ev_n261 hL, ev_0 hL, ev_00 hL, ev_01 hL, ev_02 hL, ev_1 hL, ev_1n hL, ev_1r hL, ev_lg hL, ev_lr hL, ev_sr hL, ev_2 hL, ev_2n hL, ev_3 hL, ev_30 hL, ev_31 hL, ev_4 hL, ev_4n hL, ev_5 hL, ev_5n hL, ev_4r hL, ev_lt1 hL, ev_ltr hL, ev_lnt hL, ev_lnn hL, ev_7 hL, ev_7n hL, ev_uE, ev_uK]
end TURN
