-- lose
section LOSE
variable {S : gS} {A : Nat → Nat} {ex : Nat → Bool} {I I' : gMI} {J : gMJ} {b : Nat}
/-- class and reference take letter r out; x is written into thrown between -/
theorem take_both (hL : Lay S A ex) {sz pi am nu : Nat → Nat} {c N : Nat} {fz : Nat → Nat → Option Nat} {cm : Nat → Nat → Bool} {gc : Nat → Nat → Nat} (h1 : RLgs (cI A I) sz) (h2 : RPost (cI A I) (cJ A J) c pi am) (h3 : RQs (cI A I) (cJ A J) ex sz fz cm gc nu N) (h4 : Inv (cI A I) c N b nu fz cm) {r : Nat} (hr : r < c) {I1 I2 : gMI} {J2 : gMJ} {x : Int32}
    (hI1 : I1 = upI (upI (va_up I (A 5) (va_cpy (I (A 5)) (I (A 5)) (r + 1) r (96 - r))) (A 5) 96 (nI (pi r))) (A 3) 2 (nI (c - 1)))
    (hI2 : I2 = va_up (va_up (upI (upI I1 (A 6) 0 x) (A 6) 32 (nI (c - 1))) (A 259) (shf (I (A 259)) (7 * r) (7 * (c - 1)) 7)) (A 260) (shf (I (A 260)) (64 * r) (64 * (c - 1)) 64))
    (hJ2 : J2 = va_up J (A 261) (shf (J (A 261)) r (c - 1) 1)) :
    RLgs (cI A I2) sz ∧ RPost (cI A I2) (cJ A J2) (c - 1) (fun i => pi (if i < r then i else if i < 96 then i + 1 else r)) (fun i => am (sh r i)) ∧ RQs (cI A I2) (cJ A J2) ex sz fz cm gc nu N ∧ Inv (cI A I2) (c - 1) N b nu fz cm := by
  have hp := h2
  obtain ⟨p1, p2, p3, p4, p5, p6⟩ := hp
  have hv : ∀ (I0 : gMI) (d : Nat) (f : Nat → Int32) (e k : Nat), e ≠ d → va_up I0 (A d) f (A e) k = I0 (A e) k := fun I0 d f e k hne => by rw [va_up_ne _ _ (hL.inj hne)]
  refine rem_rel h1 h2 h3 h4 hr (fun d k hd => ?_) (fun d k hd => ?_) ?_ ?_ (fun i hi => ?_) (fun j => ?_) (fun j => ?_) (fun j => ?_)
  · show I2 (A d) k = I (A d) k
    rw [hI2, hv _ _ _ _ _ (by omega), hv _ _ _ _ _ (by omega), ev_uI hL (by omega), ev_uI hL (by omega), hI1, ev_uI hL (by omega), ev_uI hL (by omega), hv _ _ _ _ _ (by omega)]
  · show J2 (A d) k = J (A d) k
    rw [hJ2, va_up_ne _ _ (hL.inj (by omega))]
  · show I2 (A 3) 2 = nI (c - 1)
    rw [hI2, hv _ _ _ _ _ (by omega), hv _ _ _ _ _ (by omega), ev_uI hL (by omega), ev_uI hL (by omega), hI1, ev_uE]
  · show I2 (A 6) 32 = nI (c - 1)
    rw [hI2, hv _ _ _ _ _ (by omega), hv _ _ _ _ _ (by omega), ev_uE]
  · show I2 (A 5) i = _
    rw [hI2, hv _ _ _ _ _ (by omega), hv _ _ _ _ _ (by omega), ev_uI hL (by omega), ev_uI hL (by omega), hI1, ev_uI hL (by omega)]
    by_cases e : i = 96
    · rw [e, ev_uE, if_neg (by omega), if_neg (by omega)]
    · rw [ev_uI hL (by omega), va_up_self]
      by_cases e2 : i < r
      · rw [pk_cpy_out (Or.inl e2), if_pos e2]; exact (p4 i hi).2
      · rw [pk_cpy_in (by omega) (by omega), if_neg e2, if_pos (by omega), show r + 1 + (i - r) = i + 1 by omega]; exact (p4 (i + 1) (by omega)).2
  · show I2 (A 259) j = _
    rw [hI2, hv _ _ _ _ _ (by omega), va_up_self]; rfl
  · show I2 (A 260) j = _
    rw [hI2, va_up_self]; rfl
  · show J2 (A 261) j = _
    rw [hJ2, va_up_self]; rfl
theorem op_lose (hL : Lay S A ex) (hr : Rel (cI A I) (cJ A J) ex b) (i : Int32) : ∃ k I1 J1 r I2 J2, f_L_lose S I J (A 0) i (A 7) = some (k, I1, J1) ∧ f_M_lose S I1 J1 (A 6) i = some (r, I2, J2) ∧ I2 (A 6) 0 = k ∧ (k = 0 → J2 (A 7) 0 = r.toInt64) ∧ Rel (cI A I2) (cJ A J2) ex b := by
  have hr0 := hr
  obtain ⟨sz, c, pi, am, fz, cm, gc, nu, N, hN, h1, h2, h3, h4⟩ := hr0
  have hp := h2
  obtain ⟨p1, p2, p3, p4, p5, p6⟩ := hp
  have q2 : I (A 3) 2 = nI c := p2
  have q3 : I (A 6) 32 = nI c := p3
  rcases H_needLetter (J := J) hL p1 q2 i with ⟨x, hx, rfl, hn⟩ | ⟨ho, hn⟩
  · obtain ⟨pk, e5⟩ := p4 x (by omega)
    have e5 : I (A 5) x = nI (pi x) := e5
    obtain ⟨I1, hI1⟩ : ∃ I1 : gMI, I1 = upI (upI (va_up I (A 5) (va_cpy (I (A 5)) (I (A 5)) (x + 1) x (96 - x))) (A 5) 96 (nI (pi x))) (A 3) 2 (nI (c - 1)) := ⟨_, rfl⟩
    have t1 : f_Post_takeOut S I J (A 3) (nI x) = some (some (A (32 + pi x)), I1) := by rw [hI1]; exact Post_takeOut hL p1 hx q2 pk e5
    have k3 : I1 (A 3) 2 = nI (c - 1) := by rw [hI1, ev_uE]
    have kk : ∀ d k, d ≠ 3 → d ≠ 5 → I1 (A d) k = I (A d) k := fun d k a1 a2 => by
      rw [hI1, ev_uI hL (by omega), ev_uI hL (by omega), va_up_ne _ _ (hL.inj a2)]
    have k6 : I1 (A 6) 32 = nI c := by rw [kk _ _ (by decide) (by decide)]; exact q3
    have t2 : ∀ J1, f_M_remove S (upI I1 (A 6) 0 0) J1 (A 6) (nI x) = _ := fun J1 => M_remove (J := J1) hL p1 hx (by rw [ev_uI hL (by omega)]; exact k6)
    rw [show (upI I1 (A 6) 0 0) (A 259) = I (A 259) by funext k; rw [ev_uI hL (by omega), kk _ _ (by decide) (by decide)], show (upI I1 (A 6) 0 0) (A 260) = I (A 260) by funext k; rw [ev_uI hL (by omega), kk _ _ (by decide) (by decide)]] at t2
    obtain ⟨I2, hI2⟩ : ∃ I2 : gMI, I2 = va_up (va_up (upI (upI I1 (A 6) 0 0) (A 6) 32 (nI (c - 1))) (A 259) (shf (I (A 259)) (7 * x) (7 * (c - 1)) 7)) (A 260) (shf (I (A 260)) (64 * x) (64 * (c - 1)) 64) := ⟨_, rfl⟩
    rw [← hI2] at t2
    have t60 : I2 (A 6) 0 = 0 := by rw [hI2, va_up_ne _ _ (hL.inj (by decide)), va_up_ne _ _ (hL.inj (by decide)), ev_uI hL (by omega), ev_uE]
    have t632 : I2 (A 6) 32 = nI (c - 1) := by rw [hI2, va_up_ne _ _ (hL.inj (by decide)), va_up_ne _ _ (hL.inj (by decide)), ev_uE]
    have hin : ∀ J, f_M_isLetter S I1 J (A 6) (nI x) = some 1 := fun J => M_isLetter_in hL p1 hx k6
    have hJo : upJ J (A 7) 0 (nI (c - 1)).toInt64 (A 261) = J (A 261) := upJ_ne (hL.inj (by decide))
    refine ⟨0, I1, upJ J (A 7) 0 (nI (c - 1)).toInt64, nI (c - 1), I2, va_up (upJ J (A 7) 0 (nI (c - 1)).toInt64) (A 261) (shf (J (A 261)) x (c - 1) 1), ?_, ?_, t60, fun _ => ?_, ?_⟩
    · simp (disch := omega) only [f_L_lose, f_H_lose, ↓ob_h hn, ↓b2_h t1, k3, ↓bnd_in, ↓Option.bind_some, ↓bd2_some, ↓bd3_some, ↓bd4_some, ↓ew_mr hL, ↓ew_00 hL, ↓ew_01 hL, ↓ew_02 hL, ↓ew_1r hL, ↓ew_lr hL, ↓ew_30 hL, ↓ew_31 hL, ↓ew_4r hL, ↓ew_ltr hL, ↓gd_m hL, ↓gd_0 hL, gd_t, Option.bind_some, bd2_some, bd3_some, bd4_some, gm_some, gm_none, ↓reduceIte, or_self, or_false, false_or, or_true, true_or, and_self, and_true, true_and, and_false, false_and, not_false_eq_true, not_true_eq_false, Nat.reduceAdd, Nat.reduceMul, Int32.reduceLT, Int32.reduceLE, eq_self, ev_lit, ev_10, Int32.reduceToNatClampNeg, Nat.reduceLeDiff, Nat.reduceEqDiff, Nat.reduceLT, nI_clamp, ev_ng, ev_L1, ev_L2, ev_L3, ev_K1, ev_K2, ev_K3, ev_K4, ev_K5, ev_a1, ev_m1, ev_s1, ev_s2, nI_add, ev_nle, ev_le, ev_lt, ev_nlt, ev_ne, ev_eq, ev_uI hL, ev_uJ hL, ev_m hL, ev_mr hL, ev_mt hL, ev_mz hL, ev_mj hL, ev_n8 hL, ev_n64 hL, ev_n229 hL, ev_n254 hL, ev_n257 hL, ev_n259 hL, ev_n260 hL, ev_n261 hL, ev_0 hL, ev_00 hL, ev_01 hL, ev_02 hL, ev_1 hL, ev_1n hL, ev_1r hL, ev_lg hL, ev_lr hL, ev_sr hL, ev_2 hL, ev_2n hL, ev_3 hL, ev_30 hL, ev_31 hL, ev_4 hL, ev_4n hL, ev_5 hL, ev_5n hL, ev_4r hL, ev_lt1 hL, ev_ltr hL, ev_lnt hL, ev_lnn hL, ev_7 hL, ev_7n hL, ev_uE, ev_uK]
    · have t2' := t2 (upJ J (A 7) 0 (nI (c - 1)).toInt64)
      rw [hJo] at t2'
      simp (disch := omega) only [f_M_lose, ↓ob_h (hin _), f_M_lose_b14, ↓b2_h t2', f_M_lose_b29, f_M_lose_b44, t60, t632, ↓bnd_in, ↓Option.bind_some, ↓bd2_some, ↓bd3_some, ↓bd4_some, ↓ew_mr hL, ↓ew_00 hL, ↓ew_01 hL, ↓ew_02 hL, ↓ew_1r hL, ↓ew_lr hL, ↓ew_30 hL, ↓ew_31 hL, ↓ew_4r hL, ↓ew_ltr hL, ↓gd_m hL, ↓gd_0 hL, gd_t, Option.bind_some, bd2_some, bd3_some, bd4_some, gm_some, gm_none, ↓reduceIte, or_self, or_false, false_or, or_true, true_or, and_self, and_true, true_and, and_false, false_and, not_false_eq_true, not_true_eq_false, Nat.reduceAdd, Nat.reduceMul, Int32.reduceLT, Int32.reduceLE, eq_self, ev_lit, ev_10, Int32.reduceToNatClampNeg, Nat.reduceLeDiff, Nat.reduceEqDiff, Nat.reduceLT, nI_clamp, ev_ng, ev_L1, ev_L2, ev_L3, ev_K1, ev_K2, ev_K3, ev_K4, ev_K5, ev_a1, ev_m1, ev_s1, ev_s2, nI_add, ev_nle, ev_le, ev_lt, ev_nlt, ev_ne, ev_eq, ev_uI hL, ev_uJ hL, ev_m hL, ev_mr hL, ev_mt hL, ev_mz hL, ev_mj hL, ev_n8 hL, ev_n64 hL, ev_n229 hL, ev_n254 hL, ev_n257 hL, ev_n259 hL, ev_n260 hL, ev_n261 hL, ev_0 hL, ev_00 hL, ev_01 hL, ev_02 hL, ev_1 hL, ev_1n hL, ev_1r hL, ev_lg hL, ev_lr hL, ev_sr hL, ev_2 hL, ev_2n hL, ev_3 hL, ev_30 hL, ev_31 hL, ev_4 hL, ev_4n hL, ev_5 hL, ev_5n hL, ev_4r hL, ev_lt1 hL, ev_ltr hL, ev_lnt hL, ev_lnn hL, ev_7 hL, ev_7n hL, ev_uE, ev_uK]
    · rw [va_up_ne _ _ (hL.inj (by decide)), ev_uK]
    · obtain ⟨a1, a2, a3, a4⟩ := take_both hL h1 h2 h3 h4 hx hI1 hI2 rfl
      have : Rel (cI A I2) (cJ A (va_up J (A 261) (shf (J (A 261)) x (c - 1) 1))) ex b := ⟨sz, c - 1, _, _, fz, cm, gc, nu, N, hN, a1, a2, a3, a4⟩
      refine this.out (fun d k hd => ?_)
      show va_up (upJ J (A 7) 0 (nI (c - 1)).toInt64) (A 261) (shf (J (A 261)) x (c - 1) 1) (A d) k = va_up J (A 261) (shf (J (A 261)) x (c - 1) 1) (A d) k
      by_cases e : d = 261
      · rw [e, va_up_self, va_up_self]
      · rw [va_up_ne _ _ (hL.inj e), va_up_ne _ _ (hL.inj e), ev_uJ hL (by omega)]
  · have hin : ∀ J, f_M_isLetter S I J (A 6) i = some 0 := fun J => M_isLetter_out hL ho q3
    refine ⟨1, I, J, 0, upI I (A 6) 0 1, J, ?_, ?_, ev_uE, fun q => absurd q (by decide), hr.th hL 1⟩
    · simp (disch := omega) only [f_L_lose, f_H_lose, ↓ob_h hn, ↓bnd_in, ↓Option.bind_some, ↓bd2_some, ↓bd3_some, ↓bd4_some, ↓ew_mr hL, ↓ew_00 hL, ↓ew_01 hL, ↓ew_02 hL, ↓ew_1r hL, ↓ew_lr hL, ↓ew_30 hL, ↓ew_31 hL, ↓ew_4r hL, ↓ew_ltr hL, ↓gd_m hL, ↓gd_0 hL, gd_t, Option.bind_some, bd2_some, bd3_some, bd4_some, gm_some, gm_none, ↓reduceIte, or_self, or_false, false_or, or_true, true_or, and_self, and_true, true_and, and_false, false_and, not_false_eq_true, not_true_eq_false, Nat.reduceAdd, Nat.reduceMul, Int32.reduceLT, Int32.reduceLE, eq_self, ev_lit, ev_10, Int32.reduceToNatClampNeg, Nat.reduceLeDiff, Nat.reduceEqDiff, Nat.reduceLT, nI_clamp, ev_ng, ev_L1, ev_L2, ev_L3, ev_K1, ev_K2, ev_K3, ev_K4, ev_K5, ev_a1, ev_m1, ev_s1, ev_s2, nI_add, ev_nle, ev_le, ev_lt, ev_nlt, ev_ne, ev_eq, ev_uI hL, ev_uJ hL, ev_m hL, ev_mr hL, ev_mt hL, ev_mz hL, ev_mj hL, ev_n8 hL, ev_n64 hL, ev_n229 hL, ev_n254 hL, ev_n257 hL, ev_n259 hL, ev_n260 hL, ev_n261 hL, ev_0 hL, ev_00 hL, ev_01 hL, ev_02 hL, ev_1 hL, ev_1n hL, ev_1r hL, ev_lg hL, ev_lr hL, ev_sr hL, ev_2 hL, ev_2n hL, ev_3 hL, ev_30 hL, ev_31 hL, ev_4 hL, ev_4n hL, ev_5 hL, ev_5n hL, ev_4r hL, ev_lt1 hL, ev_ltr hL, ev_lnt hL, ev_lnn hL, ev_7 hL, ev_7n hL, ev_uE, ev_uK]
    · simp (disch := omega) only [f_M_lose, ↓ob_h (hin _), f_M_lose_b14, f_M_lose_b29, f_M_lose_b44, ↓bnd_in, ↓Option.bind_some, ↓bd2_some, ↓bd3_some, ↓bd4_some, ↓ew_mr hL, ↓ew_00 hL, ↓ew_01 hL, ↓ew_02 hL, ↓ew_1r hL, ↓ew_lr hL, ↓ew_30 hL, ↓ew_31 hL, ↓ew_4r hL, ↓ew_ltr hL, ↓gd_m hL, ↓gd_0 hL, gd_t, Option.bind_some, bd2_some, bd3_some, bd4_some, gm_some, gm_none, ↓reduceIte, or_self, or_false, false_or, or_true, true_or, and_self, and_true, true_and, and_false, false_and, not_false_eq_true, not_true_eq_false, Nat.reduceAdd, Nat.reduceMul, Int32.reduceLT, Int32.reduceLE, eq_self, ev_lit, ev_10, Int32.reduceToNatClampNeg, Nat.reduceLeDiff, Nat.reduceEqDiff, Nat.reduceLT, nI_clamp, ev_ng, ev_L1, ev_L2, ev_L3, ev_K1, ev_K2, ev_K3, ev_K4, ev_K5, ev_a1, ev_m1, ev_s1, ev_s2, nI_add, ev_nle, ev_le, ev_lt, ev_nlt, ev_ne, ev_eq, ev_uI hL, ev_uJ hL, ev_m hL, ev_mr hL, ev_mt hL, ev_mz hL, ev_mj hL, ev_n8 hL, ev_n64 hL, ev_n229 hL, ev_n254 hL, ev_n257 hL, ev_n259 hL, ev_n260 hL, ev_n261 hL, ev_0 hL, ev_00 hL, ev_01 hL, ev_02 hL, ev_1 hL, ev_1n hL, ev_1r hL, ev_lg hL, ev_lr hL, ev_sr hL, ev_2 hL, ev_2n hL, ev_3 hL, ev_30 hL, ev_31 hL, ev_4 hL, ev_4n hL, ev_5 hL, ev_5n hL, ev_4r hL, ev_lt1 hL, ev_ltr hL, ev_lnt hL, ev_lnn hL, ev_7 hL, ev_7n hL, ev_uE, ev_uK]
end LOSE
