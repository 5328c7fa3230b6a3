-- The letter in hand; the answer to one that asks
/-- the letter in hand: the class's sheet k0, the reference's numbers kd .. to and its buffer -/
def HND (A : Nat → Nat) (k0 : Nat) (Ic : gMI) (Jc : gMJ) (Ir : gMI) (Jr : gMJ) (kd nm tn st fr to : Int32) (am : Nat) : Prop := am ≤ 64 ∧ Ic (A (32 + k0)) 1 = nI am ∧ (Ic (A (32 + k0)) 3 = kd ∧ Ic (A (32 + k0)) 4 = nm ∧ Ic (A (32 + k0)) 5 = tn ∧ Ic (A (32 + k0)) 6 = st ∧ Ic (A (32 + k0)) 7 = fr ∧ Ic (A (32 + k0)) 8 = to) ∧ Jc (A (32 + k0)) 2 = Jr (A 6) 38 ∧ Ir (A 6) 37 = nI am ∧ ∀ j, j < 64 → Ir (A 262) j = if j < am then Ic (A (129 + k0)) j else 0
/-- what holds of a letter of question q, by its numbers -/
def VHd (M : gMI) (q : Nat) (f : Nat → Option Nat) (tq sq : Nat) (kd tn st fr to am x y : Int32) : Prop := ∃ tt ss : Nat, tt ≤ tq ∧ ss < 2 ^ 30 ∧ tn = nI tt ∧ st = nI ss ∧ (tt = tq → ss ≤ sq) ∧ (kd = 7 → ∀ t, t < 8 → to = nI t → f t ≠ none ∧ lcn M t (f t) x.toInt y.toInt ≤ 64) ∧ (tt = tq → ss = sq → M 238 q = 0 → (kd = M 242 q ∧ ((M 242 q = 3 ∨ M 242 q = 7) → x = M 244 q ∧ y = M 245 q)) ∨ (kd = M 242 q + 1 ∧ ∀ g, g < 8 → fr = nI g → VAn M q g f x y am))
theorem VLq.hd {M : gMI} {i q tq sq : Nat} {f : Nat → Option Nat} (h : VLq M i q f tq sq) : VHd M q f tq sq (M 259 (7 * i)) (M 259 (7 * i + 2)) (M 259 (7 * i + 3)) (M 259 (7 * i + 4)) (M 259 (7 * i + 5)) (M 259 (7 * i + 6)) (M 260 (64 * i)) (M 260 (64 * i + 1)) := h
theorem VHd.lq {M : gMI} {i q tq sq : Nat} {f : Nat → Option Nat} (h : VHd M q f tq sq (M 259 (7 * i)) (M 259 (7 * i + 2)) (M 259 (7 * i + 3)) (M 259 (7 * i + 4)) (M 259 (7 * i + 5)) (M 259 (7 * i + 6)) (M 260 (64 * i)) (M 260 (64 * i + 1))) : VLq M i q f tq sq := h
section REP
variable {S : gS} {A : Nat → Nat} {ex : Nat → Bool} {b c N : Nat} {sz pi am nu : Nat → Nat} {fz : Nat → Nat → Option Nat} {cm : Nat → Nat → Bool} {gc : Nat → Nat → Nat} {Ic Ir : gMI} {Jc Jr : gMJ} {q t n : Nat}
theorem FB.lcnE (h : FB S A Ic Ir q t n) (a b : Int) : lcn (mI A Ic Ir) t (some n) a b = pu_cnt a b (rI Ic (A (300 + 40 * q + 26 + t))) n := by
  have e2 : rdM (mI A Ic Ir) t = rd Ir (fun f => A (226 + f)) t := by
    funext i; unfold rdM rd; simp (disch := omega) only [mI_c, mI_r, mJ_c, mJ_r]
  unfold lcn
  rw [e2, h.2.2.cnt]; rfl
theorem reply_to (hL : Lay S A ex) {k k0 : Nat} (hk : k < 97) (hk0 : k0 < 97) (hne : k ≠ k0) (I : gMI) (J : gMJ) : ∃ I', f_Letter_replyTo S I J (A (32 + k)) (A (32 + k0)) = some (I', upJ J (A (32 + k)) 2 0) ∧ I' (A (32 + k)) 1 = nI 0 ∧ (I' (A (32 + k)) 3 = I (A (32 + k0)) 3 + 1 ∧ I' (A (32 + k)) 4 = I (A (32 + k0)) 4 ∧ I' (A (32 + k)) 5 = I (A (32 + k0)) 5 ∧ I' (A (32 + k)) 6 = I (A (32 + k0)) 6 ∧ I' (A (32 + k)) 7 = I (A (32 + k0)) 8 ∧ I' (A (32 + k)) 8 = I (A (32 + k0)) 7) ∧ ∀ d j, d ≠ 32 + k → I' (A d) j = I (A d) j := by
  obtain ⟨I1, hI1⟩ : ∃ I1 : gMI, I1 = upI (upI (upI (upI (upI (upI (upI I (A (32 + k)) 3 (I (A (32 + k0)) 3 + 1)) (A (32 + k)) 4 (I (A (32 + k0)) 4)) (A (32 + k)) 5 (I (A (32 + k0)) 5)) (A (32 + k)) 6 (I (A (32 + k0)) 6)) (A (32 + k)) 7 (I (A (32 + k0)) 8)) (A (32 + k)) 8 (I (A (32 + k0)) 7)) (A (32 + k)) 1 0 := ⟨_, rfl⟩
  refine ⟨I1, ?_, by rw [hI1, ev_uE]; rfl, ?_, fun d j d1 => ?_⟩
  · rw [hI1]
    simp (disch := omega) only [f_Letter_replyTo, f_Letter_address, ↓bnd_in, ↓Option.bind_some, ↓bd2_some, ↓bd3_some, ↓bd4_some, ↓ew_mr hL, ↓ew_00 hL, ↓ew_01 hL, ↓ew_02 hL, ↓ew_1r hL, ↓ew_lr hL, ↓ew_30 hL, ↓ew_31 hL, ↓ew_4r hL, ↓ew_ltr hL, ↓gd_m hL, ↓gd_0 hL, gd_t, Option.bind_some, bd2_some, bd3_some, bd4_some, gm_some, gm_none, ↓reduceIte, or_self, or_false, false_or, or_true, true_or, and_self, and_true, true_and, and_false, false_and, not_false_eq_true, not_true_eq_false, Nat.reduceAdd, Nat.reduceMul, Int32.reduceLT, Int32.reduceLE, eq_self, ev_lit, ev_10, Int32.reduceToNatClampNeg, Nat.reduceLeDiff, Nat.reduceEqDiff, Nat.reduceLT, nI_clamp, ev_ng, ev_L1, ev_L2, ev_L3, ev_K1, ev_K2, ev_K3, ev_K4, ev_K5, ev_a1, ev_m1, ev_s1, ev_s2, nI_add, ev_nle, ev_le, ev_lt, ev_nlt, ev_ne, ev_eq, ev_uI hL, ev_uJ hL, ev_m hL, ev_mr hL, ev_mt hL, ev_mz hL, ev_mj hL, ev_n8 hL, ev_n64 hL, ev_n229 hL, ev_n254 hL, ev_n257 hL, ev_n259 hL, ev_n260 hL, ev_n261 hL, ev_0 hL, ev_00 hL, ev_01 hL, ev_02 hL, ev_1 hL, ev_1n hL, ev_1r hL, ev_lg hL, ev_lr hL, ev_sr hL, ev_2 hL, ev_2n hL, ev_3 hL, ev_30 hL, ev_31 hL, ev_4 hL, ev_4n hL, ev_5 hL, ev_5n hL, ev_4r hL, ev_lt1 hL, ev_ltr hL, ev_lnt hL, ev_lnn hL, ev_7 hL, ev_7n hL, ev_uE, ev_uK]
  · rw [hI1]
    simp (disch := omega) only [↓bnd_in, ↓Option.bind_some, ↓bd2_some, ↓bd3_some, ↓bd4_some, ↓ew_mr hL, ↓ew_00 hL, ↓ew_01 hL, ↓ew_02 hL, ↓ew_1r hL, ↓ew_lr hL, ↓ew_30 hL, ↓ew_31 hL, ↓ew_4r hL, ↓ew_ltr hL, ↓gd_m hL, ↓gd_0 hL, gd_t, Option.bind_some, bd2_some, bd3_some, bd4_some, gm_some, gm_none, ↓reduceIte, or_self, or_false, false_or, or_true, true_or, and_self, and_true, true_and, and_false, false_and, not_false_eq_true, not_true_eq_false, Nat.reduceAdd, Nat.reduceMul, Int32.reduceLT, Int32.reduceLE, eq_self, ev_lit, ev_10, Int32.reduceToNatClampNeg, Nat.reduceLeDiff, Nat.reduceEqDiff, Nat.reduceLT, nI_clamp, ev_ng, ev_L1, ev_L2, ev_L3, ev_K1, ev_K2, ev_K3, ev_K4, ev_K5, ev_a1, ev_m1, ev_s1, ev_s2, nI_add, ev_nle, ev_le, ev_lt, ev_nlt, ev_ne, ev_eq, ev_uI hL, ev_uJ hL, ev_m hL, ev_mr hL, ev_mt hL, ev_mz hL, ev_mj hL, ev_n8 hL, ev_n64 hL, ev_n229 hL, ev_n254 hL, ev_n257 hL, ev_n259 hL, ev_n260 hL, ev_n261 hL, ev_0 hL, ev_00 hL, ev_01 hL, ev_02 hL, ev_1 hL, ev_1n hL, ev_1r hL, ev_lg hL, ev_lr hL, ev_sr hL, ev_2 hL, ev_2n hL, ev_3 hL, ev_30 hL, ev_31 hL, ev_4 hL, ev_4n hL, ev_5 hL, ev_5n hL, ev_4r hL, ev_lt1 hL, ev_ltr hL, ev_lnt hL, ev_lnn hL, ev_7 hL, ev_7n hL, ev_uE, ev_uK]
  · rw [hI1]
    simp (disch := omega) only [↓bnd_in, ↓Option.bind_some, ↓bd2_some, ↓bd3_some, ↓bd4_some, ↓ew_mr hL, ↓ew_00 hL, ↓ew_01 hL, ↓ew_02 hL, ↓ew_1r hL, ↓ew_lr hL, ↓ew_30 hL, ↓ew_31 hL, ↓ew_4r hL, ↓ew_ltr hL, ↓gd_m hL, ↓gd_0 hL, gd_t, Option.bind_some, bd2_some, bd3_some, bd4_some, gm_some, gm_none, ↓reduceIte, or_self, or_false, false_or, or_true, true_or, and_self, and_true, true_and, and_false, false_and, not_false_eq_true, not_true_eq_false, Nat.reduceAdd, Nat.reduceMul, Int32.reduceLT, Int32.reduceLE, eq_self, ev_lit, ev_10, Int32.reduceToNatClampNeg, Nat.reduceLeDiff, Nat.reduceEqDiff, Nat.reduceLT, nI_clamp, ev_ng, ev_L1, ev_L2, ev_L3, ev_K1, ev_K2, ev_K3, ev_K4, ev_K5, ev_a1, ev_m1, ev_s1, ev_s2, nI_add, ev_nle, ev_le, ev_lt, ev_nlt, ev_ne, ev_eq, ev_uI hL, ev_uJ hL, ev_m hL, ev_mr hL, ev_mt hL, ev_mz hL, ev_mj hL, ev_n8 hL, ev_n64 hL, ev_n229 hL, ev_n254 hL, ev_n257 hL, ev_n259 hL, ev_n260 hL, ev_n261 hL, ev_0 hL, ev_00 hL, ev_01 hL, ev_02 hL, ev_1 hL, ev_1n hL, ev_1r hL, ev_lg hL, ev_lr hL, ev_sr hL, ev_2 hL, ev_2n hL, ev_3 hL, ev_30 hL, ev_31 hL, ev_4 hL, ev_4n hL, ev_5 hL, ev_5n hL, ev_4r hL, ev_lt1 hL, ev_ltr hL, ev_lnt hL, ev_lnn hL, ev_7 hL, ev_7n hL, ev_uE, ev_uK]
theorem fill_all (hL : Lay S A ex) (hq : q < 8) (ht : t < 8) {k k0 ka al : Nat} (hk : k < 97) (hk0 : k0 < 97) (hF : FB S A Ic Ir q t n) (h1 : Ic (A (32 + k)) 1 = nI 0) (hj : Jc (A (32 + k)) 2 = 0) (hal : al ≤ 64) (h10 : Ic (A (32 + k0)) 1 = nI al) (hb : ∀ j, j < 64 → Ir (A 262) j = if j < al then Ic (A (129 + k0)) j else 0) (hka : ka = 1 ∨ ka = 3 ∨ ka = 5 ∨ ka = 7 ∨ ka = 9 ∨ ka = 11) (kk : Ic (A (32 + k0)) 3 = nI ka) (h7 : ka = 7 → pu_cnt (Ir (A 262) 0).toInt (Ir (A 262) 1).toInt (rI Ic (A (300 + 40 * q + 26 + t))) n ≤ 64) : FILd S A q t n k k0 ka (Ir (A 262) 0) (Ir (A 262) 1) Ic Jc Ir Jr := by
  have nx : f_Letter_number S Ic Jc (A (32 + k0)) 0 = some (Ir (A 262) 0) := by
    rw [hb 0 (by omega)]; exact num_eq (j := 0) hL hk0 (by omega) h10 hal
  have ny : f_Letter_number S Ic Jc (A (32 + k0)) 1 = some (Ir (A 262) 1) := by
    rw [hb 1 (by omega)]; exact num_eq (j := 1) hL hk0 (by omega) h10 hal
  have nz : f_Letter_number S Ic Jc (A (32 + k0)) 2 = some (Ir (A 262) 2) := by
    rw [hb 2 (by omega)]; exact num_eq (j := 2) hL hk0 (by omega) h10 hal
  rcases hka with rfl | rfl | rfl | rfl | rfl | rfl
  · exact fill1 hL hq ht hk hk0 hF h1 hj nx ny kk
  · exact fill3 hL hq ht hk hk0 hF h1 hj nx ny rfl rfl kk
  · exact fill5 hL hq ht hk hk0 hF h1 hj nx ny nz rfl rfl rfl kk
  · exact fill7 hL hq ht hk hk0 hF h1 hj nx ny rfl rfl kk (h7 rfl)
  · exact fill9 hL hq ht hk hk0 hF h1 hj nx ny rfl rfl kk
  · exact fill11 hL hq ht hk hk0 hF h1 nx ny rfl rfl kk
theorem rep_both (hL : Lay S A ex) (h : R4 (mI A Ic Ir) (mJ A Jc Jr) ex b sz c pi am fz cm gc nu N) (hc : c < 96) {ka fr al : Nat} {tn st : Int32} (hH : HND A (pi 96) Ic Jc Ir Jr (nI ka) (nI (nu q)) tn st (nI fr) (nI t) al) (hka : ka = 1 ∨ ka = 3 ∨ ka = 5 ∨ ka = 7 ∨ ka = 9 ∨ ka = 11) (hfr : fr < 8) (ht : t < 8) (hq : q < 8) (he : ex q = true) (hn : 0 < nu q)
    (hv : ∀ tq sq, tq ≤ b → sq ≤ b → Ir (A 236) q = nI tq → Ir (A 237) q = nI sq → VHd (mI A Ic Ir) q (fz q) tq sq (nI ka) tn st (nI fr) (nI t) (nI al) (Ir (A 262) 0) (Ir (A 262) 1)) :
    ∃ Ic' Jc' Ir' Jr' c' am', f_H_reply_b27 S Ic Jc (A 0) (A (32 + pi 96)) (A (300 + 40 * q)) (nI t) = some (Ic', Jc') ∧ f_M_bring_b295 S Ir Jr (A 6) (nI ka) (nI (nu q)) tn st (nI fr) (nI t) (nI q) = some (Ir', Jr') ∧ R4 (mI A Ic' Ir') (mJ A Jc' Jr') ex b sz c' pi am' fz cm gc nu N ∧ FrC A Ic Ic' ∧ FrC A Jc Jc' ∧ FrR A Ir Ir' ∧ FrR A Jr Jr' ∧ Ir' (A 6) 0 = Ir (A 6) 0 := by
  have hh := h
  obtain ⟨h0, hlg, h2, h3, h4⟩ := hh
  obtain ⟨⟨t0, t1, t2, t3, t4, t5⟩, ⟨s0, s1⟩, ⟨d0, d1⟩, d2, -⟩ := (hL.qy hq he).2
  obtain ⟨d2a, d2b, -⟩ := d2 t ht
  obtain ⟨g1, g2⟩ := ((h3.2.2.2.2.2 q hq).1 he).2.1 t ht
  simp (disch := omega) only [mI_c, mI_r, mJ_c, mJ_r] at g1
  cases hz : fz q t with
  | none =>
    rw [hz] at g2
    dsimp only at g2
    simp (disch := omega) only [mI_c, mI_r, mJ_c, mJ_r] at g2
    rw [g2] at g1
    refine ⟨Ic, Jc, Ir, Jr, c, am, ?_, ?_, h, FrC.rfl, FrC.rfl, FrR.rfl, FrR.rfl, rfl⟩
    · simp (disch := omega) only [f_H_reply_b27, t0, ↓ob_h t1, s0, s1, g1, ↓bnd_in, ↓Option.bind_some, ↓bd2_some, ↓bd3_some, ↓bd4_some, ↓ew_mr hL, ↓ew_00 hL, ↓ew_01 hL, ↓ew_02 hL, ↓ew_1r hL, ↓ew_lr hL, ↓ew_30 hL, ↓ew_31 hL, ↓ew_4r hL, ↓ew_ltr hL, ↓gd_m hL, ↓gd_0 hL, gd_t, Option.bind_some, bd2_some, bd3_some, bd4_some, gm_some, gm_none, ↓reduceIte, or_self, or_false, false_or, or_true, true_or, and_self, and_true, true_and, and_false, false_and, not_false_eq_true, not_true_eq_false, Nat.reduceAdd, Nat.reduceMul, Int32.reduceLT, Int32.reduceLE, eq_self, ev_lit, ev_10, Int32.reduceToNatClampNeg, Nat.reduceLeDiff, Nat.reduceEqDiff, Nat.reduceLT, nI_clamp, ev_ng, ev_L1, ev_L2, ev_L3, ev_K1, ev_K2, ev_K3, ev_K4, ev_K5, ev_a1, ev_m1, ev_s1, ev_s2, nI_add, ev_nle, ev_le, ev_lt, ev_nlt, ev_ne, ev_eq, ev_uI hL, ev_uJ hL, ev_m hL, ev_mr hL, ev_mt hL, ev_mz hL, ev_mj hL, ev_n8 hL, ev_n64 hL, ev_n229 hL, ev_n254 hL, ev_n257 hL, ev_n259 hL, ev_n260 hL, ev_n261 hL, ev_0 hL, ev_00 hL, ev_01 hL, ev_02 hL, ev_1 hL, ev_1n hL, ev_1r hL, ev_lg hL, ev_lr hL, ev_sr hL, ev_2 hL, ev_2n hL, ev_3 hL, ev_30 hL, ev_31 hL, ev_4 hL, ev_4n hL, ev_5 hL, ev_5n hL, ev_4r hL, ev_lt1 hL, ev_ltr hL, ev_lnt hL, ev_lnn hL, ev_7 hL, ev_7n hL, ev_uE, ev_uK]
    · simp (disch := omega) only [f_M_bring_b295, g2, f_M_bring_b337, ↓bnd_in, ↓Option.bind_some, ↓bd2_some, ↓bd3_some, ↓bd4_some, ↓ew_mr hL, ↓ew_00 hL, ↓ew_01 hL, ↓ew_02 hL, ↓ew_1r hL, ↓ew_lr hL, ↓ew_30 hL, ↓ew_31 hL, ↓ew_4r hL, ↓ew_ltr hL, ↓gd_m hL, ↓gd_0 hL, gd_t, Option.bind_some, bd2_some, bd3_some, bd4_some, gm_some, gm_none, ↓reduceIte, or_self, or_false, false_or, or_true, true_or, and_self, and_true, true_and, and_false, false_and, not_false_eq_true, not_true_eq_false, Nat.reduceAdd, Nat.reduceMul, Int32.reduceLT, Int32.reduceLE, eq_self, ev_lit, ev_10, Int32.reduceToNatClampNeg, Nat.reduceLeDiff, Nat.reduceEqDiff, Nat.reduceLT, nI_clamp, ev_ng, ev_L1, ev_L2, ev_L3, ev_K1, ev_K2, ev_K3, ev_K4, ev_K5, ev_a1, ev_m1, ev_s1, ev_s2, nI_add, ev_nle, ev_le, ev_lt, ev_nlt, ev_ne, ev_eq, ev_uI hL, ev_uJ hL, ev_m hL, ev_mr hL, ev_mt hL, ev_mz hL, ev_mj hL, ev_n8 hL, ev_n64 hL, ev_n229 hL, ev_n254 hL, ev_n257 hL, ev_n259 hL, ev_n260 hL, ev_n261 hL, ev_0 hL, ev_00 hL, ev_01 hL, ev_02 hL, ev_1 hL, ev_1n hL, ev_1r hL, ev_lg hL, ev_lr hL, ev_sr hL, ev_2 hL, ev_2n hL, ev_3 hL, ev_30 hL, ev_31 hL, ev_4 hL, ev_4n hL, ev_5 hL, ev_5n hL, ev_4r hL, ev_lt1 hL, ev_ltr hL, ev_lnt hL, ev_lnn hL, ev_7 hL, ev_7n hL, ev_uE, ev_uK]
  | some n =>
    have hF : FB S A Ic Ir q t n := FB.of hL h hq he ht hz
    rw [hz] at g2
    dsimp only at g2
    obtain ⟨g2a, g2b, -⟩ := g2
    simp (disch := omega) only [mI_c, mI_r, mJ_c, mJ_r] at g2b
    have hnm : ¬ nI n = (-1 : Int32) := fun e => by
      have := (nI_pos' (n := n) (by have := hF.le; omega))
      rw [e] at this
      exact absurd this (by decide)
    rw [g2b] at g1
    obtain ⟨p1, p2, p3, p4, p5, p6⟩ := h2
    simp (disch := omega) only [mI_c, mI_r, mJ_c, mJ_r] at p2 p3
    have pc := (p4 c (by omega)).1
    have p96 := (p4 96 (by omega)).1
    have ec := (p4 c (by omega)).2
    simp (disch := omega) only [mI_c, mI_r, mJ_c, mJ_r] at ec
    have hne : pi c ≠ pi 96 := fun e => by have := p5 c 96 (by omega) (by omega) e; omega
    obtain ⟨al1, i1, ⟨i3, i4, i5, i6, i7, i8⟩, ij, r37, rb⟩ := hH
    have sc := Post_send_in (J := Jc) hL hc pc p2 ec
    obtain ⟨Ic1, hI1⟩ : ∃ I1 : gMI, I1 = upI Ic (A 3) 2 (nI (c + 1)) := ⟨_, rfl⟩
    rw [← hI1] at sc
    have k1 : ∀ d k, d ≠ 3 → Ic1 (A d) k = Ic (A d) k := fun d k hd => by rw [hI1, ev_uI hL (by omega)]
    obtain ⟨Ic2, x1, x2, ⟨x3, x4, x5, x6, x7, x8⟩, x9⟩ := reply_to hL pc p96 hne Ic1 Jc
    have k2 : ∀ d k, d ≠ 3 → d ≠ 32 + pi c → Ic2 (A d) k = Ic (A d) k := fun d k e1 e2 => by rw [x9 _ _ e2, k1 _ _ e1]
    have hF2 : FB S A Ic2 Ir q t n := hF.frame (fun j => k2 _ _ (by omega) (by omega)) (fun j => k2 _ _ (by omega) (by omega)) (fun _ => rfl) (fun _ => rfl)
    have er : rI Ic2 (A (300 + 40 * q + 26 + t)) = rI Ic (A (300 + 40 * q + 26 + t)) := by
      funext j; unfold rI; rw [k2 _ _ (by omega) (by omega)]
    obtain ⟨v1, tq, sq, u1, u2, u3, u4, u5⟩ := h4.2 q hq hn
    simp (disch := omega) only [mI_c, mI_r, mJ_c, mJ_r] at u3 u4
    obtain ⟨tt, ss, w1, w2, w3, w4, w5, w6, w7⟩ := hv tq sq u1 u2 u3 u4
    obtain ⟨Ic3, Jc3, Ir3, Jr3, a, y1, y2, y3, y4, y5, y6, y7, y8, y9, y10, y11, y12, y13⟩ := fill_all (Jc := upJ Jc (A (32 + pi c)) 2 0) (Jr := Jr) hL hq ht pc p96 hF2 x2 ev_uK al1 (by rw [k2 _ _ (by omega) (by omega)]; exact i1) (fun j hj => by rw [k2 _ _ (by omega) (by omega)]; exact rb j hj) hka (by rw [k2 _ _ (by omega) (by omega)]; exact i3) (fun e => by
      rw [er, ← hF.lcnE, ← hz]
      exact (w6 (by rw [e]; rfl) t ht rfl).2)
    rw [er] at y12 y13
    obtain ⟨Ir4, m1, m2, m3, m4, m5⟩ := M_send_in (I := Ir3) (J := Jr3) hL hc y3 (by rw [y10 _ _ (by omega) (by omega)]; exact p3) y5 (nI ka + 1) (nI (nu q)) tn st (nI t) (nI fr)
    obtain ⟨m20, m21, m22, m23, m24, m25, m26⟩ := m2
    have k4 : ∀ d k, ¬ (d = 6 ∧ (k = 32 ∨ k = 37)) → d ≠ 262 → ¬ (d = 259 ∧ 7 * c ≤ k) → ¬ (d = 260 ∧ 64 * c ≤ k) → Ir4 (A d) k = Ir (A d) k := fun d k e1 e2 e3 e4 => by
      rw [m5 d k (by omega) e3 e4, y10 d k (by omega) e2]
    have k3 : ∀ d k, ¬ (d = 3 ∧ k = 2) → d ≠ 32 + pi c → d ≠ 129 + pi c → Ic3 (A d) k = Ic (A d) k := fun d k e1 e2 e3 => by
      rw [y8 d k (by omega) e3, x9 _ _ e2, hI1, ev_uI hL (by omega)]
    have el := lcn_mx (A := A) (Ic := Ic) (Ir := Ir) (Ic' := Ic3) (Ir' := Ir4) (fun k => k4 229 k (by omega) (by omega) (by omega) (by omega))
    have ka12 : ka < 12 := by omega
    have hrel := snd_rel (Ic' := Ic3) (Ir' := Ir4) (Jc' := Jc3) (Jr' := upJ Jr3 (A 261) c (Jr3 (A 6) 38)) (a := a) h hc k3 (fun d k e1 e2 e3 e4 => k4 d k (by omega) e4 e2 e3)
      (fun d k e1 e2 => by rw [y9 d k (by omega), ev_uJ hL (by omega)]) (fun d k e1 e2 => by rw [ev_uJ hL (by omega), y11 d k (by omega)])
      (by rw [y8 _ _ (by omega) (by omega), x9 _ _ (by omega), hI1, ev_uE]) m4
      (by
        refine ⟨y3, by simp (disch := omega) only [mI_c, mI_r, mJ_c, mJ_r]; exact y4, by simp (disch := omega) only [mI_c, mI_r, mJ_c, mJ_r]; exact m26, ?_, ?_, ?_, ?_, ?_, ?_, ?_, fun j hj => ?_⟩
        · simp (disch := omega) only [mI_c, mI_r, mJ_c, mJ_r]; rw [y8 _ _ (by omega) (by omega), x3, k1 _ _ (by omega), i3, m20]
        · simp (disch := omega) only [mI_c, mI_r, mJ_c, mJ_r]; rw [y8 _ _ (by omega) (by omega), x4, k1 _ _ (by omega), i4, m21]
        · simp (disch := omega) only [mI_c, mI_r, mJ_c, mJ_r]; rw [y8 _ _ (by omega) (by omega), x5, k1 _ _ (by omega), i5, m22]
        · simp (disch := omega) only [mI_c, mI_r, mJ_c, mJ_r]; rw [y8 _ _ (by omega) (by omega), x6, k1 _ _ (by omega), i6, m23]
        · simp (disch := omega) only [mI_c, mI_r, mJ_c, mJ_r]; rw [y8 _ _ (by omega) (by omega), x7, k1 _ _ (by omega), i8, m24]
        · simp (disch := omega) only [mI_c, mI_r, mJ_c, mJ_r]; rw [y8 _ _ (by omega) (by omega), x8, k1 _ _ (by omega), i7, m25]
        · simp (disch := omega) only [mI_c, mI_r, mJ_c, mJ_r]; rw [ev_uK, y7]
        · simp (disch := omega) only [mI_c, mI_r, mJ_c, mJ_r]; rw [m3 j hj]
          by_cases e : j < a
          · rw [if_pos e, if_pos e, y6 j e]
          · rw [if_neg e, if_neg e])
      ⟨ka + 1, t, fr, nu q, by omega, by omega, ht, hfr, (h3.2.2.2.1 q hq).2, by simp (disch := omega) only [mI_c, mI_r, mJ_c, mJ_r]; rw [m20, ev_a1], by simp (disch := omega) only [mI_c, mI_r, mJ_c, mJ_r]; exact m24, by simp (disch := omega) only [mI_c, mI_r, mJ_c, mJ_r]; exact m25, by simp (disch := omega) only [mI_c, mI_r, mJ_c, mJ_r]; exact m21⟩
      (fun p hp8 hnp hep tp sp c1 c2 c3 c4 => by
        have epq : p = q := by
          have hp1 := h.num hp8
          have l1 := (h3.2.2.2.1 p hp8).2
          have l2 := (h3.2.2.2.1 q hq).2
          have l3 := h3.2.2.1
          rw [m21, hp1] at hep
          have := (nI_eq (by omega) (by omega)).mp hep
          exact h3.2.2.2.2.1 p q hp8 hq this.symm hnp
        subst epq
        obtain ⟨tt, ss, w1, w2, w3, w4, w5, w6, w7⟩ := hv tp sp c1 c2 c3 c4
        have e42 : Ir4 (A 242) p = Ir (A 242) p := k4 _ _ (by omega) (by omega) (by omega) (by omega)
        have e44 : Ir4 (A 244) p = Ir (A 244) p := k4 _ _ (by omega) (by omega) (by omega) (by omega)
        have e45 : Ir4 (A 245) p = Ir (A 245) p := k4 _ _ (by omega) (by omega) (by omega) (by omega)
        refine ⟨tt, ss, w1, w2, by simp (disch := omega) only [mI_c, mI_r, mJ_c, mJ_r]; rw [m22]; exact w3, by simp (disch := omega) only [mI_c, mI_r, mJ_c, mJ_r]; rw [m23]; exact w4, w5, fun h7 => ?_, fun e1 e2 e3 => ?_⟩
        · simp (disch := omega) only [mI_c, mI_r, mJ_c, mJ_r] at h7
          rw [m20, ev_a1] at h7
          have := (nI_eq (b := 7) (by omega) (by omega)).mp h7
          omega
        · simp (disch := omega) only [mI_c, mI_r, mJ_c, mJ_r] at e3
          rw [k4 _ _ (by omega) (by omega) (by omega) (by omega)] at e3
          have e3' : mI A Ic Ir 238 p = 0 := by simp (disch := omega) only [mI_c, mI_r, mJ_c, mJ_r]; exact e3
          obtain ⟨o, ho, hoe⟩ : ∃ o : Nat, (o = 1 ∨ o = 3 ∨ o = 5 ∨ o = 7 ∨ o = 9 ∨ o = 11) ∧ Ir (A 242) p = nI o := by
            have := (v1.2.2 e3').1
            simp (disch := omega) only [mI_c, mI_r, mJ_c, mJ_r] at this
            rcases this with e | e | e | e | e | e
            · exact ⟨1, by omega, e⟩
            · exact ⟨3, by omega, e⟩
            · exact ⟨5, by omega, e⟩
            · exact ⟨7, by omega, e⟩
            · exact ⟨9, by omega, e⟩
            · exact ⟨11, by omega, e⟩
          rcases w7 e1 e2 e3' with ⟨z1, z2⟩ | ⟨z1, -⟩
          · simp (disch := omega) only [mI_c, mI_r, mJ_c, mJ_r] at z1 z2
            have hko : ka = o := (nI_eq (by omega) (by omega)).mp (z1.trans hoe)
            refine Or.inr ⟨?_, fun f hf ef => ?_⟩
            · simp (disch := omega) only [mI_c, mI_r, mJ_c, mJ_r]
              rw [m20, e42, ← z1]
            · simp (disch := omega) only [mI_c, mI_r, mJ_c, mJ_r] at ef
              rw [m24] at ef
              have eft : t = f := (nI_eq (by omega) (by omega)).mp ef
              subst eft
              refine ⟨by rw [hz]; exact Option.some_ne_none n, fun e => ?_, fun e => ?_⟩
              · simp (disch := omega) only [mI_c, mI_r, mJ_c, mJ_r] at e ⊢
                rw [e42] at e
                have e3k : ka = 3 := (nI_eq (b := 3) (by omega) (by omega)).mp (z1.trans e)
                obtain ⟨q1, q2, q3⟩ := y12 e3k
                obtain ⟨z3, z4⟩ := z2 (Or.inl e)
                have n0 : Ir4 (A 260) (64 * c) = Ir3 (A 262) 0 := by
                  have := m3 0 (by omega)
                  rw [if_pos (by omega)] at this; exact this
                have n1 : Ir4 (A 260) (64 * c + 1) = Ir3 (A 262) 1 := by
                  have := m3 1 (by omega)
                  rw [if_pos (by omega)] at this; exact this
                rw [el, hz, hF.lcnE, n0, n1, e44, e45, ← z3, ← z4]
                exact ⟨q2, q3⟩
              · simp (disch := omega) only [mI_c, mI_r, mJ_c, mJ_r] at e ⊢
                rw [e42] at e
                have e7k : ka = 7 := (nI_eq (b := 7) (by omega) (by omega)).mp (z1.trans e)
                obtain ⟨z3, z4⟩ := z2 (Or.inr e)
                rw [el, hz, hF.lcnE, m26, e44, e45, ← z3, ← z4, nI_toInt (by omega)]
                exact y13 e7k
          · simp (disch := omega) only [mI_c, mI_r, mJ_c, mJ_r] at z1
            rw [hoe, ev_a1] at z1
            have := (nI_eq (by omega) (by omega)).mp z1
            omega)
    refine ⟨Ic3, Jc3, Ir4, _, _, _, ?_, ?_, hrel, fun d k hd => ?_, fun d k hd => ?_, fun d k hd => ?_, fun d k hd => ?_, ?_⟩
    · simp (disch := omega) only [f_H_reply_b27, t0, ↓ob_h t1, s0, s1, g1, hnm, ↓b2_h sc, ↓gm_some, ↓b2_h x1, ↓ob_h t2, d0, d1, ↓ob_h d2a, ↓b2_h y1, f_H_reply_b70, ↓bnd_in, ↓Option.bind_some, ↓bd2_some, ↓bd3_some, ↓bd4_some, ↓ew_mr hL, ↓ew_00 hL, ↓ew_01 hL, ↓ew_02 hL, ↓ew_1r hL, ↓ew_lr hL, ↓ew_30 hL, ↓ew_31 hL, ↓ew_4r hL, ↓ew_ltr hL, ↓gd_m hL, ↓gd_0 hL, gd_t, Option.bind_some, bd2_some, bd3_some, bd4_some, gm_some, gm_none, ↓reduceIte, or_self, or_false, false_or, or_true, true_or, and_self, and_true, true_and, and_false, false_and, not_false_eq_true, not_true_eq_false, Nat.reduceAdd, Nat.reduceMul, Int32.reduceLT, Int32.reduceLE, eq_self, ev_lit, ev_10, Int32.reduceToNatClampNeg, Nat.reduceLeDiff, Nat.reduceEqDiff, Nat.reduceLT, nI_clamp, ev_ng, ev_L1, ev_L2, ev_L3, ev_K1, ev_K2, ev_K3, ev_K4, ev_K5, ev_a1, ev_m1, ev_s1, ev_s2, nI_add, ev_nle, ev_le, ev_lt, ev_nlt, ev_ne, ev_eq, ev_uI hL, ev_uJ hL, ev_m hL, ev_mr hL, ev_mt hL, ev_mz hL, ev_mj hL, ev_n8 hL, ev_n64 hL, ev_n229 hL, ev_n254 hL, ev_n257 hL, ev_n259 hL, ev_n260 hL, ev_n261 hL, ev_0 hL, ev_00 hL, ev_01 hL, ev_02 hL, ev_1 hL, ev_1n hL, ev_1r hL, ev_lg hL, ev_lr hL, ev_sr hL, ev_2 hL, ev_2n hL, ev_3 hL, ev_30 hL, ev_31 hL, ev_4 hL, ev_4n hL, ev_5 hL, ev_5n hL, ev_4r hL, ev_lt1 hL, ev_ltr hL, ev_lnt hL, ev_lnn hL, ev_7 hL, ev_7n hL, ev_uE, ev_uK]
    · simp (disch := omega) only [f_M_bring_b295, g2b, hnm, ↓b2_h y2, ↓b2_h m1, f_M_bring_b337, ↓bnd_in, ↓Option.bind_some, ↓bd2_some, ↓bd3_some, ↓bd4_some, ↓ew_mr hL, ↓ew_00 hL, ↓ew_01 hL, ↓ew_02 hL, ↓ew_1r hL, ↓ew_lr hL, ↓ew_30 hL, ↓ew_31 hL, ↓ew_4r hL, ↓ew_ltr hL, ↓gd_m hL, ↓gd_0 hL, gd_t, Option.bind_some, bd2_some, bd3_some, bd4_some, gm_some, gm_none, ↓reduceIte, or_self, or_false, false_or, or_true, true_or, and_self, and_true, true_and, and_false, false_and, not_false_eq_true, not_true_eq_false, Nat.reduceAdd, Nat.reduceMul, Int32.reduceLT, Int32.reduceLE, eq_self, ev_lit, ev_10, Int32.reduceToNatClampNeg, Nat.reduceLeDiff, Nat.reduceEqDiff, Nat.reduceLT, nI_clamp, ev_ng, ev_L1, ev_L2, ev_L3, ev_K1, ev_K2, ev_K3, ev_K4, ev_K5, ev_a1, ev_m1, ev_s1, ev_s2, nI_add, ev_nle, ev_le, ev_lt, ev_nlt, ev_ne, ev_eq, ev_uI hL, ev_uJ hL, ev_m hL, ev_mr hL, ev_mt hL, ev_mz hL, ev_mj hL, ev_n8 hL, ev_n64 hL, ev_n229 hL, ev_n254 hL, ev_n257 hL, ev_n259 hL, ev_n260 hL, ev_n261 hL, ev_0 hL, ev_00 hL, ev_01 hL, ev_02 hL, ev_1 hL, ev_1n hL, ev_1r hL, ev_lg hL, ev_lr hL, ev_sr hL, ev_2 hL, ev_2n hL, ev_3 hL, ev_30 hL, ev_31 hL, ev_4 hL, ev_4n hL, ev_5 hL, ev_5n hL, ev_4r hL, ev_lt1 hL, ev_ltr hL, ev_lnt hL, ev_lnn hL, ev_7 hL, ev_7n hL, ev_uE, ev_uK]
    · exact k3 _ _ (by omega) (by omega) (by omega)
    · rw [y9 d k (by omega), ev_uJ hL (by omega)]
    · exact k4 _ _ (by omega) (by omega) (by omega) (by omega)
    · rw [ev_uJ hL (by omega), y11 _ _ (by omega)]
    · exact k4 _ _ (by omega) (by omega) (by omega) (by omega)
end REP
