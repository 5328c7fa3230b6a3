-- goOn: how it ends
section ENDS
variable {S : gS} {A : Nat → Nat} {ex : Nat → Bool} {b c N q : Nat} {sz pi am nu : Nat → Nat} {fz : Nat → Nat → Option Nat} {cm : Nat → Nat → Bool} {gc : Nat → Nat → Nat} {Ic Ic2 Ir Ir2 : gMI} {Jc Jc2 Jr Jr2 : gMJ}
theorem RRe.congr2 {M M' : gMI} {K K' : gMJ} {p : Nat} {z : Nat → Bool} (h : RRe M K p z) (hM : ∀ d k, (d = 300 + 40 * p + 3 ∨ d = 300 + 40 * p + 6 ∨ (300 + 40 * p + 10 ≤ d ∧ d < 300 + 40 * p + 18) ∨ d = 253 ∨ d = 254) → M' d k = M d k) (hK : ∀ d k, d = 300 + 40 * p + 3 ∨ d = 255 → K' d k = K d k) : RRe M' K' p z := by
  obtain ⟨c1, c2, c3, c4⟩ := h
  refine ⟨fun l hl => ?_, ?_, ?_, fun l hl hc k hk => ?_⟩
  · rw [hM _ _ (by omega), hM _ _ (by omega)]; exact c1 l hl
  · rw [hM _ _ (by omega)]; exact c2
  · rw [hK _ _ (by omega), c3]
    have : ∀ n, n ≤ 8 → cmS z (fun l => K 255 (8 * p + l)) n = cmS z (fun l => K' 255 (8 * p + l)) n := fun n hn => by
      induction n with
      | zero => rfl
      | succ n ih =>
        show _ + _ = _ + _
        rw [ih (by omega)]
        dsimp only
        rw [hK _ _ (by omega)]
    exact this 8 (by omega)
  · rw [hM _ _ (by omega), hM _ _ (by omega)]; exact c4 l hl hc k hk
theorem RGv.congr2 {M M' : gMI} {p : Nat} {z : Nat → Bool} {g : Nat → Nat} (h : RGv M p z g) (hM : ∀ d k, (d = 300 + 40 * p + 8 ∨ d = 300 + 40 * p + 9 ∨ d = 256 ∨ d = 257) → M' d k = M d k) : RGv M' p z g := by
  obtain ⟨c1, n, c2, c3, c4, c5⟩ := h
  have e1 : rI M' (300 + 40 * p + 9) = rI M (300 + 40 * p + 9) := by
    funext i; unfold rI; rw [hM _ _ (by omega)]
  refine ⟨fun l hl hz => ⟨(c1 l hl hz).1, by rw [hM _ _ (by omega)]; exact (c1 l hl hz).2⟩, n, c2, by rw [hM _ _ (by omega)]; exact c3, by rw [e1]; exact c4, fun φ => ?_⟩
  rw [e1, c5 φ]
  exact pu_rows_congr fun l hl => ⟨rfl, fun i hi => by rw [hM _ _ (by omega)]⟩
/-- cells that goOn may change -/
def gC (q d k : Nat) : Prop := (d = 300 + 40 * q ∧ (k = 5 ∨ (13 ≤ k ∧ k ≤ 17))) ∨ d = 300 + 40 * q + 4 ∨ d = 300 + 40 * q + 5
def gR (q d k : Nat) : Prop := 238 ≤ d ∧ d ≤ 251 ∧ d ≠ 242 ∧ d ≠ 243 ∧ k = q
/-- class (X, then askUnlessDone) and reference (Y) go on alike -/
def GoE (S : gS) (A : Nat → Nat) (ex : Nat → Bool) (b N q : Nat) (sz pi nu : Nat → Nat) (fz : Nat → Nat → Option Nat) (gc : Nat → Nat → Nat) (Ic Ir : gMI) (Jc Jr : gMJ) (X Y : Option (gMI × gMJ)) : Prop :=
  ∃ Ic2 Jc2 Ic' Jc' Ir' Jr' c' am' cm', X = some (Ic2, Jc2) ∧ f_H_askUnlessDone S Ic2 Jc2 (A 0) (A (300 + 40 * q)) = some (Ic', Jc') ∧ Y = some (Ir', Jr') ∧ R4 (mI A Ic' Ir') (mJ A Jc' Jr') ex (b + 1) sz c' pi am' fz cm' gc nu N ∧ FrC A Ic Ic' ∧ FrC A Jc Jc' ∧ FrR A Ir Ir' ∧ FrR A Jr Jr' ∧ Ir' (A 6) 0 = Ir (A 6) 0
theorem end_ask (hL : Lay S A ex) (hb : b + 1 < 2 ^ 30) (hq : q < 8) (he : ex q = true) (hn : 0 < nu q) (h : R4 (mI A Ic Ir) (mJ A Jc Jr) ex b sz c pi am fz cm gc nu N) {kd : Int32} {X Y : Option (gMI × gMJ)}
    (hX : X = some (Ic2, Jc)) (hY : ∀ I' J', f_M_askAll S Ir2 Jr (A 6) (nI q) kd = some (I', J') → Y = some (I', J'))
    (hC : ∀ d k, ¬ gC q d k → Ic2 (A d) k = Ic (A d) k) (hR : ∀ d k, ¬ gR q d k → Ir2 (A d) k = Ir (A d) k)
    (h5 : Ic2 (A (300 + 40 * q)) 5 = kd) (h13 : Ic2 (A (300 + 40 * q)) 13 = Ir2 (A 239) q) (h15 : Ic2 (A (300 + 40 * q)) 15 = Ir2 (A 240) q) (h6 : Ic2 (A (300 + 40 * q + 4)) 6 = Ir2 (A 241) q)
    (h14 : Ic2 (A (300 + 40 * q)) 14 = 0) (hs : Ir2 (A 238) q = 0) (hA : RAs (mI A Ic2 (upI Ir2 (A 242) q kd)) q)
    (hk : kd = 3 ∨ kd = 5 ∨ kd = 7 ∨ kd = 9 ∨ kd = 11) (hz : ∀ l, l < 8 → fz q l ≠ none) (h7 : kd = 7 → lcs (mI A Ic Ir) (fz q) (Ir2 (A 244) q).toInt (Ir2 (A 245) q).toInt 8 ≤ 64) (h9 : VKd (Ir (A 232) q) kd (Ir2 (A 240) q)) :
    GoE S A ex b N q sz pi nu fz gc Ic Ir Jc Jr X Y := by
  obtain ⟨⟨t0, t1, t2, t3, t4, t5⟩, -⟩ := (hL.qy hq he).2
  have hf := ((h.2.2.2.1.2.2.2.2.2 q hq).1 he).1
  unfold RQf at hf
  simp (disch := omega) only [mI_c, mI_r, mJ_c, mJ_r] at hf
  obtain ⟨f6, f7, f8, f9, f10, f11, f12, f14, f13, f15, g6, f5⟩ := hf
  unfold gC at hC
  unfold gR at hR
  obtain ⟨v1, -⟩ := h.2.2.2.2.2 q hq hn
  have hdr := v1.2.1.1
  simp (disch := omega) only [mI_c, mI_r, mJ_c, mJ_r] at hdr
  obtain ⟨Ic', Jc', Ir', Jr', c', am', s1, s2, s3, s4, s5, s6, s7, s8⟩ := ask_all (b := b + 1) (N := N) (sz := sz) (pi := pi) (nu := nu) (fz := fz) (gc := gc) (c := c) (am := am) (Ic := Ic2) (Ir := Ir2) (Jc := Jc) (Jr := Jr) (kd := kd) (cm := fun p => if p = q then fun _ => false else cm p) hL (by omega) hq he hn (fun l hl => by rw [if_pos rfl]) (fun Ic1 Ir1 p1 p2 p3 p4 p5 r1 r2 r3 r4 => by
    have es : Ir1 (A 238) q = 0 := by rw [r4 _ _ (by omega) (by omega) (by omega)]; exact hs
    refine ⟨step_rel h hq he hn (fun d k hd => ?_) (fun d k hd d1 d2 => ?_) ?_ (fun l hl => ?_) ?_ ?_ ?_ ?_ ?_ ?_ ?_ ?_ ?_ ?_ ?_, es⟩
    · unfold stQ at hd
      by_cases e : d = 6 ∨ (226 ≤ d ∧ d < 263)
      · rw [mI_r e, mI_r e, r4 _ _ (by omega) (by omega) (by omega), hR _ _ (by omega)]
      · rw [mI_c e, mI_c e, p5 _ _ (by omega) (by omega) (by omega) (by omega), hC _ _ (by omega)]
    · unfold stQ at hd
      by_cases e : d = 6 ∨ (226 ≤ d ∧ d < 263)
      · rw [mJ_r e, mJ_r e]
      · rw [mJ_c e, mJ_c e, ev_uJ hL (by omega)]
    · unfold RQf
      simp (disch := omega) only [mI_c, mI_r, mJ_c, mJ_r]
      refine ⟨?_, ?_, ?_, ?_, ?_, ?_, ?_, ?_, ?_, ?_, ?_, ?_⟩
      · rw [p5 _ _ (by omega) (by omega) (by omega) (by omega), hC _ _ (by omega), r4 _ _ (by omega) (by omega) (by omega), hR _ _ (by omega)]; exact f6
      · rw [p5 _ _ (by omega) (by omega) (by omega) (by omega), hC _ _ (by omega), r4 _ _ (by omega) (by omega) (by omega), hR _ _ (by omega)]; exact f7
      · rw [p5 _ _ (by omega) (by omega) (by omega) (by omega), hC _ _ (by omega), r4 _ _ (by omega) (by omega) (by omega), hR _ _ (by omega)]; exact f8
      · rw [p5 _ _ (by omega) (by omega) (by omega) (by omega), hC _ _ (by omega), r4 _ _ (by omega) (by omega) (by omega), hR _ _ (by omega)]; exact f9
      · rw [p5 _ _ (by omega) (by omega) (by omega) (by omega), hC _ _ (by omega), r4 _ _ (by omega) (by omega) (by omega), hR _ _ (by omega)]; exact f10
      · rw [p5 _ _ (by omega) (by omega) (by omega) (by omega), hC _ _ (by omega), r4 _ _ (by omega) (by omega) (by omega), hR _ _ (by omega)]; exact f11
      · rw [p1, r2, hC _ _ (by omega), hR _ _ (by omega), f12]
      · rw [p5 _ _ (by omega) (by omega) (by omega) (by omega), h14, r4 _ _ (by omega) (by omega) (by omega), hs]
      · rw [p5 _ _ (by omega) (by omega) (by omega) (by omega), h13, r4 _ _ (by omega) (by omega) (by omega)]
      · rw [p5 _ _ (by omega) (by omega) (by omega) (by omega), h15, r4 _ _ (by omega) (by omega) (by omega)]
      · rw [p5 _ _ (by omega) (by omega) (by omega) (by omega), h6, r4 _ _ (by omega) (by omega) (by omega)]
      · rw [p5 _ _ (by omega) (by omega) (by omega) (by omega), h5, r1]
    · simp (disch := omega) only [mI_c, mI_r, mJ_c, mJ_r]
      exact ⟨p2 l hl, r3 l hl⟩
    · simp (disch := omega) only [mI_c, mI_r, mJ_c, mJ_r]
      exact p3
    · simp (disch := omega) only [mI_c, mI_r, mJ_c, mJ_r]
      exact ev_uK
    · simp (disch := omega) only [mI_c, mI_r, mJ_c, mJ_r]
      exact p4
    · unfold RAs at hA ⊢
      simp (disch := omega) only [mI_c, mI_r, ev_uI hL, ev_uE] at hA
      simp (disch := omega) only [mI_c, mI_r, p5 _ _, r4 _ _, r1]
      exact hA
    · simp (disch := omega) only [mI_c, mI_r, mJ_c, mJ_r]; exact es
    · obtain ⟨dr, hd8, ed⟩ := hdr
      exact ⟨dr, hd8, by simp (disch := omega) only [mI_c, mI_r, mJ_c, mJ_r]; rw [r4 _ _ (by omega) (by omega) (by omega), hR _ _ (by omega)]; exact ed⟩
    · simp (disch := omega) only [mI_c, mI_r, mJ_c, mJ_r]; rw [r1]; exact Or.inr hk
    · exact fun _ => hz
    · simp (disch := omega) only [mI_c, mI_r, mJ_c, mJ_r]; rw [r1, r4 _ _ (by omega) (by omega) (by omega), r4 _ _ (by omega) (by omega) (by omega)]; exact h7
    · simp (disch := omega) only [mI_c, mI_r, mJ_c, mJ_r]; rw [r1, r4 _ _ (by omega) (by omega) (by omega), r4 _ _ (by omega) (by omega) (by omega), hR 232 _ (by omega)]; exact h9
    · intro tq sq e1 e2 l1 l2
      simp (disch := omega) only [mI_c, mI_r, mJ_c, mJ_r] at e1 e2
      refine ⟨tq, sq + 1, ?_, ?_, Or.inl ⟨rfl, rfl⟩⟩
      · simp (disch := omega) only [mI_c, mI_r, mJ_c, mJ_r]; rw [r4 _ _ (by omega) (by omega) (by omega), hR _ _ (by omega), e1]
      · simp (disch := omega) only [mI_c, mI_r, mJ_c, mJ_r]; rw [r2, hR _ _ (by omega), e2, ev_a1])
  refine ⟨Ic2, Jc, Ic', Jc', Ir', Jr', c', am', _, hX, ?_, hY _ _ s2, s3, fun d k hd => ?_, s5, fun d k hd => ?_, s7, ?_⟩
  · simp (disch := omega) only [f_H_askUnlessDone, t0, h14, ↓b2_h s1, f_H_askUnlessDone_b12, ↓bnd_in, ↓Option.bind_some, ↓bd2_some, ↓bd3_some, ↓bd4_some, ↓ew_mr hL, ↓ew_00 hL, ↓ew_01 hL, ↓ew_02 hL, ↓ew_1r hL, ↓ew_lr hL, ↓ew_30 hL, ↓ew_31 hL, ↓ew_4r hL, ↓ew_ltr hL, ↓gd_m hL, ↓gd_0 hL, gd_t, Option.bind_some, bd2_some, bd3_some, bd4_some, gm_some, gm_none, ↓reduceIte, or_self, or_false, false_or, or_true, true_or, and_self, and_true, true_and, and_false, false_and, not_false_eq_true, not_true_eq_false, Nat.reduceAdd, Nat.reduceMul, Int32.reduceLT, Int32.reduceLE, eq_self, ev_lit, ev_10, Int32.reduceToNatClampNeg, Nat.reduceLeDiff, Nat.reduceEqDiff, Nat.reduceLT, nI_clamp, ev_ng, ev_L1, ev_L2, ev_L3, ev_K1, ev_K2, ev_K3, ev_K4, ev_K5, ev_a1, ev_m1, ev_s1, ev_s2, nI_add, ev_nle, ev_le, ev_lt, ev_nlt, ev_ne, ev_eq, ev_uI hL, ev_uJ hL, ev_m hL, ev_mr hL, ev_mt hL, ev_mz hL, ev_mj hL, ev_n8 hL, ev_n64 hL, ev_n229 hL, ev_n254 hL, ev_n257 hL, ev_n259 hL, ev_n260 hL, ev_n261 hL, ev_0 hL, ev_00 hL, ev_01 hL, ev_02 hL, ev_1 hL, ev_1n hL, ev_1r hL, ev_lg hL, ev_lr hL, ev_sr hL, ev_2 hL, ev_2n hL, ev_3 hL, ev_30 hL, ev_31 hL, ev_4 hL, ev_4n hL, ev_5 hL, ev_5n hL, ev_4r hL, ev_lt1 hL, ev_ltr hL, ev_lnt hL, ev_lnn hL, ev_7 hL, ev_7n hL, ev_uE, ev_uK]
  · rw [s4 d k hd, hC _ _ (by omega)]
  · rw [s6 d k hd, hR _ _ (by omega)]
  · rw [s8, hR _ _ (by omega)]
theorem end_done (hL : Lay S A ex) (hq : q < 8) (he : ex q = true) (hn : 0 < nu q) (h : R4 (mI A Ic Ir) (mJ A Jc Jr) ex b sz c pi am fz cm gc nu N) {s : Int32} {X Y : Option (gMI × gMJ)}
    (hX : X = some (Ic2, Jc2)) (hY : Y = some (Ir2, Jr2))
    (hC : ∀ d k, ¬ gC q d k → Ic2 (A d) k = Ic (A d) k) (hR : ∀ d k, ¬ gR q d k → Ir2 (A d) k = Ir (A d) k)
    (jC : ∀ d k, d ≠ 300 + 40 * q → Jc2 (A d) k = Jc (A d) k) (jR : ∀ d k, d ≠ 252 ∨ k ≠ q → Jr2 (A d) k = Jr (A d) k)
    (h5 : Ic2 (A (300 + 40 * q)) 5 = Ic (A (300 + 40 * q)) 5) (h13 : Ic2 (A (300 + 40 * q)) 13 = Ir2 (A 239) q) (h15 : Ic2 (A (300 + 40 * q)) 15 = Ir2 (A 240) q) (h6 : Ic2 (A (300 + 40 * q + 4)) 6 = Ir2 (A 241) q)
    (h14 : Ic2 (A (300 + 40 * q)) 14 = s) (hs : Ir2 (A 238) q = s) (hs2 : s = 1 ∨ s = 2) (hA : s = 1 → Jc2 (A (300 + 40 * q)) 18 = Jr2 (A 252) q ∧ ((Ir (A 232) q = 2 ∨ Ir (A 232) q = 4) → Ic2 (A (300 + 40 * q)) 16 = Ir2 (A 250) q ∧ Ic2 (A (300 + 40 * q)) 17 = Ir2 (A 251) q)) :
    GoE S A ex b N q sz pi nu fz gc Ic Ir Jc Jr X Y := by
  obtain ⟨⟨t0, t1, t2, t3, t4, t5⟩, -⟩ := (hL.qy hq he).2
  have hh := h
  obtain ⟨h0, h1, h2, ⟨a1, a2, a3, a4, a5, a6⟩, h4⟩ := hh
  obtain ⟨v1, tq, sq, w1, w2, w3, w4, w5⟩ := h4.2 q hq hn
  obtain ⟨b1, b2, b3, b4, b5, b6⟩ := (a6 q hq).1 he
  have hs0 : ¬ s = 0 := by rcases hs2 with e | e <;> rw [e] <;> decide
  have hM : ∀ d k, ¬ (gC q d k ∧ ¬ (226 ≤ d ∧ d < 263)) → ¬ gR q d k → mI A Ic2 Ir2 d k = mI A Ic Ir d k := fun d k d1 d2 => by
    by_cases e : d = 6 ∨ (226 ≤ d ∧ d < 263)
    · rw [mI_r e, mI_r e, hR _ _ d2]
    · rw [mI_c e, mI_c e, hC _ _ (fun g => d1 ⟨g, fun u => e (Or.inr u)⟩)]
  have hK : ∀ d k, d ≠ 300 + 40 * q → d ≠ 252 ∨ k ≠ q → mJ A Jc2 Jr2 d k = mJ A Jc Jr d k := fun d k d1 d2 => by
    by_cases e : d = 6 ∨ (226 ≤ d ∧ d < 263)
    · rw [mJ_r e, mJ_r e, jR _ _ d2]
    · rw [mJ_c e, mJ_c e, jC _ _ d1]
  have hM2 := hM
  unfold gC gR at hM2
  have hM3 : ∀ d k, ¬ (238 ≤ d ∧ d ≤ 251 ∧ d ≠ 242 ∧ d ≠ 243 ∧ k = q) → ¬ (d = 300 + 40 * q ∧ (k = 5 ∨ (13 ≤ k ∧ k ≤ 17))) → d ≠ 300 + 40 * q + 4 → d ≠ 300 + 40 * q + 5 → mI A Ic2 Ir2 d k = mI A Ic Ir d k := fun d k d1 d2 d3 d4 => hM2 d k (by omega) d1
  have fin := q_upd (M' := mI A Ic2 Ir2) (K' := mJ A Jc2 Jr2) (ex' := ex) (b' := b + 1) (N' := N) (u := nu q) (f' := fz q) (m' := cm q) (g' := gc q) h hq (fun d k hd => by
      unfold inQ own at hd
      exact hM3 d k (by omega) (by omega) (by omega) (by omega)) (fun d k hd d1 d2 => by
      unfold inQ own at hd
      exact hK d k (by omega) (by omega)) (fun _ _ => rfl) he (by omega) (Nat.le_refl N) (by omega) a3
    (by rw [hM3 _ _ (by omega) (by omega) (by omega) (by omega)]; exact a1) (by rw [hM3 _ _ (by omega) (by omega) (by omega) (by omega)]; exact a2) (by rw [hM3 _ _ (by omega) (by omega) (by omega) (by omega)]; exact (a4 q hq).1) (a4 q hq).2 (fun p hp hne e => by
      by_cases e0 : 0 < nu p
      · exact absurd (a5 p q hp hq e e0) hne
      · omega)
    ⟨by
      unfold RQf at b1 ⊢
      obtain ⟨f6, f7, f8, f9, f10, f11, f12, f14, f13, f15, g6, f5⟩ := b1
      refine ⟨?_, ?_, ?_, ?_, ?_, ?_, ?_, ?_, ?_, ?_, ?_, ?_⟩
      · rw [hM3 _ _ (by omega) (by omega) (by omega) (by omega), hM3 _ _ (by omega) (by omega) (by omega) (by omega)]; exact f6
      · rw [hM3 _ _ (by omega) (by omega) (by omega) (by omega), hM3 _ _ (by omega) (by omega) (by omega) (by omega)]; exact f7
      · rw [hM3 _ _ (by omega) (by omega) (by omega) (by omega), hM3 _ _ (by omega) (by omega) (by omega) (by omega)]; exact f8
      · rw [hM3 _ _ (by omega) (by omega) (by omega) (by omega), hM3 _ _ (by omega) (by omega) (by omega) (by omega)]; exact f9
      · rw [hM3 _ _ (by omega) (by omega) (by omega) (by omega), hM3 _ _ (by omega) (by omega) (by omega) (by omega)]; exact f10
      · rw [hM3 _ _ (by omega) (by omega) (by omega) (by omega), hM3 _ _ (by omega) (by omega) (by omega) (by omega)]; exact f11
      · rw [hM3 _ _ (by omega) (by omega) (by omega) (by omega), hM3 _ _ (by omega) (by omega) (by omega) (by omega)]; exact f12
      · simp (disch := omega) only [mI_c, mI_r, mJ_c, mJ_r]; rw [h14, hs]
      · simp (disch := omega) only [mI_c, mI_r, mJ_c, mJ_r]; exact h13
      · simp (disch := omega) only [mI_c, mI_r, mJ_c, mJ_r]; exact h15
      · simp (disch := omega) only [mI_c, mI_r, mJ_c, mJ_r]; exact h6
      · rw [hM3 242 _ (by omega) (by omega) (by omega) (by omega), ← f5]
        simp (disch := omega) only [mI_c, mI_r, mJ_c, mJ_r]; exact h5, fun l hl => (b2 l hl).congr2 hl (fun d k hd => hM3 d k (by omega) (by omega) (by omega) (by omega)), b3.congr2 (fun d k hd => hM3 d k (by omega) (by omega) (by omega) (by omega)) (fun d k hd => hK d k (by omega) (by omega)), fun e => by
      rw [hM3 242 _ (by omega) (by omega) (by omega) (by omega)] at e
      exact (b4 e).congr2 (fun d k hd => hM3 d k (by omega) (by omega) (by omega) (by omega)), fun e => by
      rw [mI_r (by omega), hs] at e
      exact absurd e hs0, fun e => by
      rw [mI_r (by omega), hs] at e
      obtain ⟨x1, x2⟩ := hA e
      unfold RAn
      rw [hM3 232 _ (by omega) (by omega) (by omega) (by omega)]
      simp (disch := omega) only [mI_c, mI_r, mJ_c, mJ_r]
      exact ⟨x1, x2⟩⟩
    (fun _ => ⟨⟨by rw [mI_r (by omega), hs]; exact hs2.elim (fun e => Or.inr (Or.inl e)) (fun e => Or.inr (Or.inr (Or.inl e))), by rw [hM3 235 _ (by omega) (by omega) (by omega) (by omega), hM3 232 _ (by omega) (by omega) (by omega) (by omega)]; exact v1.2.1, fun e => by
      rw [mI_r (by omega), hs] at e
      exact absurd e hs0⟩, tq, sq, by omega, by omega, by rw [hM3 _ _ (by omega) (by omega) (by omega) (by omega)]; exact w3, by rw [hM3 _ _ (by omega) (by omega) (by omega) (by omega)]; exact w4, fun i hi e => by
      rw [hM3 _ _ (by omega) (by omega) (by omega) (by omega), ← (a4 q hq).1] at e
      exact (w5 i hi e).past (fun k => hM3 _ _ (by omega) (by omega) (by omega) (by omega)) (fun k => hM3 _ _ (by omega) (by omega) (by omega) (by omega)) (fun k => hM3 _ _ (by omega) (by omega) (by omega) (by omega)) (by rw [mI_r (by omega), hs]; exact hs0)⟩)
  rw [ite_eta, ite_eta, ite_eta, ite_eta] at fin
  unfold gC at hC
  unfold gR at hR
  refine ⟨Ic2, Jc2, Ic2, Jc2, Ir2, Jr2, c, am, cm, hX, ?_, hY, fin, fun d k hd => hC _ _ (by omega), fun d k hd => jC _ _ (by omega), fun d k hd => hR _ _ (by omega), fun d k hd => jR _ _ (by omega), hR _ _ (by omega)⟩
  rw [f_H_askUnlessDone, gd_in t0, h14, if_neg hs0, f_H_askUnlessDone_b12]
end ENDS
