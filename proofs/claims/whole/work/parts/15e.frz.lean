-- freeze: class and reference
section FRZ
variable {S : gS} {A : Nat → Nat} {ex : Nat → Bool} {b c N : Nat} {sz pi am nu : Nat → Nat} {fz : Nat → Nat → Option Nat} {cm : Nat → Nat → Bool} {gc : Nat → Nat → Nat} {Ic Ir : gMI} {Jc Jr : gMJ} {q t n : Nat} {M M' : gMI}
theorem VAn.mono {q g : Nat} {f f' : Nat → Option Nat} {x y am : Int32} (h : VAn M q g f x y am) (hf : f g ≠ none → f' g = f g) (h42 : M' 242 q = M 242 q) (h44 : M' 244 q = M 244 q) (h45 : M' 245 q = M 245 q) (h29 : ∀ k, M' 229 k = M 229 k) : VAn M' q g f' x y am := by
  have e := hf h.1
  unfold VAn at h ⊢
  rw [e, h42, h44, h45, lcn.congr h29]
  exact h
theorem VHd.mono {q tq sq : Nat} {f f' : Nat → Option Nat} {kd tn st fr to am x y : Int32} (h : VHd M q f tq sq kd tn st fr to am x y) (hf : ∀ g, f g ≠ none → f' g = f g) (h38 : M' 238 q = M 238 q) (h42 : M' 242 q = M 242 q) (h44 : M' 244 q = M 244 q) (h45 : M' 245 q = M 245 q) (h29 : ∀ k, M' 229 k = M 229 k) : VHd M' q f' tq sq kd tn st fr to am x y := by
  obtain ⟨tt, ss, c1, c2, c3, c4, c5, c6, c7⟩ := h
  refine ⟨tt, ss, c1, c2, c3, c4, c5, fun e t ht et => ?_, fun e1 e2 e3 => ?_⟩
  · obtain ⟨d1, d2⟩ := c6 e t ht et
    rw [hf t d1, lcn.congr h29]
    exact ⟨d1, d2⟩
  · rw [h38] at e3
    rw [h42, h44, h45]
    rcases c7 e1 e2 e3 with d | ⟨d1, d2⟩
    · exact Or.inl d
    · exact Or.inr ⟨d1, fun g hg eg => (d2 g hg eg).mono (hf g) h42 h44 h45 h29⟩
theorem frz_both (hL : Lay S A ex) (h : R4 (mI A Ic Ir) (mJ A Jc Jr) ex b sz c pi am fz cm gc nu N) (hq : q < 8) (he : ex q = true) (hn : 0 < nu q) (ht : t < 8) : ∃ Ic' Ir' fz', f_Question_freeze S Ic Jc (A (300 + 40 * q)) (nI t) (A (16 + t)) = some Ic' ∧ Ir' = (if Ir (A 243) (8 * q + t) = -1 then upI Ir (A 243) (8 * q + t) (Ir (A 228) t) else Ir) ∧ R4 (mI A Ic' Ir') (mJ A Jc Jr) ex b sz c pi am fz' cm gc nu N ∧ (∀ l, fz q l ≠ none → fz' q l = fz q l) ∧ (∀ d k, ¬ (d = 300 + 40 * q + 1 ∧ k = t) → d ≠ 300 + 40 * q + 18 + t → d ≠ 300 + 40 * q + 26 + t → Ic' (A d) k = Ic (A d) k) ∧ ∀ d k, d ≠ 243 → Ir' (A d) k = Ir (A d) k := by
  have hh := h
  obtain ⟨h0, hlg, h2, ⟨a1, a2, a3, a4, a5, a6⟩, h4⟩ := hh
  obtain ⟨⟨t0, t1, t2, t3, t4, t5⟩, ⟨s0, s1⟩, ⟨d0, d1⟩, d2, -⟩ := (hL.qy hq he).2
  obtain ⟨d2a, d2b, d2c, d2d, d2e⟩ := d2 t ht
  obtain ⟨b1, b2, b3, b4, b5, b6⟩ := (a6 q hq).1 he
  obtain ⟨g1, g2⟩ := b2 t ht
  simp (disch := omega) only [mI_c, mI_r, mJ_c, mJ_r] at g1
  cases hz : fz q t with
  | some n =>
    rw [hz] at g2
    dsimp only at g2
    obtain ⟨g2a, g2b, -⟩ := g2
    simp (disch := omega) only [mI_c, mI_r, mJ_c, mJ_r] at g2b
    have hs := (hlg t ht).2.1
    have hnm : ¬ nI n = (-1 : Int32) := fun e => by
      have := (nI_pos' (n := n) (by omega))
      rw [e] at this
      exact absurd this (by decide)
    rw [g2b] at g1
    refine ⟨Ic, Ir, fz, ?_, by rw [g2b, if_neg hnm], h, fun _ _ => rfl, fun _ _ _ _ _ => rfl, fun _ _ _ => rfl⟩
    simp (disch := omega) only [f_Question_freeze, t0, ↓ob_h t1, s0, s1, g1, hnm, f_Question_freeze_b30, ↓bnd_in, ↓Option.bind_some, ↓bd2_some, ↓bd3_some, ↓bd4_some, ↓ew_mr hL, ↓ew_00 hL, ↓ew_01 hL, ↓ew_02 hL, ↓ew_1r hL, ↓ew_lr hL, ↓ew_30 hL, ↓ew_31 hL, ↓ew_4r hL, ↓ew_ltr hL, ↓gd_m hL, ↓gd_0 hL, gd_t, Option.bind_some, bd2_some, bd3_some, bd4_some, gm_some, gm_none, ↓reduceIte, or_self, or_false, false_or, or_true, true_or, and_self, and_true, true_and, and_false, false_and, not_false_eq_true, not_true_eq_false, Nat.reduceAdd, Nat.reduceMul, Int32.reduceLT, Int32.reduceLE, eq_self, ev_lit, ev_10, Int32.reduceToNatClampNeg, Nat.reduceLeDiff, Nat.reduceEqDiff, Nat.reduceLT, nI_clamp, ev_ng, ev_L1, ev_L2, ev_L3, ev_K1, ev_K2, ev_K3, ev_K4, ev_K5, ev_a1, ev_m1, ev_s1, ev_s2, nI_add, ev_nle, ev_le, ev_lt, ev_nlt, ev_ne, ev_eq, ev_uI hL, ev_uJ hL, ev_m hL, ev_mr hL, ev_mt hL, ev_mz hL, ev_mj hL, ev_n8 hL, ev_n64 hL, ev_n229 hL, ev_n254 hL, ev_n257 hL, ev_n259 hL, ev_n260 hL, ev_n261 hL, ev_0 hL, ev_00 hL, ev_01 hL, ev_02 hL, ev_1 hL, ev_1n hL, ev_1r hL, ev_lg hL, ev_lr hL, ev_sr hL, ev_2 hL, ev_2n hL, ev_3 hL, ev_30 hL, ev_31 hL, ev_4 hL, ev_4n hL, ev_5 hL, ev_5n hL, ev_4r hL, ev_lt1 hL, ev_ltr hL, ev_lnt hL, ev_lnn hL, ev_7 hL, ev_7n hL, ev_uE, ev_uK]
  | none =>
    rw [hz] at g2
    dsimp only at g2
    simp (disch := omega) only [mI_c, mI_r, mJ_c, mJ_r] at g2
    rw [g2] at g1
    obtain ⟨-, r1, r2, r3, r4, r5⟩ := hlg t ht
    simp (disch := omega) only [mI_c, mI_r, mJ_c, mJ_r] at r2 r3
    have e1 : rI (mI A Ic Ir) (24 + t) = rI Ic (A (24 + t)) := by
      funext i; unfold rI; simp (disch := omega) only [mI_c, mI_r, mJ_c, mJ_r]
    rw [e1] at r4 r5
    obtain ⟨l1, l2, l3, l4, l5, l6, l7⟩ := hL.lg ht
    obtain ⟨Ic1, hI1⟩ : ∃ I1 : gMI, I1 = upI Ic (A (300 + 40 * q + 1)) t (nI (sz t)) := ⟨_, rfl⟩
    have k1 : ∀ d k, ¬ (d = 300 + 40 * q + 1 ∧ k = t) → Ic1 (A d) k = Ic (A d) k := fun d k hd => by rw [hI1, ev_uI hL (by omega)]
    have e2 : rI Ic1 (A (24 + t)) = rI Ic (A (24 + t)) := by
      funext i; unfold rI; rw [k1 _ _ (by omega)]
    have hrow : RowOk S Ic1 (A (16 + t)) (A (24 + t)) 500 (sz t) := ⟨l4, l5, l6, l7, by omega, by rw [k1 _ _ (by omega)]; exact r2, r1, by rw [e2]; exact r4⟩
    obtain ⟨Ic2, f1, f2, f3, f4⟩ := F_copy (J := Jc) (I := Ic1) d2b d2c d2d d2e (by omega) hrow r1 (hL.inj (by omega)) (hL.inj (by omega))
    have k2 : ∀ d k, ¬ (d = 300 + 40 * q + 1 ∧ k = t) → d ≠ 300 + 40 * q + 18 + t → d ≠ 300 + 40 * q + 26 + t → Ic2 (A d) k = Ic (A d) k := fun d k x1 x2 x3 => by
      rw [f3 _ (hL.inj x2) (hL.inj x3), k1 _ _ x1]
    have k3 : Ic2 (A (300 + 40 * q + 1)) t = nI (sz t) := by
      rw [f3 _ (hL.inj (by omega)) (hL.inj (by omega)), hI1, ev_uE]
    have e3 : ∀ d k, ¬ (d = 300 + 40 * q + 1 ∧ k = t) → d ≠ 300 + 40 * q + 18 + t → d ≠ 300 + 40 * q + 26 + t → ¬ (d = 243 ∧ k = 8 * q + t) → mI A Ic2 (upI Ir (A 243) (8 * q + t) (nI (sz t))) d k = mI A Ic Ir d k := fun d k x1 x2 x3 x4 => by
      by_cases e : d = 6 ∨ (226 ≤ d ∧ d < 263)
      · rw [mI_r e, mI_r e, ev_uI hL (by omega)]
      · rw [mI_c e, mI_c e, k2 _ _ x1 x2 x3]
    obtain ⟨M', hM'⟩ : ∃ M' : gMI, M' = mI A Ic2 (upI Ir (A 243) (8 * q + t) (nI (sz t))) := ⟨_, rfl⟩
    have e4 := e3
    rw [← hM'] at e4
    have hf' : ∀ g, fz q g ≠ none → (fun l => if l = t then some (sz t) else fz q l) g = fz q g := fun g hg => by
      dsimp only
      by_cases e : g = t
      · rw [e] at hg; exact absurd hz hg
      · rw [if_neg e]
    have e29 : ∀ k, M' 229 k = mI A Ic Ir 229 k := fun k => e4 _ _ (by omega) (by omega) (by omega) (by omega)
    have m1 : M' (300 + 40 * q + 1) t = nI (sz t) := by rw [hM']; simp (disch := omega) only [mI_c, mI_r, mJ_c, mJ_r]; exact k3
    have m2 : M' 243 (8 * q + t) = nI (sz t) := by rw [hM']; simp (disch := omega) only [mI_c, mI_r, mJ_c, mJ_r]; exact ev_uE
    have m3 : M' (300 + 40 * q + 18 + t) 1 = nI (sz t) := by rw [hM']; simp (disch := omega) only [mI_c, mI_r, mJ_c, mJ_r]; exact f2.2.2.2.2.2.1
    have m4 : rI M' (300 + 40 * q + 26 + t) = rI Ic2 (A (300 + 40 * q + 26 + t)) := by
      funext i; unfold rI; rw [hM']; simp (disch := omega) only [mI_c, mI_r, mJ_c, mJ_r]
    have m5 : rdM M' t = rdM (mI A Ic Ir) t := by
      funext i; unfold rdM; rw [e29]
    have fin := q_upd (M' := M') (K' := mJ A Jc Jr) (ex' := ex) (b' := b) (N' := N) (u := nu q) (f' := fun l => if l = t then some (sz t) else fz q l) (m' := cm q) (g' := gc q) h hq (fun d k hd => e4 d k (by unfold inQ own at hd; omega) (by unfold inQ own at hd; omega) (by unfold inQ own at hd; omega) (by unfold inQ own at hd; omega)) (fun _ _ _ _ _ => rfl) (fun _ _ => rfl) he (Nat.le_refl b) (Nat.le_refl N) h0 a3
      (by rw [e4 _ _ (by omega) (by omega) (by omega) (by omega)]; exact a1) (by rw [e4 _ _ (by omega) (by omega) (by omega) (by omega)]; exact a2) (by rw [e4 _ _ (by omega) (by omega) (by omega) (by omega)]; exact (a4 q hq).1) (a4 q hq).2 (fun p hp hne e => by
        by_cases e0 : 0 < nu p
        · exact absurd (a5 p q hp hq e e0) hne
        · omega)
      (by
        refine ⟨?_, fun l hl => ?_, ?_, ?_, ?_, ?_⟩
        · unfold RQf at b1 ⊢
          simp (disch := omega) only [e4 _ _]
          exact b1
        · dsimp only
          by_cases e : l = t
          · subst e
            rw [if_pos rfl]
            refine ⟨by rw [m1, m2], Nat.le_refl _, m2, m3, by rw [m4]; exact f2.2.2.2.2.2.2.2, ?_⟩
            rw [m4, m5]
            intro φ
            rw [← r5 φ]
            refine pu_tot_congr fun i hi => ?_
            unfold rI
            rw [f4 i hi, k1 _ _ (by omega)]
          · rw [if_neg e]
            obtain ⟨c1, c2⟩ := b2 l hl
            have e5 : rI M' (300 + 40 * q + 26 + l) = rI (mI A Ic Ir) (300 + 40 * q + 26 + l) := by
              funext i; unfold rI; rw [e4 _ _ (by omega) (by omega) (by omega) (by omega)]
            have e6 : rdM M' l = rdM (mI A Ic Ir) l := by
              funext i; unfold rdM; rw [e29]
            refine ⟨by rw [e4 _ _ (by omega) (by omega) (by omega) (by omega), e4 _ _ (by omega) (by omega) (by omega) (by omega)]; exact c1, ?_⟩
            cases hzl : fz q l with
            | none =>
              rw [hzl] at c2
              exact (e4 _ _ (by omega) (by omega) (by omega) (by omega)).trans c2
            | some n =>
              rw [hzl] at c2
              dsimp only at c2 ⊢
              rw [e5, e6, e4 _ _ (by omega) (by omega) (by omega) (by omega), e4 _ _ (by omega) (by omega) (by omega) (by omega)]
              exact c2
        · obtain ⟨c1, c2, c3, c4⟩ := b3
          refine ⟨fun l hl => ?_, ?_, c3, fun l hl hc k hk => ?_⟩
          · rw [e4 _ _ (by omega) (by omega) (by omega) (by omega), e4 _ _ (by omega) (by omega) (by omega) (by omega)]; exact c1 l hl
          · rw [e4 _ _ (by omega) (by omega) (by omega) (by omega)]; exact c2
          · rw [e4 _ _ (by omega) (by omega) (by omega) (by omega), e4 _ _ (by omega) (by omega) (by omega) (by omega)]; exact c4 l hl hc k hk
        · unfold RGv rI at b4 ⊢
          simp (disch := omega) only [e4 _ _]
          exact b4
        · unfold RAs at b5 ⊢
          simp (disch := omega) only [e4 _ _]
          exact b5
        · unfold RAn at b6 ⊢
          simp (disch := omega) only [e4 _ _]
          exact b6)
      (fun _ => by
        obtain ⟨v1, tq, sq, w1, w2, w3, w4, w5⟩ := h4.2 q hq hn
        refine ⟨?_, tq, sq, w1, w2, by rw [e4 _ _ (by omega) (by omega) (by omega) (by omega)]; exact w3, by rw [e4 _ _ (by omega) (by omega) (by omega) (by omega)]; exact w4, fun i hi hei => ?_⟩
        · obtain ⟨x1, x2, x3⟩ := v1
          unfold VQq
          rw [e4 238 _ (by omega) (by omega) (by omega) (by omega), e4 235 _ (by omega) (by omega) (by omega) (by omega), e4 242 _ (by omega) (by omega) (by omega) (by omega), e4 244 _ (by omega) (by omega) (by omega) (by omega), e4 245 _ (by omega) (by omega) (by omega) (by omega), e4 240 _ (by omega) (by omega) (by omega) (by omega), e4 232 _ (by omega) (by omega) (by omega) (by omega)]
          refine ⟨x1, x2, fun hs => ?_⟩
          obtain ⟨y1, y2, y3, y4, y5⟩ := x3 hs
          refine ⟨y1, fun e l hl => ?_, fun l hl hcl => ?_, fun e7 => ?_, y5⟩
          · exact absurd hz (y2 e t ht)
          · rw [e4 _ _ (by omega) (by omega) (by omega) (by omega), e4 _ _ (by omega) (by omega) (by omega) (by omega), e4 _ _ (by omega) (by omega) (by omega) (by omega)]
            exact (y3 l hl hcl).mono (hf' l) (e4 _ _ (by omega) (by omega) (by omega) (by omega)) (e4 _ _ (by omega) (by omega) (by omega) (by omega)) (e4 _ _ (by omega) (by omega) (by omega) (by omega)) e29
          · exact absurd hz (y2 (by rw [e7]; decide) t ht)
        · rw [e4 _ _ (by omega) (by omega) (by omega) (by omega), ← (a4 q hq).1] at hei
          have hw := (w5 i hi hei).hd.mono (M' := M') hf' (e4 _ _ (by omega) (by omega) (by omega) (by omega)) (e4 _ _ (by omega) (by omega) (by omega) (by omega)) (e4 _ _ (by omega) (by omega) (by omega) (by omega)) (e4 _ _ (by omega) (by omega) (by omega) (by omega)) e29
          refine VHd.lq ?_
          rw [e4 259 _ (by omega) (by omega) (by omega) (by omega), e4 259 _ (by omega) (by omega) (by omega) (by omega), e4 259 _ (by omega) (by omega) (by omega) (by omega), e4 259 _ (by omega) (by omega) (by omega) (by omega), e4 259 _ (by omega) (by omega) (by omega) (by omega), e4 259 _ (by omega) (by omega) (by omega) (by omega), e4 260 _ (by omega) (by omega) (by omega) (by omega), e4 260 _ (by omega) (by omega) (by omega) (by omega)]
          exact hw)
    rw [ite_eta, ite_eta, ite_eta, hM'] at fin
    refine ⟨Ic2, upI Ir (A 243) (8 * q + t) (nI (sz t)), _, ?_, by rw [g2, if_pos rfl, r3], fin, fun l hl => ?_, k2, fun d k hd => by rw [ev_uI hL (by omega)]⟩
    · rw [hI1] at f1
      simp (disch := omega) only [f_Question_freeze, t0, ↓ob_h t1, s0, s1, g1, l4, r2, ↓ob_h t2, d0, d1, ↓ob_h d2a, d2b, ↓ob_h f1, f_Question_freeze_b30, ↓bnd_in, ↓Option.bind_some, ↓bd2_some, ↓bd3_some, ↓bd4_some, ↓ew_mr hL, ↓ew_00 hL, ↓ew_01 hL, ↓ew_02 hL, ↓ew_1r hL, ↓ew_lr hL, ↓ew_30 hL, ↓ew_31 hL, ↓ew_4r hL, ↓ew_ltr hL, ↓gd_m hL, ↓gd_0 hL, gd_t, Option.bind_some, bd2_some, bd3_some, bd4_some, gm_some, gm_none, ↓reduceIte, or_self, or_false, false_or, or_true, true_or, and_self, and_true, true_and, and_false, false_and, not_false_eq_true, not_true_eq_false, Nat.reduceAdd, Nat.reduceMul, Int32.reduceLT, Int32.reduceLE, eq_self, ev_lit, ev_10, Int32.reduceToNatClampNeg, Nat.reduceLeDiff, Nat.reduceEqDiff, Nat.reduceLT, nI_clamp, ev_ng, ev_L1, ev_L2, ev_L3, ev_K1, ev_K2, ev_K3, ev_K4, ev_K5, ev_a1, ev_m1, ev_s1, ev_s2, nI_add, ev_nle, ev_le, ev_lt, ev_nlt, ev_ne, ev_eq, ev_uI hL, ev_uJ hL, ev_m hL, ev_mr hL, ev_mt hL, ev_mz hL, ev_mj hL, ev_n8 hL, ev_n64 hL, ev_n229 hL, ev_n254 hL, ev_n257 hL, ev_n259 hL, ev_n260 hL, ev_n261 hL, ev_0 hL, ev_00 hL, ev_01 hL, ev_02 hL, ev_1 hL, ev_1n hL, ev_1r hL, ev_lg hL, ev_lr hL, ev_sr hL, ev_2 hL, ev_2n hL, ev_3 hL, ev_30 hL, ev_31 hL, ev_4 hL, ev_4n hL, ev_5 hL, ev_5n hL, ev_4r hL, ev_lt1 hL, ev_ltr hL, ev_lnt hL, ev_lnn hL, ev_7 hL, ev_7n hL, ev_uE, ev_uK]
    · rw [if_pos rfl]
      exact hf' l hl
end FRZ
