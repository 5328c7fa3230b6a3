-- A letter is brought: taken out of both
section BRING
variable {S : gS} {A : Nat → Nat} {ex : Nat → Bool} {b c N r : Nat} {sz pi am nu : Nat → Nat} {fz : Nat → Nat → Option Nat} {cm : Nat → Nat → Bool} {gc : Nat → Nat → Nat} {Ic Ir : gMI} {Jc Jr : gMJ}
theorem R4.take (hL : Lay S A ex) (h : R4 (mI A Ic Ir) (mJ A Jc Jr) ex b sz c pi am fz cm gc nu N) (hr : r < c) : ∃ Ic' Ir' Jr', (∀ J, f_Post_takeOut S Ic J (A 3) (nI r) = some (some (A (32 + pi r)), Ic')) ∧ f_M_remove S Ir Jr (A 6) (nI r) = some (Ir', Jr') ∧ R4 (mI A Ic' Ir') (mJ A Jc Jr') ex b sz (c - 1) (fun i => pi (if i < r then i else if i < 96 then i + 1 else r)) (fun i => am (sh r i)) fz cm gc nu N ∧ (∀ d k, ¬ (d = 3 ∧ k = 2) → d ≠ 5 → Ic' (A d) k = Ic (A d) k) ∧ (∀ d k, ¬ (d = 6 ∧ k = 32) → d ≠ 259 → d ≠ 260 → Ir' (A d) k = Ir (A d) k) ∧ ∀ d k, d ≠ 261 → Jr' (A d) k = Jr (A d) k := by
  obtain ⟨h0, h1, h2, h3, h4⟩ := h
  have hp := h2
  obtain ⟨p1, p2, p3, p4, p5, p6⟩ := hp
  rw [mI_c (by omega)] at p2
  rw [mI_r (by omega)] at p3
  have p4' : ∀ i, i < 97 → pi i < 97 ∧ Ic (A 5) i = nI (pi i) := fun i hi => by
    have := p4 i hi
    rw [mI_c (by omega)] at this
    exact this
  obtain ⟨pk, e5⟩ := p4' r (by omega)
  obtain ⟨I1, hI1⟩ : ∃ I1 : gMI, I1 = upI (upI (va_up Ic (A 5) (va_cpy (Ic (A 5)) (Ic (A 5)) (r + 1) r (96 - r))) (A 5) 96 (nI (pi r))) (A 3) 2 (nI (c - 1)) := ⟨_, rfl⟩
  obtain ⟨I2, hI2⟩ : ∃ I2 : gMI, I2 = va_up (va_up (upI Ir (A 6) 32 (nI (c - 1))) (A 259) (shf (Ir (A 259)) (7 * r) (7 * (c - 1)) 7)) (A 260) (shf (Ir (A 260)) (64 * r) (64 * (c - 1)) 64) := ⟨_, rfl⟩
  have hv : ∀ (I0 : gMI) (d : Nat) (f : Nat → Int32) (e k : Nat), e ≠ d → va_up I0 (A d) f (A e) k = I0 (A e) k := fun I0 d f e k hne => by rw [va_up_ne _ _ (hL.inj hne)]
  have kc : ∀ d k, ¬ (d = 3 ∧ k = 2) → d ≠ 5 → I1 (A d) k = Ic (A d) k := fun d k d1 d2 => by
    rw [hI1, ev_uI hL (by omega), ev_uI hL (by omega), hv _ _ _ _ _ d2]
  have kr : ∀ d k, ¬ (d = 6 ∧ k = 32) → d ≠ 259 → d ≠ 260 → I2 (A d) k = Ir (A d) k := fun d k d1 d2 d3 => by
    rw [hI2, hv _ _ _ _ _ d3, hv _ _ _ _ _ d2, ev_uI hL (by omega)]
  have jr : ∀ d k, d ≠ 261 → va_up Jr (A 261) (shf (Jr (A 261)) r (c - 1) 1) (A d) k = Jr (A d) k := fun d k d1 => by rw [va_up_ne _ _ (hL.inj d1)]
  have rr := rem_rel (M' := mI A I1 I2) (K' := mJ A Jc (va_up Jr (A 261) (shf (Jr (A 261)) r (c - 1) 1))) h1 h2 h3 h4 hr (fun d k hd => by
      by_cases e : d = 6 ∨ (226 ≤ d ∧ d < 263)
      · rw [mI_r e, mI_r e]; exact kr _ _ (by omega) (by omega) (by omega)
      · rw [mI_c e, mI_c e]; exact kc _ _ (by omega) (by omega)) (fun d k hd => by
      by_cases e : d = 6 ∨ (226 ≤ d ∧ d < 263)
      · rw [mJ_r e, mJ_r e]; exact jr _ _ (by omega)
      · rw [mJ_c e, mJ_c e]) (by rw [mI_c (by omega), hI1, ev_uE]) (by rw [mI_r (by omega), hI2, hv _ _ _ _ _ (by omega), hv _ _ _ _ _ (by omega), ev_uE]) (fun i hi => by
      rw [mI_c (by omega), hI1, ev_uI hL (by omega)]
      by_cases e : i = 96
      · rw [e, ev_uE, if_neg (by omega), if_neg (by omega)]
      · rw [ev_uI hL (by omega), va_up_self]
        by_cases e2 : i < r
        · rw [pk_cpy_out (Or.inl e2), if_pos e2]; exact (p4' i hi).2
        · rw [pk_cpy_in (by omega) (by omega), if_neg e2, if_pos (by omega), show r + 1 + (i - r) = i + 1 by omega]; exact (p4' (i + 1) (by omega)).2) (fun j => by
      rw [mI_r (by omega), hI2, hv _ _ _ _ _ (by omega), va_up_self]; rfl) (fun j => by
      rw [mI_r (by omega), hI2, va_up_self]; rfl) (fun j => by
      rw [mJ_r (by omega), va_up_self]; rfl)
  refine ⟨I1, I2, _, fun J => ?_, ?_, ⟨h0, rr.1, rr.2.1, rr.2.2.1, rr.2.2.2⟩, kc, kr, jr⟩
  · rw [hI1]; exact Post_takeOut hL p1 hr p2 pk e5
  · rw [hI2]; exact M_remove hL p1 hr p3
/-- what the reference does with a letter taken out -/
def brT (S : gS) (I7 : gMI) (J8 : gMJ) (l0 : Nat) (l2 l3 l4 l5 l6 l7 : Int32) : Option (gMI × gMJ) :=
  Option.bind (f_M_placeOf S I7 J8 l0 l3) fun x10 =>
  if x10 = (-1 : Int32) then
    f_M_bring_b163 S I7 J8
  else
    Option.bind (S.2.2 l0 1) fun r13 =>
    gd (S.1 r13 = 22) <|
    gd (¬ (l7 < 0 ∨ S.2.1 r13 ≤ l7.toNatClampNeg)) <|
    if (I7 r13 l7.toNatClampNeg) = 0 then
      if (l2 - l2 / (2 : Int32) * (2 : Int32)) = 0 then
        Option.bind (S.2.2 l0 9) fun r27 =>
        gd (S.1 r27 = 21) <|
        gd (¬ (x10 < 0 ∨ S.2.1 r27 ≤ x10.toNatClampNeg)) <|
        if (I7 r27 x10.toNatClampNeg) = l7 then
          Option.bind (S.2.2 l0 12) fun r31 =>
          gd (S.1 r31 = 21) <|
          gd (¬ (x10 < 0 ∨ S.2.1 r31 ≤ x10.toNatClampNeg)) <|
          if (I7 r31 x10.toNatClampNeg) = 0 then
            Option.bind (S.2.2 l0 10) fun r35 =>
            gd (S.1 r35 = 21) <|
            gd (¬ (x10 < 0 ∨ S.2.1 r35 ≤ x10.toNatClampNeg)) <|
            if (I7 r35 x10.toNatClampNeg) = l4 then
              Option.bind (S.2.2 l0 11) fun r39 =>
              gd (S.1 r39 = 21) <|
              gd (¬ (x10 < 0 ∨ S.2.1 r39 ≤ x10.toNatClampNeg)) <|
              if (I7 r39 x10.toNatClampNeg) = l5 then
                Option.bind (S.2.2 l0 27) fun r43 =>
                gd (S.1 r43 = 22) <|
                gd (¬ ((((8 : Int32) * x10) + l6) < 0 ∨ S.2.1 r43 ≤ (((8 : Int32) * x10) + l6).toNatClampNeg)) <|
                if (I7 r43 (((8 : Int32) * x10) + l6).toNatClampNeg) = 0 then
                  f_M_bring_b237 S I7 J8 (1 : Int32) l0 l6 x10
                else
                  f_M_bring_b236 S I7 J8 l0 l6 x10
              else
                f_M_bring_b236 S I7 J8 l0 l6 x10
            else
              f_M_bring_b236 S I7 J8 l0 l6 x10
          else
            f_M_bring_b236 S I7 J8 l0 l6 x10
        else
          f_M_bring_b236 S I7 J8 l0 l6 x10
      else
        if l2 = (1 : Int32) then
          Option.bind (S.2.2 l0 17) fun r19 =>
          gd (S.1 r19 = 21) <|
          gd (¬ ((((8 : Int32) * x10) + l7) < 0 ∨ S.2.1 r19 ≤ (((8 : Int32) * x10) + l7).toNatClampNeg)) <|
          if (I7 r19 (((8 : Int32) * x10) + l7).toNatClampNeg) = (-1 : Int32) then
            Option.bind (S.2.2 l0 2) fun r23 =>
            gd (S.1 r23 = 21) <|
            gd (¬ (l7 < 0 ∨ S.2.1 r23 ≤ l7.toNatClampNeg)) <|
            bnd (upI I7 r19 (((8 : Int32) * x10) + l7).toNatClampNeg (I7 r23 l7.toNatClampNeg)) fun I26 =>
            f_M_bring_b295 S I26 J8 l0 l2 l3 l4 l5 l6 l7 x10
          else
            f_M_bring_b295 S I7 J8 l0 l2 l3 l4 l5 l6 l7 x10
        else
          f_M_bring_b295 S I7 J8 l0 l2 l3 l4 l5 l6 l7 x10
    else
      f_M_bring_b163 S I7 J8
theorem br_cp (hL : Lay S A ex) (hr : r < 96) {J : gMJ} {l2 l3 l4 l5 l6 l7 : Int32} : ∀ g i n I, i + g = 64 → g < n → ∃ I', f_M_bring_b93 S n I J (A 6) (nI r) l2 l3 l4 l5 l6 l7 (nI i) = f_M_bring_b93 S (0 + 1) I' J (A 6) (nI r) l2 l3 l4 l5 l6 l7 (nI 64) ∧ (∀ j, j < 64 → I' (A 262) j = if j < i then I (A 262) j else I (A 260) (64 * r + j)) ∧ ∀ d k, d ≠ 262 → I' (A d) k = I (A d) k := by
  intro g
  induction g with
  | zero =>
    intro i n I hi hn
    obtain ⟨n, rfl⟩ : ∃ k, n = k + 1 := ⟨n - 1, by omega⟩
    obtain rfl : i = 64 := by omega
    refine ⟨I, ?_, fun j hj => by rw [if_pos hj], fun _ _ _ => rfl⟩
    rw [f_M_bring_b93, f_M_bring_b93, if_pos (by decide), if_pos (by decide)]
  | succ g ih =>
    intro i n I hi hn
    obtain ⟨n, rfl⟩ : ∃ k, n = k + 1 := ⟨n - 1, by omega⟩
    obtain ⟨I', x1, x2, x3⟩ := ih (i + 1) n (upI I (A 262) i (I (A 260) (64 * r + i))) (by omega) (by omega)
    refine ⟨I', ?_, fun j hj => ?_, fun d k hd => by rw [x3 _ _ hd, ev_uI hL (by omega)]⟩
    · rw [← x1, f_M_bring_b93, if_neg (by rw [ev_K2 (by omega) (by decide)]; omega)]
      simp (disch := omega) only [↓bnd_in, ↓Option.bind_some, ↓bd2_some, ↓bd3_some, ↓bd4_some, ↓ew_mr hL, ↓ew_00 hL, ↓ew_01 hL, ↓ew_02 hL, ↓ew_1r hL, ↓ew_lr hL, ↓ew_30 hL, ↓ew_31 hL, ↓ew_4r hL, ↓ew_ltr hL, ↓gd_m hL, ↓gd_0 hL, gd_t, Option.bind_some, bd2_some, bd3_some, bd4_some, gm_some, gm_none, ↓reduceIte, or_self, or_false, false_or, or_true, true_or, and_self, and_true, true_and, and_false, false_and, not_false_eq_true, not_true_eq_false, Nat.reduceAdd, Nat.reduceMul, Int32.reduceLT, Int32.reduceLE, eq_self, ev_lit, ev_10, Int32.reduceToNatClampNeg, Nat.reduceLeDiff, Nat.reduceEqDiff, Nat.reduceLT, nI_clamp, ev_ng, ev_L1, ev_L2, ev_L3, ev_K1, ev_K2, ev_K3, ev_K4, ev_K5, ev_a1, ev_m1, ev_s1, ev_s2, nI_add, ev_nle, ev_le, ev_lt, ev_nlt, ev_ne, ev_eq, ev_uI hL, ev_uJ hL, ev_m hL, ev_mr hL, ev_mt hL, ev_mz hL, ev_mj hL, ev_n8 hL, ev_n64 hL, ev_n229 hL, ev_n254 hL, ev_n257 hL, ev_n259 hL, ev_n260 hL, ev_n261 hL, ev_0 hL, ev_00 hL, ev_01 hL, ev_02 hL, ev_1 hL, ev_1n hL, ev_1r hL, ev_lg hL, ev_lr hL, ev_sr hL, ev_2 hL, ev_2n hL, ev_3 hL, ev_30 hL, ev_31 hL, ev_4 hL, ev_4n hL, ev_5 hL, ev_5n hL, ev_4r hL, ev_lt1 hL, ev_ltr hL, ev_lnt hL, ev_lnn hL, ev_7 hL, ev_7n hL, ev_uE, ev_uK]
    · rw [x2 j hj]
      by_cases e : j < i
      · rw [if_pos e, if_pos (by omega), ev_uI hL (by omega)]
      · by_cases e2 : j = i
        · rw [if_pos (by omega), if_neg e, e2, ev_uE]
        · rw [if_neg (by omega), if_neg e, ev_uI hL (by omega)]
/-- the reference's bring: the letter's numbers lie in the buffer, it is out of the row -/
theorem bring_to (hL : Lay S A ex) (h : R4 (mI A Ic Ir) (mJ A Jc Jr) ex b sz c pi am fz cm gc nu N) (hr : r < c) : ∃ Ic' Ir' Jr', (∀ J, f_Post_takeOut S Ic J (A 3) (nI r) = some (some (A (32 + pi r)), Ic')) ∧ f_M_bring S Ir Jr (A 6) (nI r) = brT S Ir' Jr' (A 6) (Ir (A 259) (7 * r)) (Ir (A 259) (7 * r + 1)) (Ir (A 259) (7 * r + 2)) (Ir (A 259) (7 * r + 3)) (Ir (A 259) (7 * r + 4)) (Ir (A 259) (7 * r + 5)) ∧ R4 (mI A Ic' Ir') (mJ A Jc Jr') ex b sz (c - 1) (fun i => pi (if i < r then i else if i < 96 then i + 1 else r)) (fun i => am (sh r i)) fz cm gc nu N ∧ (∀ d k, ¬ (d = 3 ∧ k = 2) → d ≠ 5 → Ic' (A d) k = Ic (A d) k) ∧ (∀ d k, ¬ (d = 6 ∧ (k = 32 ∨ k = 37)) → d ≠ 259 → d ≠ 260 → d ≠ 262 → Ir' (A d) k = Ir (A d) k) ∧ (∀ d k, d ≠ 261 → ¬ (d = 6 ∧ k = 38) → Jr' (A d) k = Jr (A d) k) ∧ Ir' (A 6) 37 = Ir (A 259) (7 * r + 6) ∧ (∀ j, j < 64 → Ir' (A 262) j = Ir (A 260) (64 * r + j)) ∧ Jr' (A 6) 38 = Jr (A 261) r := by
  have hc := h.2.2.1.1
  obtain ⟨I2, x1, x2, x3⟩ := br_cp (J := Jr) (l2 := Ir (A 259) (7 * r)) (l3 := Ir (A 259) (7 * r + 1)) (l4 := Ir (A 259) (7 * r + 2)) (l5 := Ir (A 259) (7 * r + 3)) (l6 := Ir (A 259) (7 * r + 4)) (l7 := Ir (A 259) (7 * r + 5)) hL (show r < 96 by omega) 64 0 gFuel (upI Ir (A 6) 37 (Ir (A 259) (7 * r + 6))) (by omega) (by unfold gFuel; omega)
  have k2 : ∀ d k, ¬ (d = 6 ∧ k = 37) → d ≠ 262 → I2 (A d) k = Ir (A d) k := fun d k d1 d2 => by rw [x3 _ _ d2, ev_uI hL (by omega)]
  have h' : R4 (mI A Ic I2) (mJ A Jc (upJ Jr (A 6) 38 (Jr (A 261) r))) ex b sz c pi am fz cm gc nu N := h.buf (fun d k d1 d2 => by
      by_cases e : d = 6 ∨ (226 ≤ d ∧ d < 263)
      · rw [mI_r e, mI_r e, k2 _ _ (by omega) (by omega)]
      · rw [mI_c e, mI_c e]) (fun d k d1 d2 => by
      by_cases e : d = 6 ∨ (226 ≤ d ∧ d < 263)
      · rw [mJ_r e, mJ_r e, ev_uJ hL (by omega)]
      · rw [mJ_c e, mJ_c e])
  obtain ⟨Ic', Ir', Jr', y1, y2, y3, y4, y5, y6⟩ := h'.take hL hr
  refine ⟨Ic', Ir', Jr', y1, ?_, y3, y4, fun d k d1 d2 d3 d4 => by rw [y5 _ _ (by omega) d2 d3, k2 _ _ (by omega) d4], fun d k d1 d2 => by rw [y6 _ _ d1, ev_uJ hL (by omega)], ?_, fun j hj => ?_, ?_⟩
  · have hst : f_M_bring S Ir Jr (A 6) (nI r) = f_M_bring_b93 S gFuel (upI Ir (A 6) 37 (Ir (A 259) (7 * r + 6))) Jr (A 6) (nI r) (Ir (A 259) (7 * r)) (Ir (A 259) (7 * r + 1)) (Ir (A 259) (7 * r + 2)) (Ir (A 259) (7 * r + 3)) (Ir (A 259) (7 * r + 4)) (Ir (A 259) (7 * r + 5)) (nI 0) := by
      simp (disch := omega) only [f_M_bring, ↓bnd_in, ↓Option.bind_some, ↓bd2_some, ↓bd3_some, ↓bd4_some, ↓ew_mr hL, ↓ew_00 hL, ↓ew_01 hL, ↓ew_02 hL, ↓ew_1r hL, ↓ew_lr hL, ↓ew_30 hL, ↓ew_31 hL, ↓ew_4r hL, ↓ew_ltr hL, ↓gd_m hL, ↓gd_0 hL, gd_t, Option.bind_some, bd2_some, bd3_some, bd4_some, gm_some, gm_none, ↓reduceIte, or_self, or_false, false_or, or_true, true_or, and_self, and_true, true_and, and_false, false_and, not_false_eq_true, not_true_eq_false, Nat.reduceAdd, Nat.reduceMul, Int32.reduceLT, Int32.reduceLE, eq_self, ev_lit, ev_10, Int32.reduceToNatClampNeg, Nat.reduceLeDiff, Nat.reduceEqDiff, Nat.reduceLT, nI_clamp, ev_ng, ev_L1, ev_L2, ev_L3, ev_K1, ev_K2, ev_K3, ev_K4, ev_K5, ev_a1, ev_m1, ev_s1, ev_s2, nI_add, ev_nle, ev_le, ev_lt, ev_nlt, ev_ne, ev_eq, ev_uI hL, ev_uJ hL, ev_m hL, ev_mr hL, ev_mt hL, ev_mz hL, ev_mj hL, ev_n8 hL, ev_n64 hL, ev_n229 hL, ev_n254 hL, ev_n257 hL, ev_n259 hL, ev_n260 hL, ev_n261 hL, ev_0 hL, ev_00 hL, ev_01 hL, ev_02 hL, ev_1 hL, ev_1n hL, ev_1r hL, ev_lg hL, ev_lr hL, ev_sr hL, ev_2 hL, ev_2n hL, ev_3 hL, ev_30 hL, ev_31 hL, ev_4 hL, ev_4n hL, ev_5 hL, ev_5n hL, ev_4r hL, ev_lt1 hL, ev_ltr hL, ev_lnt hL, ev_lnn hL, ev_7 hL, ev_7n hL, ev_uE, ev_uK]
      rfl
    rw [hst, x1, f_M_bring_b93, if_pos (by decide), gd_in (ev_m hL), ew_mr hL (by omega), gd_in (ev_mj hL (by omega)), gd_in (by rw [ev_n261 hL]; exact nI_in (by omega) (by omega)), bnd_in, nI_clamp (by omega), b2_h y2, brT]
  · rw [y5 _ _ (by omega) (by omega) (by omega), x3 _ _ (by omega), ev_uE]
  · rw [y5 _ _ (by omega) (by omega) (by omega), x2 j hj, if_neg (by omega), ev_uI hL (by omega)]
  · rw [y6 _ _ (by omega), ev_uK]
end BRING
