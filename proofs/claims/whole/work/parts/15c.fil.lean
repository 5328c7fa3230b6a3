-- fillIn and readyAnswer: GIVE and ADD
section FIL2
variable {S : gS} {A : Nat → Nat} {ex : Nat → Bool} {Ic Ir I : gMI} {J Jc Jr : gMJ} {q t n k k0 : Nat}
theorem gv_c (hL : Lay S A ex) (hq : q < 8) (ht : t < 8) (hk : k < 97) {x y : Int32} {m p : Nat} {W : Nat → Int32} (hm : m ≤ 64) : ∀ (g i f : Nat) (I : gMI), FB S A I Ir q t n → (∀ j, I (A (300 + 40 * q + 26 + t)) j = W j) → pu_low x.toInt (rI I (A (300 + 40 * q + 26 + t))) n = p → pu_cnt x.toInt y.toInt (rI I (A (300 + 40 * q + 26 + t))) n = m → i + g = m → g < f → I (A (32 + k)) 1 = nI i → ∃ I', f_Letter_putGiven_b21 S J f I (A (32 + k)) (A (300 + 40 * q + 18 + t)) (nI m) (nI p) (nI i) = some I' ∧ I' (A (32 + k)) 1 = nI m ∧ (∀ j, j < m → I' (A (129 + k)) j = if j < i then I (A (129 + k)) j else W (p + j)) ∧ ∀ d j, ¬ (d = 32 + k ∧ j = 1) → d ≠ 129 + k → I' (A d) j = I (A d) j := by
  intro g
  induction g with
  | zero =>
    intro i f I hF hW hp hc hi hf h1
    obtain ⟨f, rfl⟩ : ∃ k, f = k + 1 := ⟨f - 1, by omega⟩
    refine ⟨I, ?_, by rw [h1, show i = m by omega], fun j hj => by rw [if_pos (by omega)], fun _ _ _ _ => rfl⟩
    rw [f_Letter_putGiven_b21, if_pos (by rw [show i = m by omega]; exact Int32.le_refl _)]
  | succ g ih =>
    intro i f I hF hW hp hc hi hf h1
    obtain ⟨f, rfl⟩ : ∃ k, f = k + 1 := ⟨f - 1, by omega⟩
    have z1 := hF.1.1
    obtain ⟨w1, w2, -⟩ := hF.kth hL hq ht (y := y) (k := i + 1) hp (by omega) (by rw [hc]; omega)
    rw [show p + (i + 1) - 1 = p + i by omega, hW] at w2
    have w2 := w2 J
    have hpt := put_pt (J := J) hL hk (show i < 64 by omega) h1 (W (p + i))
    have er : rI (PT A k I i (W (p + i))) (A (300 + 40 * q + 26 + t)) = rI I (A (300 + 40 * q + 26 + t)) := by
      funext j; unfold rI; rw [pt_ne hL (by omega) (by omega)]
    obtain ⟨I', s1, s2, s3, s4⟩ := ih (i + 1) f (PT A k I i (W (p + i))) (hF.pt hL hk _ _) (fun j => by rw [pt_ne hL (by omega) (by omega)]; exact hW j) (by rw [er]; exact hp) (by rw [er]; exact hc) (by omega) (by omega) pt_am
    refine ⟨I', ?_, s2, fun j hj => ?_, fun d j d1 d2 => by rw [s4 _ _ d1 d2, pt_ne hL d1 (by omega)]⟩
    · rw [f_Letter_putGiven_b21, if_neg (by rw [ev_L1 (by omega) (by omega)]; omega), gd_in z1, nI_add, w2, Option.bind_some, gd_in (ev_lt1 hL hk), hpt, Option.bind_some, bnd, ev_a1]
      exact s1
    · rw [s3 j hj]
      by_cases e : j < i
      · rw [if_pos (by omega), if_pos e, pt_ne hL (by omega) (by omega)]
      · rw [if_neg e]
        by_cases e2 : j = i
        · rw [if_pos (by omega), e2, pt_at hL hk]
        · rw [if_neg (by omega)]
theorem gv_r (hL : Lay S A ex) (hq : q < 8) (ht : t < 8) {x y : Int32} {m p : Nat} (hm : m ≤ 64) (hp : pu_low x.toInt (rI Ic (A (300 + 40 * q + 26 + t))) n = p) (hc : pu_cnt x.toInt y.toInt (rI Ic (A (300 + 40 * q + 26 + t))) n = m) : ∀ (g i f : Nat) (Ir : gMI), FB S A Ic Ir q t n → i + g = m → g < f → ∃ I', f_M_readyAnswer_b168 S f Ir J (A 6) (nI t) (nI q) x y (nI m) (nI i) = some (I', upJ J (A 6) 38 0) ∧ I' (A 6) 37 = nI m ∧ (∀ j, j < m → I' (A 262) j = if j < i then Ir (A 262) j else Ic (A (300 + 40 * q + 26 + t)) (p + j)) ∧ ∀ d j, ¬ (d = 6 ∧ j = 37) → d ≠ 262 → I' (A d) j = Ir (A d) j := by
  intro g
  induction g with
  | zero =>
    intro i f Ir hF hi hf
    obtain ⟨f, rfl⟩ : ∃ k, f = k + 1 := ⟨f - 1, by omega⟩
    refine ⟨upI Ir (A 6) 37 (nI m), ?_, ev_uE, fun j hj => by rw [if_pos (by omega), ev_uI hL (by omega)], fun d j d1 d2 => by rw [ev_uI hL (by omega)]⟩
    simp (disch := omega) only [f_M_readyAnswer_b168, f_M_readyAnswer_b209, f_M_readyAnswer_b329, ↓bnd_in, ↓Option.bind_some, ↓bd2_some, ↓bd3_some, ↓bd4_some, ↓ew_mr hL, ↓ew_00 hL, ↓ew_01 hL, ↓ew_02 hL, ↓ew_1r hL, ↓ew_lr hL, ↓ew_30 hL, ↓ew_31 hL, ↓ew_4r hL, ↓ew_ltr hL, ↓gd_m hL, ↓gd_0 hL, gd_t, Option.bind_some, bd2_some, bd3_some, bd4_some, gm_some, gm_none, ↓reduceIte, or_self, or_false, false_or, or_true, true_or, and_self, and_true, true_and, and_false, false_and, not_false_eq_true, not_true_eq_false, Nat.reduceAdd, Nat.reduceMul, Int32.reduceLT, Int32.reduceLE, eq_self, ev_lit, ev_10, Int32.reduceToNatClampNeg, Nat.reduceLeDiff, Nat.reduceEqDiff, Nat.reduceLT, nI_clamp, ev_ng, ev_L1, ev_L2, ev_L3, ev_K1, ev_K2, ev_K3, ev_K4, ev_K5, ev_a1, ev_m1, ev_s1, ev_s2, nI_add, ev_nle, ev_le, ev_lt, ev_nlt, ev_ne, ev_eq, ev_uI hL, ev_uJ hL, ev_m hL, ev_mr hL, ev_mt hL, ev_mz hL, ev_mj hL, ev_n8 hL, ev_n64 hL, ev_n229 hL, ev_n254 hL, ev_n257 hL, ev_n259 hL, ev_n260 hL, ev_n261 hL, ev_0 hL, ev_00 hL, ev_01 hL, ev_02 hL, ev_1 hL, ev_1n hL, ev_1r hL, ev_lg hL, ev_lr hL, ev_sr hL, ev_2 hL, ev_2n hL, ev_3 hL, ev_30 hL, ev_31 hL, ev_4 hL, ev_4n hL, ev_5 hL, ev_5n hL, ev_4r hL, ev_lt1 hL, ev_ltr hL, ev_lnt hL, ev_lnn hL, ev_7 hL, ev_7n hL, ev_uE, ev_uK]
  | succ g ih =>
    intro i f Ir hF hi hf
    obtain ⟨f, rfl⟩ : ∃ k, f = k + 1 := ⟨f - 1, by omega⟩
    obtain ⟨w1, -, w3⟩ := hF.kth hL hq ht (y := y) (k := i + 1) hp (by omega) (by rw [hc]; omega)
    rw [show p + (i + 1) - 1 = p + i by omega] at w3
    obtain ⟨I', s1, s2, s3, s4⟩ := ih (i + 1) f (upI Ir (A 262) i (Ic (A (300 + 40 * q + 26 + t)) (p + i))) (hF.frame (fun _ => rfl) (fun _ => rfl) (fun j => by rw [ev_uI hL (by omega)]) (fun j => by rw [ev_uI hL (by omega)])) (by omega) (by omega)
    refine ⟨I', ?_, s2, fun j hj => ?_, fun d j d1 d2 => by rw [s4 _ _ d1 d2, ev_uI hL (by omega)]⟩
    · simp (disch := omega) only [f_M_readyAnswer_b168, ↓ob_h (w3 _), ↓bnd_in, ↓Option.bind_some, ↓bd2_some, ↓bd3_some, ↓bd4_some, ↓ew_mr hL, ↓ew_00 hL, ↓ew_01 hL, ↓ew_02 hL, ↓ew_1r hL, ↓ew_lr hL, ↓ew_30 hL, ↓ew_31 hL, ↓ew_4r hL, ↓ew_ltr hL, ↓gd_m hL, ↓gd_0 hL, gd_t, Option.bind_some, bd2_some, bd3_some, bd4_some, gm_some, gm_none, ↓reduceIte, or_self, or_false, false_or, or_true, true_or, and_self, and_true, true_and, and_false, false_and, not_false_eq_true, not_true_eq_false, Nat.reduceAdd, Nat.reduceMul, Int32.reduceLT, Int32.reduceLE, eq_self, ev_lit, ev_10, Int32.reduceToNatClampNeg, Nat.reduceLeDiff, Nat.reduceEqDiff, Nat.reduceLT, nI_clamp, ev_ng, ev_L1, ev_L2, ev_L3, ev_K1, ev_K2, ev_K3, ev_K4, ev_K5, ev_a1, ev_m1, ev_s1, ev_s2, nI_add, ev_nle, ev_le, ev_lt, ev_nlt, ev_ne, ev_eq, ev_uI hL, ev_uJ hL, ev_m hL, ev_mr hL, ev_mt hL, ev_mz hL, ev_mj hL, ev_n8 hL, ev_n64 hL, ev_n229 hL, ev_n254 hL, ev_n257 hL, ev_n259 hL, ev_n260 hL, ev_n261 hL, ev_0 hL, ev_00 hL, ev_01 hL, ev_02 hL, ev_1 hL, ev_1n hL, ev_1r hL, ev_lg hL, ev_lr hL, ev_sr hL, ev_2 hL, ev_2n hL, ev_3 hL, ev_30 hL, ev_31 hL, ev_4 hL, ev_4n hL, ev_5 hL, ev_5n hL, ev_4r hL, ev_lt1 hL, ev_ltr hL, ev_lnt hL, ev_lnn hL, ev_7 hL, ev_7n hL, ev_uE, ev_uK]
      exact s1
    · rw [s3 j hj]
      by_cases e : j < i
      · rw [if_pos (by omega), if_pos e, ev_uI hL (by omega)]
      · rw [if_neg e]
        by_cases e2 : j = i
        · rw [if_pos (by omega), e2, ev_uE]
        · rw [if_neg (by omega)]
theorem fill7 (hL : Lay S A ex) (hq : q < 8) (ht : t < 8) (hk : k < 97) (hk0 : k0 < 97) (hF : FB S A Ic Ir q t n) (h1 : Ic (A (32 + k)) 1 = nI 0) (hj : Jc (A (32 + k)) 2 = 0) {x y : Int32} (nx : f_Letter_number S Ic Jc (A (32 + k0)) 0 = some x) (ny : f_Letter_number S Ic Jc (A (32 + k0)) 1 = some y) (rx : Ir (A 262) 0 = x) (ry : Ir (A 262) 1 = y) (kk : Ic (A (32 + k0)) 3 = 7) (h7 : pu_cnt x.toInt y.toInt (rI Ic (A (300 + 40 * q + 26 + t))) n ≤ 64) : FILd S A q t n k k0 7 x y Ic Jc Ir Jr := by
  have z1 := hF.1.1
  obtain ⟨m, m1, m2, m3, m4⟩ := hF.cnt hL hq ht x.toInt64 y.toInt64 (by rw [Int32.toInt_toInt64]; have := y.toInt_lt; omega)
  rw [Int32.toInt_toInt64, Int32.toInt_toInt64] at m2
  obtain ⟨p, p1, p2, p3, -⟩ := hF.low hL hq ht x
  obtain ⟨Ic', s1, s2, s3, s4⟩ := gv_c (Ir := Ir) (J := Jc) (W := Ic (A (300 + 40 * q + 26 + t))) hL hq ht hk (show m ≤ 64 by omega) m 0 gFuel Ic hF (fun _ => rfl) p2 m2 (by omega) (by unfold gFuel; omega) h1
  obtain ⟨Ir', r1, r2, r3, r4⟩ := gv_r (J := Jr) hL hq ht (show m ≤ 64 by omega) p2 m2 m 0 gFuel Ir hF (by omega) (by unfold gFuel; omega)
  rw [show nI 0 = (0 : Int32) from rfl] at s1 r1
  refine ⟨Ic', Jc, Ir', upJ Jr (A 6) 38 0, m, ?_, ?_, by omega, s2, r2, fun j hj => by rw [r3 j hj, s3 j hj, if_neg (by omega), if_neg (by omega)], by rw [ev_uK, hj], s4, fun _ _ _ => rfl, r4, fun d j d1 => by rw [ev_uJ hL (by omega)], fun e => absurd e (by decide), fun _ => m2.symm⟩
  · simp (disch := omega) only [f_Letter_fillIn, ↓ob_h nx, ↓ob_h ny, kk, f_Letter_putGiven, z1, ↓ob_h (m3 _), ↓ob_h (p3 _), ↓ob_h s1, f_Letter_fillIn_b139, ↓bnd_in, ↓Option.bind_some, ↓bd2_some, ↓bd3_some, ↓bd4_some, ↓ew_mr hL, ↓ew_00 hL, ↓ew_01 hL, ↓ew_02 hL, ↓ew_1r hL, ↓ew_lr hL, ↓ew_30 hL, ↓ew_31 hL, ↓ew_4r hL, ↓ew_ltr hL, ↓gd_m hL, ↓gd_0 hL, gd_t, Option.bind_some, bd2_some, bd3_some, bd4_some, gm_some, gm_none, ↓reduceIte, or_self, or_false, false_or, or_true, true_or, and_self, and_true, true_and, and_false, false_and, not_false_eq_true, not_true_eq_false, Nat.reduceAdd, Nat.reduceMul, Int32.reduceLT, Int32.reduceLE, eq_self, ev_lit, ev_10, Int32.reduceToNatClampNeg, Nat.reduceLeDiff, Nat.reduceEqDiff, Nat.reduceLT, nI_clamp, ev_ng, ev_L1, ev_L2, ev_L3, ev_K1, ev_K2, ev_K3, ev_K4, ev_K5, ev_a1, ev_m1, ev_s1, ev_s2, nI_add, ev_nle, ev_le, ev_lt, ev_nlt, ev_ne, ev_eq, ev_uI hL, ev_uJ hL, ev_m hL, ev_mr hL, ev_mt hL, ev_mz hL, ev_mj hL, ev_n8 hL, ev_n64 hL, ev_n229 hL, ev_n254 hL, ev_n257 hL, ev_n259 hL, ev_n260 hL, ev_n261 hL, ev_0 hL, ev_00 hL, ev_01 hL, ev_02 hL, ev_1 hL, ev_1n hL, ev_1r hL, ev_lg hL, ev_lr hL, ev_sr hL, ev_2 hL, ev_2n hL, ev_3 hL, ev_30 hL, ev_31 hL, ev_4 hL, ev_4n hL, ev_5 hL, ev_5n hL, ev_4r hL, ev_lt1 hL, ev_ltr hL, ev_lnt hL, ev_lnn hL, ev_7 hL, ev_7n hL, ev_uE, ev_uK]
  · rw [show nI 7 = (7 : Int32) from rfl]
    simp (disch := omega) only [f_M_readyAnswer, rx, ry, ↓ob_h (m4 _), ↓bnd_in, ↓Option.bind_some, ↓bd2_some, ↓bd3_some, ↓bd4_some, ↓ew_mr hL, ↓ew_00 hL, ↓ew_01 hL, ↓ew_02 hL, ↓ew_1r hL, ↓ew_lr hL, ↓ew_30 hL, ↓ew_31 hL, ↓ew_4r hL, ↓ew_ltr hL, ↓gd_m hL, ↓gd_0 hL, gd_t, Option.bind_some, bd2_some, bd3_some, bd4_some, gm_some, gm_none, ↓reduceIte, or_self, or_false, false_or, or_true, true_or, and_self, and_true, true_and, and_false, false_and, not_false_eq_true, not_true_eq_false, Nat.reduceAdd, Nat.reduceMul, Int32.reduceLT, Int32.reduceLE, eq_self, ev_lit, ev_10, Int32.reduceToNatClampNeg, Nat.reduceLeDiff, Nat.reduceEqDiff, Nat.reduceLT, nI_clamp, ev_ng, ev_L1, ev_L2, ev_L3, ev_K1, ev_K2, ev_K3, ev_K4, ev_K5, ev_a1, ev_m1, ev_s1, ev_s2, nI_add, ev_nle, ev_le, ev_lt, ev_nlt, ev_ne, ev_eq, ev_uI hL, ev_uJ hL, ev_m hL, ev_mr hL, ev_mt hL, ev_mz hL, ev_mj hL, ev_n8 hL, ev_n64 hL, ev_n229 hL, ev_n254 hL, ev_n257 hL, ev_n259 hL, ev_n260 hL, ev_n261 hL, ev_0 hL, ev_00 hL, ev_01 hL, ev_02 hL, ev_1 hL, ev_1n hL, ev_1r hL, ev_lg hL, ev_lr hL, ev_sr hL, ev_2 hL, ev_2n hL, ev_3 hL, ev_30 hL, ev_31 hL, ev_4 hL, ev_4n hL, ev_5 hL, ev_5n hL, ev_4r hL, ev_lt1 hL, ev_ltr hL, ev_lnt hL, ev_lnn hL, ev_7 hL, ev_7n hL, ev_uE, ev_uK]
    exact r1
/-- what lies below x + 1, and below y, as places; the reference's count and sum between them -/
theorem FB.betw (hL : Lay S A ex) (hF : FB S A Ic Ir q t n) (hq : q < 8) (ht : t < 8) (x y : Int32) : ∃ s e : Nat, ∃ sm : Int64, s ≤ n ∧ e ≤ n ∧ (∀ J, f_SortedRow_below S Ic J (A (300 + 40 * q + 18 + t)) (x.toInt64 + 1) = some (nI s)) ∧ (∀ J, f_SortedRow_below S Ic J (A (300 + 40 * q + 18 + t)) y.toInt64 = some (nI e)) ∧ (∀ J, f_SortedRow_sum S Ic J (A (300 + 40 * q + 18 + t)) (nI s) (nI e) = some sm) ∧ (∀ J, f_M_countOf S Ir J (A 6) (nI t) (nI q) (x.toInt64 + 1) (y.toInt64 - 1) = some (if (0 : Int32) < nI e - nI s then nI e - nI s else 0)) ∧ ∀ J, f_M_sumOf S Ir J (A 6) (nI t) (nI q) (x.toInt64 + 1) (y.toInt64 - 1) = some sm := by
  have hh := hF
  obtain ⟨h1, h2, h3⟩ := hh
  have hn := hF.le
  have hs := h1.2.2.2.2.2.2.2
  have bx := x.toInt_lt
  have bx' := x.le_toInt
  have by1 := y.toInt_lt
  have by2 := y.le_toInt
  have ex1 : (x.toInt64 + 1).toInt = x.toInt + 1 := by rw [lo_add1 (by rw [Int32.toInt_toInt64]; omega), Int32.toInt_toInt64]
  have ey1 : (y.toInt64 - 1).toInt = y.toInt - 1 := by rw [lo_sub1 (by rw [Int32.toInt_toInt64]; omega), Int32.toInt_toInt64]
  obtain ⟨s, s1, s2, -⟩ := F_below (J := fun _ _ => 0) h1 (x.toInt64 + 1)
  obtain ⟨e, e1, e2, -⟩ := F_below (J := fun _ _ => 0) h1 y.toInt64
  rw [ex1] at s2
  rw [Int32.toInt_toInt64] at e2
  have hge : ∀ a c : Nat, nI a - nI c = nI (a - c) ∨ a < c := fun a c => by
    by_cases h : c ≤ a
    · exact Or.inl (pk_sub h)
    · exact Or.inr (by omega)
  refine ⟨s, e, _, s1, e1, fun J => ?_, fun J => ?_, fun J => F_sum h1 s1 e1, fun J => ?_, fun J => ?_⟩
  · obtain ⟨m', m1', m2', m3'⟩ := F_below (J := J) h1 (x.toInt64 + 1)
    rw [ex1] at m2'
    rw [m3', show m' = s by omega]
  · obtain ⟨m', m1', m2', m3'⟩ := F_below (J := J) h1 y.toInt64
    rw [Int32.toInt_toInt64] at m2'
    rw [m3', show m' = e by omega]
  · obtain ⟨m, m1, m2, m3⟩ := M_count (J := J) hL.ref ht hq hn h2 (x.toInt64 + 1) (y.toInt64 - 1)
    rw [ex1, ey1, ← h3.cnt] at m2
    rw [m3]
    by_cases hxy : x.toInt + 1 ≤ y.toInt
    · have hsp := pu_cnt_low (x.toInt + 1) (y.toInt - 1) (by omega) (rI Ic (A (300 + 40 * q + 26 + t))) n
      rw [show y.toInt - 1 + 1 = y.toInt by omega, s2, e2, m2] at hsp
      rw [pk_sub (show s ≤ e by omega), show e - s = m by omega]
      by_cases e0 : m = 0
      · rw [e0, if_neg (by decide)]; rfl
      · rw [if_pos (show (0 : Int32) < nI m from nI_lt (a := 0) (b := m) (by omega) (by omega))]
    · have h0 := pu_cnt_none (x.toInt + 1) (y.toInt - 1) (by omega) (rI Ic (A (300 + 40 * q + 26 + t))) n
      have hmo := pu_low_mono (f := rI Ic (A (300 + 40 * q + 26 + t))) (n := n) (show y.toInt ≤ x.toInt + 1 by omega)
      rw [s2, e2] at hmo
      rw [show m = 0 by omega]
      by_cases e0 : e = s
      · rw [e0, pk_sub (Nat.le_refl s), Nat.sub_self, if_neg (by decide)]; rfl
      · rw [if_neg (fun hlt => ?_)]
        · rfl
        · have := Int32.lt_iff_toInt_lt.mp hlt
          rw [Int32.toInt_sub, nI_toInt (show e < 2 ^ 31 by omega), nI_toInt (show s < 2 ^ 31 by omega), Int.bmod_eq_of_le (by omega) (by omega)] at this
          have z0 : (0 : Int32).toInt = 0 := by decide
          omega
  · rw [M_sum hL.ref ht hq hn h2, ex1, ey1]
    rw [← h3 (pu_iv (x.toInt + 1) (y.toInt - 1))]
    by_cases hxy : x.toInt + 1 ≤ y.toInt
    · have hmo := pu_low_mono (f := rI Ic (A (300 + 40 * q + 26 + t))) (n := n) (show x.toInt + 1 ≤ y.toInt by omega)
      rw [s2, e2] at hmo
      rw [pu_sum_srt (p := s) (q := e) (by omega) e1 (fun i hi => (pu_low_iff hs (by omega)).mpr (by rw [s2]; omega)) (fun i i1 i2 => ?_) (fun i i1 i2 => ?_)]
      · have a1 := (pu_low_iff (b := x.toInt + 1) hs (show i < n by omega))
        have a2 := (pu_low_iff (b := y.toInt) hs (show i < n by omega))
        rw [s2] at a1
        rw [e2] at a2
        have a2 := a2.mpr (by omega)
        have a1 : ¬ rI Ic (A (300 + 40 * q + 26 + t)) i < x.toInt + 1 := fun hc => by have := a1.mp hc; omega
        omega
      · have a2 := (pu_low_iff (b := y.toInt) hs (show i < n by omega))
        rw [e2] at a2
        have a2 : ¬ rI Ic (A (300 + 40 * q + 26 + t)) i < y.toInt := fun hc => by have := a2.mp hc; omega
        omega
    · have hmo := pu_low_mono (f := rI Ic (A (300 + 40 * q + 26 + t))) (n := n) (show y.toInt ≤ x.toInt + 1 by omega)
      rw [s2, e2] at hmo
      rw [show e - s = 0 by omega]
      congr 2
      rw [pu_tot_phi (ψ := fun _ => 0) (fun i hi => by unfold pu_iv; rw [if_neg (by omega)])]
      have : ∀ k, pu_tot (fun _ => 0) (rI Ic (A (300 + 40 * q + 26 + t))) k = 0 := fun k => by
        induction k with
        | zero => rfl
        | succ k ih => show _ + (0 : Int) = 0; rw [ih]; rfl
      exact this n
theorem fill11 (hL : Lay S A ex) (hq : q < 8) (ht : t < 8) (hk : k < 97) (hk0 : k0 < 97) (hF : FB S A Ic Ir q t n) (h1 : Ic (A (32 + k)) 1 = nI 0) {x y : Int32} (nx : f_Letter_number S Ic Jc (A (32 + k0)) 0 = some x) (ny : f_Letter_number S Ic Jc (A (32 + k0)) 1 = some y) (rx : Ir (A 262) 0 = x) (ry : Ir (A 262) 1 = y) (kk : Ic (A (32 + k0)) 3 = 11) : FILd S A q t n k k0 11 x y Ic Jc Ir Jr := by
  have z1 := hF.1.1
  obtain ⟨s, e, sm, b1, b2, b3, b4, b5, b6, b7⟩ := hF.betw hL hq ht x y
  obtain ⟨p, p1, p2, p3, p4⟩ := hF.low hL hq ht x
  obtain ⟨m, m1, m2, m3, m4⟩ := (hF.pt hL hk 0 (nI p)).cnt hL hq ht x.toInt64 x.toInt64 (by rw [Int32.toInt_toInt64]; have := x.toInt_lt; omega)
  obtain ⟨v2, hv2⟩ : ∃ v2 : Int32, v2 = (if (0 : Int32) < nI e - nI s then nI e - nI s else 0) := ⟨_, rfl⟩
  rw [← hv2] at b6
  have q0 := put_pt (J := upJ Jc (A (32 + k)) 2 sm) hL hk (by omega) h1 (nI p)
  obtain ⟨I0, hI0⟩ : ∃ I0 : gMI, I0 = PT A k Ic 0 (nI p) := ⟨_, rfl⟩
  have q1 := put_pt (I := PT A k Ic 0 (nI p)) (J := upJ Jc (A (32 + k)) 2 sm) hL hk (show 1 < 64 by omega) pt_am (nI m)
  have q2 := put_pt (I := PT A k (PT A k Ic 0 (nI p)) 1 (nI m)) (J := upJ Jc (A (32 + k)) 2 sm) hL hk (show 2 < 64 by omega) pt_am v2
  have q3 := put_pt (I := PT A k (PT A k (PT A k Ic 0 (nI p)) 1 (nI m)) 2 v2) (J := upJ Jc (A (32 + k)) 2 sm) hL hk (show 3 < 64 by omega) pt_am sm.toInt32
  obtain ⟨Ir1, r1, r2, r3, r4, r5, r6⟩ := M_ready (I := Ir) (J := Jr) hL 4 (nI p) (nI m) v2
  have hF1 : FB S A Ic Ir1 q t n := hF.frame (fun _ => rfl) (fun _ => rfl) (fun j => r6 _ _ (by omega) (by omega)) (fun j => r6 _ _ (by omega) (by omega))
  obtain ⟨s', e', sm', c1, c2, c3, c4, c5, c6, c7⟩ := hF1.betw hL hq ht x y
  have es : s' = s := by
    have := (c3 Jc).symm.trans (b3 Jc)
    exact (nI_eq (by have := hF.le; omega) (by have := hF.le; omega)).mp (Option.some.inj this)
  have ee : e' = e := by
    have := (c4 Jc).symm.trans (b4 Jc)
    exact (nI_eq (by have := hF.le; omega) (by have := hF.le; omega)).mp (Option.some.inj this)
  have esm : sm' = sm := by
    have := c5 Jc
    rw [es, ee] at this
    exact Option.some.inj (this.symm.trans (b5 Jc))
  rw [esm] at c7
  refine ⟨PT A k (PT A k (PT A k (PT A k Ic 0 (nI p)) 1 (nI m)) 2 v2) 3 sm.toInt32, upJ Jc (A (32 + k)) 2 sm, upI Ir1 (A 262) 3 sm.toInt32, upJ (upJ Jr (A 6) 38 0) (A 6) 38 sm, 4, ?_, ?_, by omega, pt_am, ?_, fun j hj => ?_, by rw [ev_uK, ev_uK], fun d j d1 d2 => ?_, fun d j d1 => by rw [ev_uJ hL (by omega)], fun d j d1 d2 => ?_, fun d j d1 => by rw [ev_uJ hL (by omega), ev_uJ hL (by omega)], fun e => absurd e (by decide), fun e => absurd e (by decide)⟩
  · simp (disch := omega) only [f_Letter_fillIn, ↓ob_h nx, ↓ob_h ny, kk, f_Letter_putAdded, z1, ↓ob_h (b3 _), ↓ob_h (b4 _), ↓ob_h (b5 _), ↓ob_h (p3 _), ↓ob_h q0, ↓ob_h (m3 _), ↓ob_h q1, ← hv2, ↓ob_h q2, ↓ob_h q3, f_Letter_fillIn_b139, ↓bnd_in, ↓Option.bind_some, ↓bd2_some, ↓bd3_some, ↓bd4_some, ↓ew_mr hL, ↓ew_00 hL, ↓ew_01 hL, ↓ew_02 hL, ↓ew_1r hL, ↓ew_lr hL, ↓ew_30 hL, ↓ew_31 hL, ↓ew_4r hL, ↓ew_ltr hL, ↓gd_m hL, ↓gd_0 hL, gd_t, Option.bind_some, bd2_some, bd3_some, bd4_some, gm_some, gm_none, ↓reduceIte, or_self, or_false, false_or, or_true, true_or, and_self, and_true, true_and, and_false, false_and, not_false_eq_true, not_true_eq_false, Nat.reduceAdd, Nat.reduceMul, Int32.reduceLT, Int32.reduceLE, eq_self, ev_lit, ev_10, Int32.reduceToNatClampNeg, Nat.reduceLeDiff, Nat.reduceEqDiff, Nat.reduceLT, nI_clamp, ev_ng, ev_L1, ev_L2, ev_L3, ev_K1, ev_K2, ev_K3, ev_K4, ev_K5, ev_a1, ev_m1, ev_s1, ev_s2, nI_add, ev_nle, ev_le, ev_lt, ev_nlt, ev_ne, ev_eq, ev_uI hL, ev_uJ hL, ev_m hL, ev_mr hL, ev_mt hL, ev_mz hL, ev_mj hL, ev_n8 hL, ev_n64 hL, ev_n229 hL, ev_n254 hL, ev_n257 hL, ev_n259 hL, ev_n260 hL, ev_n261 hL, ev_0 hL, ev_00 hL, ev_01 hL, ev_02 hL, ev_1 hL, ev_1n hL, ev_1r hL, ev_lg hL, ev_lr hL, ev_sr hL, ev_2 hL, ev_2n hL, ev_3 hL, ev_30 hL, ev_31 hL, ev_4 hL, ev_4n hL, ev_5 hL, ev_5n hL, ev_4r hL, ev_lt1 hL, ev_ltr hL, ev_lnt hL, ev_lnn hL, ev_7 hL, ev_7n hL, ev_uE, ev_uK]
  · rw [show nI 11 = (11 : Int32) from rfl]
    simp (disch := omega) only [f_M_readyAnswer, rx, ry, ↓ob_h (p4 _), ↓ob_h (m4 _), ↓ob_h (b6 _), ↓b2_h r1, ↓ob_h (c7 _), f_M_readyAnswer_b329, ↓bnd_in, ↓Option.bind_some, ↓bd2_some, ↓bd3_some, ↓bd4_some, ↓ew_mr hL, ↓ew_00 hL, ↓ew_01 hL, ↓ew_02 hL, ↓ew_1r hL, ↓ew_lr hL, ↓ew_30 hL, ↓ew_31 hL, ↓ew_4r hL, ↓ew_ltr hL, ↓gd_m hL, ↓gd_0 hL, gd_t, Option.bind_some, bd2_some, bd3_some, bd4_some, gm_some, gm_none, ↓reduceIte, or_self, or_false, false_or, or_true, true_or, and_self, and_true, true_and, and_false, false_and, not_false_eq_true, not_true_eq_false, Nat.reduceAdd, Nat.reduceMul, Int32.reduceLT, Int32.reduceLE, eq_self, ev_lit, ev_10, Int32.reduceToNatClampNeg, Nat.reduceLeDiff, Nat.reduceEqDiff, Nat.reduceLT, nI_clamp, ev_ng, ev_L1, ev_L2, ev_L3, ev_K1, ev_K2, ev_K3, ev_K4, ev_K5, ev_a1, ev_m1, ev_s1, ev_s2, nI_add, ev_nle, ev_le, ev_lt, ev_nlt, ev_ne, ev_eq, ev_uI hL, ev_uJ hL, ev_m hL, ev_mr hL, ev_mt hL, ev_mz hL, ev_mj hL, ev_n8 hL, ev_n64 hL, ev_n229 hL, ev_n254 hL, ev_n257 hL, ev_n259 hL, ev_n260 hL, ev_n261 hL, ev_0 hL, ev_00 hL, ev_01 hL, ev_02 hL, ev_1 hL, ev_1n hL, ev_1r hL, ev_lg hL, ev_lr hL, ev_sr hL, ev_2 hL, ev_2n hL, ev_3 hL, ev_30 hL, ev_31 hL, ev_4 hL, ev_4n hL, ev_5 hL, ev_5n hL, ev_4r hL, ev_lt1 hL, ev_ltr hL, ev_lnt hL, ev_lnn hL, ev_7 hL, ev_7n hL, ev_uE, ev_uK]
  · rw [ev_uI hL (by omega)]; exact r2
  · rcases (show j = 0 ∨ j = 1 ∨ j = 2 ∨ j = 3 by omega) with rfl | rfl | rfl | rfl
    · rw [ev_uI hL (by omega), r3, pt_ne hL (by omega) (by omega), pt_ne hL (by omega) (by omega), pt_ne hL (by omega) (by omega), pt_at hL hk]
    · rw [ev_uI hL (by omega), r4, pt_ne hL (by omega) (by omega), pt_ne hL (by omega) (by omega), pt_at hL hk]
    · rw [ev_uI hL (by omega), r5, pt_ne hL (by omega) (by omega), pt_at hL hk]
    · rw [ev_uE, pt_at hL hk]
  · rw [pt_ne hL d1 (by omega), pt_ne hL d1 (by omega), pt_ne hL d1 (by omega), pt_ne hL d1 (by omega)]
  · rw [ev_uI hL (by omega)]; exact r6 d j d1 (by omega)
end FIL2
