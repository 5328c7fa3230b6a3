-- An answer is heard: the class's side
section HRC
variable {S : gS} {A : Nat → Nat} {ex : Nat → Bool} {J : gMJ} {q f k0 am : Nat}
/-- the numbers given, into the sorted row -/
theorem hr_b73 (hL : Lay S A ex) (hq : q < 8) (he : ex q = true) (hk0 : k0 < 97) (ham : am ≤ 64) : ∀ (g i n m : Nat) (I : gMI), i + g = am → g < n → m + g ≤ 64 → RowOk S I (A (300 + 40 * q + 8)) (A (300 + 40 * q + 9)) 64 m → I (A (32 + k0)) 1 = nI am → ∃ I', f_Replies_hear_b73 S n I J (A (300 + 40 * q + 3)) (A (32 + k0)) (nI i) = some (I', J) ∧ RowOk S I' (A (300 + 40 * q + 8)) (A (300 + 40 * q + 9)) 64 (m + g) ∧ (∀ φ : Int → Int, pu_tot φ (rI I' (A (300 + 40 * q + 9))) (m + g) = pu_tot φ (rI I (A (300 + 40 * q + 9))) m + pu_tot φ (fun j => (I (A (129 + k0)) (i + j)).toInt) g) ∧ ∀ d k, d ≠ 300 + 40 * q + 8 → d ≠ 300 + 40 * q + 9 → I' (A d) k = I (A d) k := by
  obtain ⟨-, -, -, -, ⟨u0, u1, u2, u3⟩, -, -, -, -, -, w0⟩ := (hL.qy hq he).2
  intro g
  induction g with
  | zero =>
    intro i n m I hi hn hm hr h1
    obtain ⟨n, rfl⟩ : ∃ k, n = k + 1 := ⟨n - 1, by omega⟩
    refine ⟨I, ?_, hr, fun φ => by show _ = _ + (0 : Int); rw [Int.add_zero]; rfl, fun _ _ _ _ => rfl⟩
    simp (disch := omega) only [f_Replies_hear_b73, h1, f_Replies_hear_b99, ↓bnd_in, ↓Option.bind_some, ↓bd2_some, ↓bd3_some, ↓bd4_some, ↓ew_mr hL, ↓ew_00 hL, ↓ew_01 hL, ↓ew_02 hL, ↓ew_1r hL, ↓ew_lr hL, ↓ew_30 hL, ↓ew_31 hL, ↓ew_4r hL, ↓ew_ltr hL, ↓gd_m hL, ↓gd_0 hL, gd_t, Option.bind_some, bd2_some, bd3_some, bd4_some, gm_some, gm_none, ↓reduceIte, or_self, or_false, false_or, or_true, true_or, and_self, and_true, true_and, and_false, false_and, not_false_eq_true, not_true_eq_false, Nat.reduceAdd, Nat.reduceMul, Int32.reduceLT, Int32.reduceLE, eq_self, ev_lit, ev_10, Int32.reduceToNatClampNeg, Nat.reduceLeDiff, Nat.reduceEqDiff, Nat.reduceLT, nI_clamp, ev_ng, ev_L1, ev_L2, ev_L3, ev_K1, ev_K2, ev_K3, ev_K4, ev_K5, ev_a1, ev_m1, ev_s1, ev_s2, nI_add, ev_nle, ev_le, ev_lt, ev_nlt, ev_ne, ev_eq, ev_uI hL, ev_uJ hL, ev_m hL, ev_mr hL, ev_mt hL, ev_mz hL, ev_mj hL, ev_n8 hL, ev_n64 hL, ev_n229 hL, ev_n254 hL, ev_n257 hL, ev_n259 hL, ev_n260 hL, ev_n261 hL, ev_0 hL, ev_00 hL, ev_01 hL, ev_02 hL, ev_1 hL, ev_1n hL, ev_1r hL, ev_lg hL, ev_lr hL, ev_sr hL, ev_2 hL, ev_2n hL, ev_3 hL, ev_30 hL, ev_31 hL, ev_4 hL, ev_4n hL, ev_5 hL, ev_5n hL, ev_4r hL, ev_lt1 hL, ev_ltr hL, ev_lnt hL, ev_lnn hL, ev_7 hL, ev_7n hL, ev_uE, ev_uK]
  | succ g ih =>
    intro i n m I hi hn hm hr h1
    obtain ⟨n, rfl⟩ : ∃ k, n = k + 1 := ⟨n - 1, by omega⟩
    have hnum := num_eq (J := J) hL hk0 (show i < 64 by omega) h1 ham
    rw [if_pos (by omega)] at hnum
    obtain ⟨I1, s1, s2, s3, s4⟩ := F_insert (J := J) hr (by omega) (I (A (129 + k0)) i)
    have k1 : ∀ d k, d ≠ 300 + 40 * q + 8 → d ≠ 300 + 40 * q + 9 → I1 (A d) k = I (A d) k := fun d k d1 d2 => by rw [s3 _ (hL.inj d1) (hL.inj d2)]
    obtain ⟨I', t1, t2, t3, t4⟩ := ih (i + 1) n (m + 1) I1 (by omega) (by omega) (by omega) s2 (by rw [k1 _ _ (by omega) (by omega)]; exact h1)
    refine ⟨I', ?_, by rw [show m + (g + 1) = m + 1 + g by omega]; exact t2, fun φ => ?_, fun d k d1 d2 => by rw [t4 _ _ d1 d2, k1 _ _ d1 d2]⟩
    · simp (disch := omega) only [f_Replies_hear_b73, h1, u0, ↓ob_h u3, ↓ob_h hnum, w0.1, ↓ob_h s1, ↓bnd_in, ↓Option.bind_some, ↓bd2_some, ↓bd3_some, ↓bd4_some, ↓ew_mr hL, ↓ew_00 hL, ↓ew_01 hL, ↓ew_02 hL, ↓ew_1r hL, ↓ew_lr hL, ↓ew_30 hL, ↓ew_31 hL, ↓ew_4r hL, ↓ew_ltr hL, ↓gd_m hL, ↓gd_0 hL, gd_t, Option.bind_some, bd2_some, bd3_some, bd4_some, gm_some, gm_none, ↓reduceIte, or_self, or_false, false_or, or_true, true_or, and_self, and_true, true_and, and_false, false_and, not_false_eq_true, not_true_eq_false, Nat.reduceAdd, Nat.reduceMul, Int32.reduceLT, Int32.reduceLE, eq_self, ev_lit, ev_10, Int32.reduceToNatClampNeg, Nat.reduceLeDiff, Nat.reduceEqDiff, Nat.reduceLT, nI_clamp, ev_ng, ev_L1, ev_L2, ev_L3, ev_K1, ev_K2, ev_K3, ev_K4, ev_K5, ev_a1, ev_m1, ev_s1, ev_s2, nI_add, ev_nle, ev_le, ev_lt, ev_nlt, ev_ne, ev_eq, ev_uI hL, ev_uJ hL, ev_m hL, ev_mr hL, ev_mt hL, ev_mz hL, ev_mj hL, ev_n8 hL, ev_n64 hL, ev_n229 hL, ev_n254 hL, ev_n257 hL, ev_n259 hL, ev_n260 hL, ev_n261 hL, ev_0 hL, ev_00 hL, ev_01 hL, ev_02 hL, ev_1 hL, ev_1n hL, ev_1r hL, ev_lg hL, ev_lr hL, ev_sr hL, ev_2 hL, ev_2n hL, ev_3 hL, ev_30 hL, ev_31 hL, ev_4 hL, ev_4n hL, ev_5 hL, ev_5n hL, ev_4r hL, ev_lt1 hL, ev_ltr hL, ev_lnt hL, ev_lnn hL, ev_7 hL, ev_7n hL, ev_uE, ev_uK]
      exact t1
    · rw [show m + (g + 1) = m + 1 + g by omega, t3 φ, s4 φ]
      have e1 : pu_tot φ (fun j => (I1 (A (129 + k0)) (i + 1 + j)).toInt) g = pu_tot φ (fun j => (I (A (129 + k0)) (i + 1 + j)).toInt) g := pu_tot_congr fun j hj => by rw [k1 _ _ (by omega) (by omega)]
      have e2 : ∀ g, pu_tot φ (fun j => (I (A (129 + k0)) (i + j)).toInt) (g + 1) = φ (I (A (129 + k0)) i).toInt + pu_tot φ (fun j => (I (A (129 + k0)) (i + 1 + j)).toInt) g := fun g => by
        induction g with
        | zero => show (0 : Int) + _ = _ + (0 : Int); rw [Int.zero_add, Int.add_zero]; rfl
        | succ g ih =>
          show pu_tot φ _ (g + 1) + φ (I (A (129 + k0)) (i + (g + 1))).toInt = _ + (pu_tot φ _ g + φ (I (A (129 + k0)) (i + 1 + g)).toInt)
          rw [ih, show i + (g + 1) = i + 1 + g by omega, Int.add_assoc]
      rw [e1, e2 g]
      omega
theorem hr_b35 (hL : Lay S A ex) (hq : q < 8) (he : ex q = true) (hf : f < 8) (hk0 : k0 < 97) (ham : am ≤ 64) : ∀ (g i n : Nat) (I : gMI), i + g = 3 → g < n → I (A (32 + k0)) 1 = nI am → I (A (32 + k0)) 7 = nI f → ∃ I', f_Replies_hear_b35 S n I J (A (300 + 40 * q + 3)) (A (32 + k0)) (nI i) = (if I (A (32 + k0)) 3 = 8 then f_Replies_hear_b73 S gFuel I' J (A (300 + 40 * q + 3)) (A (32 + k0)) 0 else some (I', J)) ∧ (∀ k, k < 3 → I' (A (300 + 40 * q + 10 + f)) k = if k < i then I (A (300 + 40 * q + 10 + f)) k else if k < am then I (A (129 + k0)) k else 0) ∧ ∀ d k, d ≠ 300 + 40 * q + 10 + f → I' (A d) k = I (A d) k := by
  obtain ⟨-, -, -, -, ⟨u0, u1, u2, u3⟩, -, -, -, ⟨v0, v1⟩, v2, -⟩ := (hL.qy hq he).2
  obtain ⟨v2a, v2b, v2c⟩ := v2 f hf
  intro g
  induction g with
  | zero =>
    intro i n I hi hn h1 h7
    obtain ⟨n, rfl⟩ : ∃ k, n = k + 1 := ⟨n - 1, by omega⟩
    refine ⟨I, ?_, fun k hk => by rw [if_pos (by omega)], fun _ _ _ => rfl⟩
    rw [f_Replies_hear_b35, if_pos (by rw [ev_K2 (by omega) (by decide)]; omega), gd_in (ev_lt1 hL hk0)]
    rfl
  | succ g ih =>
    intro i n I hi hn h1 h7
    obtain ⟨n, rfl⟩ : ∃ k, n = k + 1 := ⟨n - 1, by omega⟩
    have hnum := num_eq (J := J) hL hk0 (show i < 64 by omega) h1 ham
    obtain ⟨v, hv⟩ : ∃ v : Int32, v = (if i < am then I (A (129 + k0)) i else 0) := ⟨_, rfl⟩
    rw [← hv] at hnum
    obtain ⟨I', s1, s2, s3⟩ := ih (i + 1) n (upI I (A (300 + 40 * q + 10 + f)) i v) (by omega) (by omega) (by rw [ev_uI hL (by omega)]; exact h1) (by rw [ev_uI hL (by omega)]; exact h7)
    rw [ev_uI hL (by omega)] at s1
    refine ⟨I', ?_, fun k hk => ?_, fun d k d1 => by rw [s3 _ _ d1, ev_uI hL (by omega)]⟩
    · rw [← s1]
      simp (disch := omega) only [f_Replies_hear_b35, u0, ↓ob_h u2, v0, v1, h7, ↓ob_h v2a, ↓ob_h hnum, v2b, v2c, ↓bnd_in, ↓Option.bind_some, ↓bd2_some, ↓bd3_some, ↓bd4_some, ↓ew_mr hL, ↓ew_00 hL, ↓ew_01 hL, ↓ew_02 hL, ↓ew_1r hL, ↓ew_lr hL, ↓ew_30 hL, ↓ew_31 hL, ↓ew_4r hL, ↓ew_ltr hL, ↓gd_m hL, ↓gd_0 hL, gd_t, Option.bind_some, bd2_some, bd3_some, bd4_some, gm_some, gm_none, ↓reduceIte, or_self, or_false, false_or, or_true, true_or, and_self, and_true, true_and, and_false, false_and, not_false_eq_true, not_true_eq_false, Nat.reduceAdd, Nat.reduceMul, Int32.reduceLT, Int32.reduceLE, eq_self, ev_lit, ev_10, Int32.reduceToNatClampNeg, Nat.reduceLeDiff, Nat.reduceEqDiff, Nat.reduceLT, nI_clamp, ev_ng, ev_L1, ev_L2, ev_L3, ev_K1, ev_K2, ev_K3, ev_K4, ev_K5, ev_a1, ev_m1, ev_s1, ev_s2, nI_add, ev_nle, ev_le, ev_lt, ev_nlt, ev_ne, ev_eq, ev_uI hL, ev_uJ hL, ev_m hL, ev_mr hL, ev_mt hL, ev_mz hL, ev_mj hL, ev_n8 hL, ev_n64 hL, ev_n229 hL, ev_n254 hL, ev_n257 hL, ev_n259 hL, ev_n260 hL, ev_n261 hL, ev_0 hL, ev_00 hL, ev_01 hL, ev_02 hL, ev_1 hL, ev_1n hL, ev_1r hL, ev_lg hL, ev_lr hL, ev_sr hL, ev_2 hL, ev_2n hL, ev_3 hL, ev_30 hL, ev_31 hL, ev_4 hL, ev_4n hL, ev_5 hL, ev_5n hL, ev_4r hL, ev_lt1 hL, ev_ltr hL, ev_lnt hL, ev_lnn hL, ev_7 hL, ev_7n hL, ev_uE, ev_uK]
    · rw [s2 k hk]
      by_cases e : k < i
      · rw [if_pos (by omega), if_pos e, ev_uI hL (by omega)]
      · rw [if_neg e]
        by_cases e2 : k = i
        · rw [if_pos (by omega), e2, ev_uE, hv]
        · rw [if_neg (by omega), ev_uI hL (by omega)]
/-- the class hears an answer of logger f -/
theorem hr_c (hL : Lay S A ex) (hq : q < 8) (he : ex q = true) (hf : f < 8) (hk0 : k0 < 97) (ham : am ≤ 64) {I : gMI} {m : Nat} (h1 : I (A (32 + k0)) 1 = nI am) (h7 : I (A (32 + k0)) 7 = nI f) (hg : I (A (32 + k0)) 3 = 8 → RowOk S I (A (300 + 40 * q + 8)) (A (300 + 40 * q + 9)) 64 m ∧ m + am ≤ 64) : ∃ I', f_Replies_hear S I J (A (300 + 40 * q + 3)) (A (32 + k0)) = some (I', upJ J (A (300 + 40 * q + 3)) 3 (J (A (300 + 40 * q + 3)) 3 + J (A (32 + k0)) 2)) ∧ I' (A (300 + 40 * q + 6)) f = 1 ∧ I' (A (300 + 40 * q + 3)) 4 = I (A (300 + 40 * q + 3)) 4 + 1 ∧ (∀ k, k < 3 → I' (A (300 + 40 * q + 10 + f)) k = if k < am then I (A (129 + k0)) k else 0) ∧ (I (A (32 + k0)) 3 = 8 → RowOk S I' (A (300 + 40 * q + 8)) (A (300 + 40 * q + 9)) 64 (m + am) ∧ ∀ φ : Int → Int, pu_tot φ (rI I' (A (300 + 40 * q + 9))) (m + am) = pu_tot φ (rI I (A (300 + 40 * q + 9))) m + pu_tot φ (fun j => (I (A (129 + k0)) j).toInt) am) ∧ ∀ d k, ¬ (d = 300 + 40 * q + 6 ∧ k = f) → ¬ (d = 300 + 40 * q + 3 ∧ k = 4) → d ≠ 300 + 40 * q + 10 + f → d ≠ 300 + 40 * q + 8 → d ≠ 300 + 40 * q + 9 → I' (A d) k = I (A d) k := by
  obtain ⟨-, -, -, -, ⟨u0, u1, u2, u3⟩, -, -, ⟨v0, v1⟩, -⟩ := (hL.qy hq he).2
  obtain ⟨I1, hI1⟩ : ∃ I1 : gMI, I1 = upI (upI I (A (300 + 40 * q + 6)) f 1) (A (300 + 40 * q + 3)) 4 (I (A (300 + 40 * q + 3)) 4 + 1) := ⟨_, rfl⟩
  have k1 : ∀ d k, ¬ (d = 300 + 40 * q + 6 ∧ k = f) → ¬ (d = 300 + 40 * q + 3 ∧ k = 4) → I1 (A d) k = I (A d) k := fun d k d1 d2 => by
    rw [hI1, ev_uI hL (by omega), ev_uI hL (by omega)]
  obtain ⟨J1, hJ1⟩ : ∃ J1 : gMJ, J1 = upJ J (A (300 + 40 * q + 3)) 3 (J (A (300 + 40 * q + 3)) 3 + J (A (32 + k0)) 2) := ⟨_, rfl⟩
  obtain ⟨I2, s1, s2, s3⟩ := hr_b35 (J := J1) hL hq he hf hk0 ham 3 0 gFuel I1 (by omega) (by unfold gFuel; omega) (by rw [k1 _ _ (by omega) (by omega)]; exact h1) (by rw [k1 _ _ (by omega) (by omega)]; exact h7)
  rw [show nI 0 = (0 : Int32) from rfl, k1 _ _ (by omega) (by omega)] at s1
  have hstart : ∀ r, f_Replies_hear_b35 S gFuel I1 J1 (A (300 + 40 * q + 3)) (A (32 + k0)) 0 = some r → f_Replies_hear S I J (A (300 + 40 * q + 3)) (A (32 + k0)) = some r := fun r hr => by
    rw [hI1, hJ1] at hr
    simp (disch := omega) only [f_Replies_hear, u0, ↓ob_h u1, v0, v1, h7, ↓bnd_in, ↓Option.bind_some, ↓bd2_some, ↓bd3_some, ↓bd4_some, ↓ew_mr hL, ↓ew_00 hL, ↓ew_01 hL, ↓ew_02 hL, ↓ew_1r hL, ↓ew_lr hL, ↓ew_30 hL, ↓ew_31 hL, ↓ew_4r hL, ↓ew_ltr hL, ↓gd_m hL, ↓gd_0 hL, gd_t, Option.bind_some, bd2_some, bd3_some, bd4_some, gm_some, gm_none, ↓reduceIte, or_self, or_false, false_or, or_true, true_or, and_self, and_true, true_and, and_false, false_and, not_false_eq_true, not_true_eq_false, Nat.reduceAdd, Nat.reduceMul, Int32.reduceLT, Int32.reduceLE, eq_self, ev_lit, ev_10, Int32.reduceToNatClampNeg, Nat.reduceLeDiff, Nat.reduceEqDiff, Nat.reduceLT, nI_clamp, ev_ng, ev_L1, ev_L2, ev_L3, ev_K1, ev_K2, ev_K3, ev_K4, ev_K5, ev_a1, ev_m1, ev_s1, ev_s2, nI_add, ev_nle, ev_le, ev_lt, ev_nlt, ev_ne, ev_eq, ev_uI hL, ev_uJ hL, ev_m hL, ev_mr hL, ev_mt hL, ev_mz hL, ev_mj hL, ev_n8 hL, ev_n64 hL, ev_n229 hL, ev_n254 hL, ev_n257 hL, ev_n259 hL, ev_n260 hL, ev_n261 hL, ev_0 hL, ev_00 hL, ev_01 hL, ev_02 hL, ev_1 hL, ev_1n hL, ev_1r hL, ev_lg hL, ev_lr hL, ev_sr hL, ev_2 hL, ev_2n hL, ev_3 hL, ev_30 hL, ev_31 hL, ev_4 hL, ev_4n hL, ev_5 hL, ev_5n hL, ev_4r hL, ev_lt1 hL, ev_ltr hL, ev_lnt hL, ev_lnn hL, ev_7 hL, ev_7n hL, ev_uE, ev_uK]
    exact hr
  rw [← hJ1]
  have k2 : ∀ d k, ¬ (d = 300 + 40 * q + 6 ∧ k = f) → ¬ (d = 300 + 40 * q + 3 ∧ k = 4) → d ≠ 300 + 40 * q + 10 + f → I2 (A d) k = I (A d) k := fun d k d1 d2 d3 => by
    rw [s3 _ _ d3, k1 _ _ d1 d2]
  have c6 : I2 (A (300 + 40 * q + 6)) f = 1 := by rw [s3 _ _ (by omega), hI1, ev_uI hL (by omega), ev_uE]
  have c3 : I2 (A (300 + 40 * q + 3)) 4 = I (A (300 + 40 * q + 3)) 4 + 1 := by rw [s3 _ _ (by omega), hI1, ev_uE]
  have ct : ∀ k, k < 3 → I2 (A (300 + 40 * q + 10 + f)) k = if k < am then I (A (129 + k0)) k else 0 := fun k hk => by
    rw [s2 k hk, if_neg (by omega), k1 _ _ (by omega) (by omega)]
  by_cases e8 : I (A (32 + k0)) 3 = 8
  · rw [if_pos e8] at s1
    obtain ⟨⟨r1, r2, r3, r4, r5, r6, r7, r8⟩, hm⟩ := hg e8
    have er : rI I2 (A (300 + 40 * q + 9)) = rI I (A (300 + 40 * q + 9)) := by
      funext j; unfold rI; rw [k2 _ _ (by omega) (by omega) (by omega)]
    obtain ⟨I3, t1, t2, t3, t4⟩ := hr_b73 (J := J1) hL hq he hk0 ham am 0 gFuel m I2 (by omega) (by unfold gFuel; omega) hm ⟨r1, r2, r3, r4, r5, by rw [k2 _ _ (by omega) (by omega) (by omega)]; exact r6, r7, by rw [er]; exact r8⟩ (by rw [k2 _ _ (by omega) (by omega) (by omega)]; exact h1)
    rw [show nI 0 = (0 : Int32) from rfl] at t1
    refine ⟨I3, hstart _ (s1.trans t1), by rw [t4 _ _ (by omega) (by omega)]; exact c6, by rw [t4 _ _ (by omega) (by omega)]; exact c3, fun k hk => by rw [t4 _ _ (by omega) (by omega)]; exact ct k hk, fun _ => ⟨t2, fun φ => ?_⟩, fun d k d1 d2 d3 d4 d5 => by rw [t4 _ _ d4 d5, k2 _ _ d1 d2 d3]⟩
    rw [t3 φ, er]
    congr 1
    refine pu_tot_congr fun j hj => ?_
    rw [Nat.zero_add, k2 _ _ (by omega) (by omega) (by omega)]
  · rw [if_neg e8] at s1
    exact ⟨I2, hstart _ s1, c6, c3, ct, fun e => absurd e e8, fun d k d1 d2 d3 _ _ => k2 d k d1 d2 d3⟩
end HRC
