-- Letters sent: the reference's send, the class's send and writeAsking
/-- row c of the numbers after send: am numbers out of rd, then zeros, from place i on -/
def snf (f rd : Nat → Int32) (c am i : Nat) : Nat → Int32 := fun j => if 64 * c + i ≤ j ∧ j < 64 * c + 64 then (if j - 64 * c < am then rd (j - 64 * c) else 0) else f j
theorem snf_up {f rd : Nat → Int32} {c am i : Nat} (h : i < 64) : snf (upd f (64 * c + i) (if i < am then rd i else 0)) rd c am (i + 1) = snf f rd c am i := by
  funext j
  unfold snf upd
  by_cases h1 : j = 64 * c + i
  · subst h1
    rw [if_neg (by omega), if_pos rfl, if_pos (show 64 * c + i ≤ 64 * c + i ∧ 64 * c + i < 64 * c + 64 by omega), show 64 * c + i - 64 * c = i by omega]
  · by_cases h2 : 64 * c + (i + 1) ≤ j ∧ j < 64 * c + 64
    · rw [if_pos h2, if_pos (show 64 * c + i ≤ j ∧ j < 64 * c + 64 by omega)]
    · rw [if_neg h2, if_neg h1, if_neg (by omega)]
theorem snf_0 {f rd : Nat → Int32} {c am i : Nat} (h : 64 ≤ i) : snf f rd c am i = f := by
  funext j
  unfold snf
  rw [if_neg (by omega)]
section SND
variable {S : gS} {A : Nat → Nat} {ex : Nat → Bool} {I I' : gMI} {J : gMJ} {b : Nat}
theorem send_b97 (hL : Lay S A ex) {c am : Nat} {rd : Nat → Int32} (hc : c < 96) (ham : am ≤ 64) : ∀ (g i n : Nat) (I : gMI), I (A 6) 32 = nI c → I (A 6) 37 = nI am → (∀ j, j < am → I (A 262) j = rd j) → i + g = 64 → g < n → f_M_send_b97 S n I J (A 6) (nI i) = some (upI (va_up I (A 260) (snf (I (A 260)) rd c am i)) (A 6) 32 (nI (c + 1)), upJ J (A 261) c (J (A 6) 38)) := by
  intro g
  induction g with
  | zero =>
    intro i n I hI hI7 hrd hk hn
    obtain ⟨n, rfl⟩ : ∃ k, n = k + 1 := ⟨n - 1, by omega⟩
    simp (disch := omega) only [f_M_send_b97, hI, ↓bnd_in, ↓Option.bind_some, ↓bd2_some, ↓bd3_some, ↓bd4_some, ↓ew_mr hL, ↓ew_00 hL, ↓ew_01 hL, ↓ew_02 hL, ↓ew_1r hL, ↓ew_lr hL, ↓ew_30 hL, ↓ew_31 hL, ↓ew_4r hL, ↓ew_ltr hL, ↓gd_m hL, ↓gd_0 hL, gd_t, Option.bind_some, bd2_some, bd3_some, bd4_some, gm_some, gm_none, ↓reduceIte, or_self, or_false, false_or, or_true, true_or, and_self, and_true, true_and, and_false, false_and, not_false_eq_true, not_true_eq_false, Nat.reduceAdd, Nat.reduceMul, Int32.reduceLT, Int32.reduceLE, eq_self, ev_lit, ev_10, Int32.reduceToNatClampNeg, Nat.reduceLeDiff, Nat.reduceEqDiff, Nat.reduceLT, nI_clamp, ev_ng, ev_L1, ev_L2, ev_L3, ev_K1, ev_K2, ev_K3, ev_K4, ev_K5, ev_a1, ev_m1, ev_s1, ev_s2, nI_add, ev_nle, ev_le, ev_lt, ev_nlt, ev_ne, ev_eq, ev_uI hL, ev_uJ hL, ev_m hL, ev_mr hL, ev_mt hL, ev_mz hL, ev_mj hL, ev_n8 hL, ev_n64 hL, ev_n229 hL, ev_n254 hL, ev_n257 hL, ev_n259 hL, ev_n260 hL, ev_n261 hL, ev_0 hL, ev_00 hL, ev_01 hL, ev_02 hL, ev_1 hL, ev_1n hL, ev_1r hL, ev_lg hL, ev_lr hL, ev_sr hL, ev_2 hL, ev_2n hL, ev_3 hL, ev_30 hL, ev_31 hL, ev_4 hL, ev_4n hL, ev_5 hL, ev_5n hL, ev_4r hL, ev_lt1 hL, ev_ltr hL, ev_lnt hL, ev_lnn hL, ev_7 hL, ev_7n hL, ev_uE, ev_uK]
    rw [snf_0 (by omega), va_upsame]
  | succ g ih =>
    intro i n I hI hI7 hrd hk hn
    obtain ⟨n, rfl⟩ : ∃ k, n = k + 1 := ⟨n - 1, by omega⟩
    have hstep : ∀ v, v = (if i < am then rd i else 0) → f_M_send_b97 S n (upI I (A 260) (64 * c + i) v) J (A 6) (nI (i + 1)) = some (upI (va_up I (A 260) (snf (I (A 260)) rd c am i)) (A 6) 32 (nI (c + 1)), upJ J (A 261) c (J (A 6) 38)) := fun v hv => by
      rw [ih (i + 1) n _ (by rw [ev_uI hL (by omega)]; exact hI) (by rw [ev_uI hL (by omega)]; exact hI7) (fun j hj => by rw [ev_uI hL (by omega)]; exact hrd j hj) (by omega) (by omega)]
      rw [va_upI, upI_at, hv, snf_up (by omega)]
    by_cases e : i < am
    · have e1 := hrd i e
      have := hstep (rd i) (by rw [if_pos e])
      simp (disch := omega) only [f_M_send_b97, hI, hI7, f_M_send_b138, e1, ↓bnd_in, ↓Option.bind_some, ↓bd2_some, ↓bd3_some, ↓bd4_some, ↓ew_mr hL, ↓ew_00 hL, ↓ew_01 hL, ↓ew_02 hL, ↓ew_1r hL, ↓ew_lr hL, ↓ew_30 hL, ↓ew_31 hL, ↓ew_4r hL, ↓ew_ltr hL, ↓gd_m hL, ↓gd_0 hL, gd_t, Option.bind_some, bd2_some, bd3_some, bd4_some, gm_some, gm_none, ↓reduceIte, or_self, or_false, false_or, or_true, true_or, and_self, and_true, true_and, and_false, false_and, not_false_eq_true, not_true_eq_false, Nat.reduceAdd, Nat.reduceMul, Int32.reduceLT, Int32.reduceLE, eq_self, ev_lit, ev_10, Int32.reduceToNatClampNeg, Nat.reduceLeDiff, Nat.reduceEqDiff, Nat.reduceLT, nI_clamp, ev_ng, ev_L1, ev_L2, ev_L3, ev_K1, ev_K2, ev_K3, ev_K4, ev_K5, ev_a1, ev_m1, ev_s1, ev_s2, nI_add, ev_nle, ev_le, ev_lt, ev_nlt, ev_ne, ev_eq, ev_uI hL, ev_uJ hL, ev_m hL, ev_mr hL, ev_mt hL, ev_mz hL, ev_mj hL, ev_n8 hL, ev_n64 hL, ev_n229 hL, ev_n254 hL, ev_n257 hL, ev_n259 hL, ev_n260 hL, ev_n261 hL, ev_0 hL, ev_00 hL, ev_01 hL, ev_02 hL, ev_1 hL, ev_1n hL, ev_1r hL, ev_lg hL, ev_lr hL, ev_sr hL, ev_2 hL, ev_2n hL, ev_3 hL, ev_30 hL, ev_31 hL, ev_4 hL, ev_4n hL, ev_5 hL, ev_5n hL, ev_4r hL, ev_lt1 hL, ev_ltr hL, ev_lnt hL, ev_lnn hL, ev_7 hL, ev_7n hL, ev_uE, ev_uK]
      exact this
    · have := hstep 0 (by rw [if_neg e])
      simp (disch := omega) only [f_M_send_b97, hI, hI7, f_M_send_b138, ↓bnd_in, ↓Option.bind_some, ↓bd2_some, ↓bd3_some, ↓bd4_some, ↓ew_mr hL, ↓ew_00 hL, ↓ew_01 hL, ↓ew_02 hL, ↓ew_1r hL, ↓ew_lr hL, ↓ew_30 hL, ↓ew_31 hL, ↓ew_4r hL, ↓ew_ltr hL, ↓gd_m hL, ↓gd_0 hL, gd_t, Option.bind_some, bd2_some, bd3_some, bd4_some, gm_some, gm_none, ↓reduceIte, or_self, or_false, false_or, or_true, true_or, and_self, and_true, true_and, and_false, false_and, not_false_eq_true, not_true_eq_false, Nat.reduceAdd, Nat.reduceMul, Int32.reduceLT, Int32.reduceLE, eq_self, ev_lit, ev_10, Int32.reduceToNatClampNeg, Nat.reduceLeDiff, Nat.reduceEqDiff, Nat.reduceLT, nI_clamp, ev_ng, ev_L1, ev_L2, ev_L3, ev_K1, ev_K2, ev_K3, ev_K4, ev_K5, ev_a1, ev_m1, ev_s1, ev_s2, nI_add, ev_nle, ev_le, ev_lt, ev_nlt, ev_ne, ev_eq, ev_uI hL, ev_uJ hL, ev_m hL, ev_mr hL, ev_mt hL, ev_mz hL, ev_mj hL, ev_n8 hL, ev_n64 hL, ev_n229 hL, ev_n254 hL, ev_n257 hL, ev_n259 hL, ev_n260 hL, ev_n261 hL, ev_0 hL, ev_00 hL, ev_01 hL, ev_02 hL, ev_1 hL, ev_1n hL, ev_1r hL, ev_lg hL, ev_lr hL, ev_sr hL, ev_2 hL, ev_2n hL, ev_3 hL, ev_30 hL, ev_31 hL, ev_4 hL, ev_4n hL, ev_5 hL, ev_5n hL, ev_4r hL, ev_lt1 hL, ev_ltr hL, ev_lnt hL, ev_lnn hL, ev_7 hL, ev_7n hL, ev_uE, ev_uK]
      exact this
/-- the reference's send, room for one more -/
theorem M_send_in (hL : Lay S A ex) {c am : Nat} (hc : c < 96) (ham : am ≤ 64) (hI : I (A 6) 32 = nI c) (hI7 : I (A 6) 37 = nI am) (p1 p2 p3 p4 p5 p6 : Int32) : ∃ I', f_M_send S I J (A 6) p1 p2 p3 p4 p5 p6 = some (I', upJ J (A 261) c (J (A 6) 38)) ∧ (I' (A 259) (7 * c) = p1 ∧ I' (A 259) (7 * c + 1) = p2 ∧ I' (A 259) (7 * c + 2) = p3 ∧ I' (A 259) (7 * c + 3) = p4 ∧ I' (A 259) (7 * c + 4) = p5 ∧ I' (A 259) (7 * c + 5) = p6 ∧ I' (A 259) (7 * c + 6) = nI am) ∧ (∀ j, j < 64 → I' (A 260) (64 * c + j) = if j < am then I (A 262) j else 0) ∧ I' (A 6) 32 = nI (c + 1) ∧ ∀ d k, ¬ (d = 6 ∧ k = 32) → ¬ (d = 259 ∧ 7 * c ≤ k) → ¬ (d = 260 ∧ 64 * c ≤ k) → I' (A d) k = I (A d) k := by
  have hv : ∀ (I0 : gMI) (d : Nat) (f : Nat → Int32) (e k : Nat), e ≠ d → va_up I0 (A d) f (A e) k = I0 (A e) k := fun I0 d f e k hne => by rw [va_up_ne _ _ (hL.inj hne)]
  obtain ⟨I1, hI1⟩ : ∃ I1 : gMI, I1 = upI (upI (upI (upI (upI (upI (upI I (A 259) (7 * c) p1) (A 259) (7 * c + 1) p2) (A 259) (7 * c + 2) p3) (A 259) (7 * c + 3) p4) (A 259) (7 * c + 4) p5) (A 259) (7 * c + 5) p6) (A 259) (7 * c + 6) (nI am) := ⟨_, rfl⟩
  have k1 : ∀ d k, ¬ (d = 259 ∧ 7 * c ≤ k) → I1 (A d) k = I (A d) k := fun d k hd => by
    rw [hI1]
    simp (disch := omega) only [↓bnd_in, ↓Option.bind_some, ↓bd2_some, ↓bd3_some, ↓bd4_some, ↓ew_mr hL, ↓ew_00 hL, ↓ew_01 hL, ↓ew_02 hL, ↓ew_1r hL, ↓ew_lr hL, ↓ew_30 hL, ↓ew_31 hL, ↓ew_4r hL, ↓ew_ltr hL, ↓gd_m hL, ↓gd_0 hL, gd_t, Option.bind_some, bd2_some, bd3_some, bd4_some, gm_some, gm_none, ↓reduceIte, or_self, or_false, false_or, or_true, true_or, and_self, and_true, true_and, and_false, false_and, not_false_eq_true, not_true_eq_false, Nat.reduceAdd, Nat.reduceMul, Int32.reduceLT, Int32.reduceLE, eq_self, ev_lit, ev_10, Int32.reduceToNatClampNeg, Nat.reduceLeDiff, Nat.reduceEqDiff, Nat.reduceLT, nI_clamp, ev_ng, ev_L1, ev_L2, ev_L3, ev_K1, ev_K2, ev_K3, ev_K4, ev_K5, ev_a1, ev_m1, ev_s1, ev_s2, nI_add, ev_nle, ev_le, ev_lt, ev_nlt, ev_ne, ev_eq, ev_uI hL, ev_uJ hL, ev_m hL, ev_mr hL, ev_mt hL, ev_mz hL, ev_mj hL, ev_n8 hL, ev_n64 hL, ev_n229 hL, ev_n254 hL, ev_n257 hL, ev_n259 hL, ev_n260 hL, ev_n261 hL, ev_0 hL, ev_00 hL, ev_01 hL, ev_02 hL, ev_1 hL, ev_1n hL, ev_1r hL, ev_lg hL, ev_lr hL, ev_sr hL, ev_2 hL, ev_2n hL, ev_3 hL, ev_30 hL, ev_31 hL, ev_4 hL, ev_4n hL, ev_5 hL, ev_5n hL, ev_4r hL, ev_lt1 hL, ev_ltr hL, ev_lnt hL, ev_lnn hL, ev_7 hL, ev_7n hL, ev_uE, ev_uK]
  have hb := send_b97 (J := J) (rd := I (A 262)) hL hc ham 64 0 gFuel I1 (by rw [k1 _ _ (by omega)]; exact hI) (by rw [k1 _ _ (by omega)]; exact hI7) (fun j hj => k1 _ _ (by omega)) (by omega) (by unfold gFuel; omega)
  rw [show nI 0 = (0 : Int32) from rfl] at hb
  refine ⟨upI (va_up I1 (A 260) (snf (I1 (A 260)) (I (A 262)) c am 0)) (A 6) 32 (nI (c + 1)), ?_, ?_, ?_, ev_uE, ?_⟩
  · rw [hI1] at hb
    simp (disch := omega) only [f_M_send, hI, hI7, ↓bnd_in, ↓Option.bind_some, ↓bd2_some, ↓bd3_some, ↓bd4_some, ↓ew_mr hL, ↓ew_00 hL, ↓ew_01 hL, ↓ew_02 hL, ↓ew_1r hL, ↓ew_lr hL, ↓ew_30 hL, ↓ew_31 hL, ↓ew_4r hL, ↓ew_ltr hL, ↓gd_m hL, ↓gd_0 hL, gd_t, Option.bind_some, bd2_some, bd3_some, bd4_some, gm_some, gm_none, ↓reduceIte, or_self, or_false, false_or, or_true, true_or, and_self, and_true, true_and, and_false, false_and, not_false_eq_true, not_true_eq_false, Nat.reduceAdd, Nat.reduceMul, Int32.reduceLT, Int32.reduceLE, eq_self, ev_lit, ev_10, Int32.reduceToNatClampNeg, Nat.reduceLeDiff, Nat.reduceEqDiff, Nat.reduceLT, nI_clamp, ev_ng, ev_L1, ev_L2, ev_L3, ev_K1, ev_K2, ev_K3, ev_K4, ev_K5, ev_a1, ev_m1, ev_s1, ev_s2, nI_add, ev_nle, ev_le, ev_lt, ev_nlt, ev_ne, ev_eq, ev_uI hL, ev_uJ hL, ev_m hL, ev_mr hL, ev_mt hL, ev_mz hL, ev_mj hL, ev_n8 hL, ev_n64 hL, ev_n229 hL, ev_n254 hL, ev_n257 hL, ev_n259 hL, ev_n260 hL, ev_n261 hL, ev_0 hL, ev_00 hL, ev_01 hL, ev_02 hL, ev_1 hL, ev_1n hL, ev_1r hL, ev_lg hL, ev_lr hL, ev_sr hL, ev_2 hL, ev_2n hL, ev_3 hL, ev_30 hL, ev_31 hL, ev_4 hL, ev_4n hL, ev_5 hL, ev_5n hL, ev_4r hL, ev_lt1 hL, ev_ltr hL, ev_lnt hL, ev_lnn hL, ev_7 hL, ev_7n hL, ev_uE, ev_uK]
    rw [hI1]; exact hb
  · rw [ev_uI hL (by omega), ev_uI hL (by omega), ev_uI hL (by omega), ev_uI hL (by omega), ev_uI hL (by omega), ev_uI hL (by omega), ev_uI hL (by omega), hv _ _ _ _ _ (by omega), hv _ _ _ _ _ (by omega), hv _ _ _ _ _ (by omega), hv _ _ _ _ _ (by omega), hv _ _ _ _ _ (by omega), hv _ _ _ _ _ (by omega), hv _ _ _ _ _ (by omega), hI1]
    simp (disch := omega) only [↓bnd_in, ↓Option.bind_some, ↓bd2_some, ↓bd3_some, ↓bd4_some, ↓ew_mr hL, ↓ew_00 hL, ↓ew_01 hL, ↓ew_02 hL, ↓ew_1r hL, ↓ew_lr hL, ↓ew_30 hL, ↓ew_31 hL, ↓ew_4r hL, ↓ew_ltr hL, ↓gd_m hL, ↓gd_0 hL, gd_t, Option.bind_some, bd2_some, bd3_some, bd4_some, gm_some, gm_none, ↓reduceIte, or_self, or_false, false_or, or_true, true_or, and_self, and_true, true_and, and_false, false_and, not_false_eq_true, not_true_eq_false, Nat.reduceAdd, Nat.reduceMul, Int32.reduceLT, Int32.reduceLE, eq_self, ev_lit, ev_10, Int32.reduceToNatClampNeg, Nat.reduceLeDiff, Nat.reduceEqDiff, Nat.reduceLT, nI_clamp, ev_ng, ev_L1, ev_L2, ev_L3, ev_K1, ev_K2, ev_K3, ev_K4, ev_K5, ev_a1, ev_m1, ev_s1, ev_s2, nI_add, ev_nle, ev_le, ev_lt, ev_nlt, ev_ne, ev_eq, ev_uI hL, ev_uJ hL, ev_m hL, ev_mr hL, ev_mt hL, ev_mz hL, ev_mj hL, ev_n8 hL, ev_n64 hL, ev_n229 hL, ev_n254 hL, ev_n257 hL, ev_n259 hL, ev_n260 hL, ev_n261 hL, ev_0 hL, ev_00 hL, ev_01 hL, ev_02 hL, ev_1 hL, ev_1n hL, ev_1r hL, ev_lg hL, ev_lr hL, ev_sr hL, ev_2 hL, ev_2n hL, ev_3 hL, ev_30 hL, ev_31 hL, ev_4 hL, ev_4n hL, ev_5 hL, ev_5n hL, ev_4r hL, ev_lt1 hL, ev_ltr hL, ev_lnt hL, ev_lnn hL, ev_7 hL, ev_7n hL, ev_uE, ev_uK]
  · intro j hj
    rw [ev_uI hL (by omega), va_up_self]
    unfold snf
    rw [if_pos (by omega), show 64 * c + j - 64 * c = j by omega]
  · intro d k a1 a2 a3
    rw [ev_uI hL (by omega)]
    by_cases e : d = 260
    · subst e
      rw [va_up_self]
      unfold snf
      rw [if_neg (by omega), k1 _ _ (by omega)]
    · rw [hv _ _ _ _ _ e, k1 _ _ a2]
theorem M_send_full (hL : Lay S A ex) (hI : I (A 6) 32 = nI 96) (p1 p2 p3 p4 p5 p6 : Int32) : f_M_send S I J (A 6) p1 p2 p3 p4 p5 p6 = some (I, J) := by
  rw [f_M_send, gd_in (ev_m hL), hI, if_pos (show nI 96 = (96 : Int32) from rfl)]
/-- the class's send -/
theorem Post_send_in (hL : Lay S A ex) {c k : Nat} (hc : c < 96) (hk : k < 97) (h2 : I (A 3) 2 = nI c) (h5 : I (A 5) c = nI k) : f_Post_send S I J (A 3) = some (some (A (32 + k)), upI I (A 3) 2 (nI (c + 1))) := by
  have e9 : f_Post_at S (upI I (A 3) 2 (nI (c + 1))) J (A 3) (nI c) = some (some (A (32 + k))) := Post_at hL (by omega) hk (by rw [ev_uI hL (by omega)]; exact h5)
  simp (disch := omega) only [f_Post_send, h2, Nat.add_sub_cancel, e9, ↓bnd_in, ↓Option.bind_some, ↓bd2_some, ↓bd3_some, ↓bd4_some, ↓ew_mr hL, ↓ew_00 hL, ↓ew_01 hL, ↓ew_02 hL, ↓ew_1r hL, ↓ew_lr hL, ↓ew_30 hL, ↓ew_31 hL, ↓ew_4r hL, ↓ew_ltr hL, ↓gd_m hL, ↓gd_0 hL, gd_t, Option.bind_some, bd2_some, bd3_some, bd4_some, gm_some, gm_none, ↓reduceIte, or_self, or_false, false_or, or_true, true_or, and_self, and_true, true_and, and_false, false_and, not_false_eq_true, not_true_eq_false, Nat.reduceAdd, Nat.reduceMul, Int32.reduceLT, Int32.reduceLE, eq_self, ev_lit, ev_10, Int32.reduceToNatClampNeg, Nat.reduceLeDiff, Nat.reduceEqDiff, Nat.reduceLT, nI_clamp, ev_ng, ev_L1, ev_L2, ev_L3, ev_K1, ev_K2, ev_K3, ev_K4, ev_K5, ev_a1, ev_m1, ev_s1, ev_s2, nI_add, ev_nle, ev_le, ev_lt, ev_nlt, ev_ne, ev_eq, ev_uI hL, ev_uJ hL, ev_m hL, ev_mr hL, ev_mt hL, ev_mz hL, ev_mj hL, ev_n8 hL, ev_n64 hL, ev_n229 hL, ev_n254 hL, ev_n257 hL, ev_n259 hL, ev_n260 hL, ev_n261 hL, ev_0 hL, ev_00 hL, ev_01 hL, ev_02 hL, ev_1 hL, ev_1n hL, ev_1r hL, ev_lg hL, ev_lr hL, ev_sr hL, ev_2 hL, ev_2n hL, ev_3 hL, ev_30 hL, ev_31 hL, ev_4 hL, ev_4n hL, ev_5 hL, ev_5n hL, ev_4r hL, ev_lt1 hL, ev_ltr hL, ev_lnt hL, ev_lnn hL, ev_7 hL, ev_7n hL, ev_uE, ev_uK]
theorem Post_send_full (hL : Lay S A ex) (h2 : I (A 3) 2 = nI 96) : f_Post_send S I J (A 3) = some (none, I) := by
  rw [f_Post_send, gd_in (ev_3 hL), h2, if_neg (by decide)]
/-- how many numbers go with a letter that asks -/
def NA (k : Int32) (na : Nat) : Prop := (k = 1 ∧ na = 0) ∨ (k = 5 ∧ na = 3) ∨ (k ≠ 1 ∧ k ≠ 5 ∧ na = 2)
theorem NA.le {k : Int32} {na : Nat} (h : NA k na) : na ≤ 3 := by
  rcases h with ⟨_, h⟩ | ⟨_, h⟩ | ⟨_, _, h⟩ <;> omega
theorem numAsked (hL : Lay S A ex) {q na : Nat} (hq : q < 8) (he : ex q = true) (h : NA (I (A (300 + 40 * q)) 5) na) : f_Question_numbersAsked S I J (A (300 + 40 * q)) = some (nI na) := by
  have t0 := (hL.qy hq he).2.1.1
  rw [f_Question_numbersAsked, gd_in t0]
  rcases h with ⟨h, rfl⟩ | ⟨h, rfl⟩ | ⟨h, h', rfl⟩
  · rw [if_pos h]; rfl
  · rw [if_neg (by rw [h]; decide), if_pos h]; rfl
  · rw [if_neg h, if_neg h']; rfl
theorem put_in (hL : Lay S A ex) {k n : Nat} (hk : k < 97) (hn : n < 64) (h : I (A (32 + k)) 1 = nI n) (v : Int32) : f_Letter_put S I J (A (32 + k)) v = some (upI (upI I (A (129 + k)) n v) (A (32 + k)) 1 (nI (n + 1))) := by
  simp (disch := omega) only [f_Letter_put, f_Letter_put_b29, h, ↓bnd_in, ↓Option.bind_some, ↓bd2_some, ↓bd3_some, ↓bd4_some, ↓ew_mr hL, ↓ew_00 hL, ↓ew_01 hL, ↓ew_02 hL, ↓ew_1r hL, ↓ew_lr hL, ↓ew_30 hL, ↓ew_31 hL, ↓ew_4r hL, ↓ew_ltr hL, ↓gd_m hL, ↓gd_0 hL, gd_t, Option.bind_some, bd2_some, bd3_some, bd4_some, gm_some, gm_none, ↓reduceIte, or_self, or_false, false_or, or_true, true_or, and_self, and_true, true_and, and_false, false_and, not_false_eq_true, not_true_eq_false, Nat.reduceAdd, Nat.reduceMul, Int32.reduceLT, Int32.reduceLE, eq_self, ev_lit, ev_10, Int32.reduceToNatClampNeg, Nat.reduceLeDiff, Nat.reduceEqDiff, Nat.reduceLT, nI_clamp, ev_ng, ev_L1, ev_L2, ev_L3, ev_K1, ev_K2, ev_K3, ev_K4, ev_K5, ev_a1, ev_m1, ev_s1, ev_s2, nI_add, ev_nle, ev_le, ev_lt, ev_nlt, ev_ne, ev_eq, ev_uI hL, ev_uJ hL, ev_m hL, ev_mr hL, ev_mt hL, ev_mz hL, ev_mj hL, ev_n8 hL, ev_n64 hL, ev_n229 hL, ev_n254 hL, ev_n257 hL, ev_n259 hL, ev_n260 hL, ev_n261 hL, ev_0 hL, ev_00 hL, ev_01 hL, ev_02 hL, ev_1 hL, ev_1n hL, ev_1r hL, ev_lg hL, ev_lr hL, ev_sr hL, ev_2 hL, ev_2n hL, ev_3 hL, ev_30 hL, ev_31 hL, ev_4 hL, ev_4n hL, ev_5 hL, ev_5n hL, ev_4r hL, ev_lt1 hL, ev_ltr hL, ev_lnt hL, ev_lnn hL, ev_7 hL, ev_7n hL, ev_uE, ev_uK]
theorem wa_loop (hL : Lay S A ex) {q na k : Nat} (hq : q < 8) (he : ex q = true) (hk : k < 97) (hna : na ≤ 3) : ∀ (g i n : Nat) (I : gMI), NA (I (A (300 + 40 * q)) 5) na → i + g = na → g < n → I (A (32 + k)) 1 = nI i → ∃ I', f_Question_writeAsking_b32 S n I J (A (300 + 40 * q)) (A (32 + k)) (nI i) = some (I', J) ∧ I' (A (32 + k)) 1 = nI na ∧ (∀ j, j < na → I' (A (129 + k)) j = if j < i then I (A (129 + k)) j else I (A (300 + 40 * q + 5)) j) ∧ ∀ d j, ¬ (d = 32 + k ∧ j = 1) → d ≠ 129 + k → I' (A d) j = I (A d) j := by
  obtain ⟨t0, t1, t2, t3, t4, t5⟩ := (hL.qy hq he).2.1
  have t6 := (hL.qy hq he).2.2.2.2.2.2.2.1
  intro g
  induction g with
  | zero =>
    intro i n I hN hi hn h1
    obtain ⟨n, rfl⟩ : ∃ k, n = k + 1 := ⟨n - 1, by omega⟩
    have hx := numAsked (J := J) hL hq he hN
    refine ⟨I, ?_, by rw [h1, show i = na by omega], fun j hj => by rw [if_pos (by omega)], fun _ _ _ _ => rfl⟩
    rw [f_Question_writeAsking_b32, gd_in t0, hx, Option.bind_some, if_pos (by rw [show i = na by omega]; exact Int32.le_refl _)]
  | succ g ih =>
    intro i n I hN hi hn h1
    obtain ⟨n, rfl⟩ : ∃ k, n = k + 1 := ⟨n - 1, by omega⟩
    have hx := numAsked (J := J) hL hq he hN
    obtain ⟨I1, hI1⟩ : ∃ I1 : gMI, I1 = upI (upI I (A (129 + k)) i (I (A (300 + 40 * q + 5)) i)) (A (32 + k)) 1 (nI (i + 1)) := ⟨_, rfl⟩
    have k1 : ∀ d j, ¬ (d = 32 + k ∧ j = 1) → ¬ (d = 129 + k ∧ j = i) → I1 (A d) j = I (A d) j := fun d j a1 a2 => by
      rw [hI1, ev_uI hL (by omega), ev_uI hL (by omega)]
    have hp := put_in (J := J) hL hk (show i < 64 by omega) h1 (I (A (300 + 40 * q + 5)) i)
    rw [← hI1] at hp
    obtain ⟨I', w1, w2, w3, w4⟩ := ih (i + 1) n I1 (by rw [k1 _ _ (by omega) (by omega)]; exact hN) (by omega) (by omega) (by rw [hI1, ev_uE])
    refine ⟨I', ?_, w2, fun j hj => ?_, fun d j a1 a2 => by rw [w4 d j a1 a2, k1 _ _ a1 (by omega)]⟩
    · rw [f_Question_writeAsking_b32, gd_in t0, hx, Option.bind_some, if_neg (by rw [ev_L1 (by omega) (by omega)]; omega), t5, Option.bind_some, gd_in t6.1, gd_in (by rw [t6.2]; exact nI_in (show i < 3 by omega) (by decide)), gd_in (ev_lt1 hL hk), nI_clamp (by omega), hp, Option.bind_some, bnd, ev_a1]
      exact w1
    · rw [w3 j hj]
      by_cases e : j < i
      · rw [if_pos (by omega), if_pos e, k1 _ _ (by omega) (by omega)]
      · rw [if_neg e]
        by_cases e2 : j = i
        · rw [if_pos (by omega), hI1, ev_uI hL (by omega), e2, ev_uE]
        · rw [if_neg (by omega), k1 _ _ (by omega) (by omega)]
/-- a letter that asks, written upon sheet k -/
theorem write_ask (hL : Lay S A ex) {q na k : Nat} (hq : q < 8) (he : ex q = true) (hk : k < 97) (hN : NA (I (A (300 + 40 * q)) 5) na) (to : Int32) : ∃ I', f_Question_writeAsking S I J (A (300 + 40 * q)) (some (A (32 + k))) to = some (I', upJ J (A (32 + k)) 2 0) ∧ I' (A (32 + k)) 1 = nI na ∧ (I' (A (32 + k)) 3 = I (A (300 + 40 * q)) 5 ∧ I' (A (32 + k)) 4 = I (A (300 + 40 * q)) 6 ∧ I' (A (32 + k)) 5 = I (A (300 + 40 * q)) 11 ∧ I' (A (32 + k)) 6 = I (A (300 + 40 * q)) 12 ∧ I' (A (32 + k)) 7 = I (A (300 + 40 * q)) 10 ∧ I' (A (32 + k)) 8 = to) ∧ (∀ j, j < na → I' (A (129 + k)) j = I (A (300 + 40 * q + 5)) j) ∧ ∀ d j, d ≠ 32 + k → d ≠ 129 + k → I' (A d) j = I (A d) j := by
  have t0 := (hL.qy hq he).2.1.1
  obtain ⟨I1, hI1⟩ : ∃ I1 : gMI, I1 = upI (upI (upI (upI (upI (upI (upI I (A (32 + k)) 3 (I (A (300 + 40 * q)) 5)) (A (32 + k)) 4 (I (A (300 + 40 * q)) 6)) (A (32 + k)) 5 (I (A (300 + 40 * q)) 11)) (A (32 + k)) 6 (I (A (300 + 40 * q)) 12)) (A (32 + k)) 7 (I (A (300 + 40 * q)) 10)) (A (32 + k)) 8 to) (A (32 + k)) 1 0 := ⟨_, rfl⟩
  have k1 : ∀ d j, d ≠ 32 + k → I1 (A d) j = I (A d) j := fun d j a1 => by
    rw [hI1]
    simp (disch := omega) only [↓bnd_in, ↓Option.bind_some, ↓bd2_some, ↓bd3_some, ↓bd4_some, ↓ew_mr hL, ↓ew_00 hL, ↓ew_01 hL, ↓ew_02 hL, ↓ew_1r hL, ↓ew_lr hL, ↓ew_30 hL, ↓ew_31 hL, ↓ew_4r hL, ↓ew_ltr hL, ↓gd_m hL, ↓gd_0 hL, gd_t, Option.bind_some, bd2_some, bd3_some, bd4_some, gm_some, gm_none, ↓reduceIte, or_self, or_false, false_or, or_true, true_or, and_self, and_true, true_and, and_false, false_and, not_false_eq_true, not_true_eq_false, Nat.reduceAdd, Nat.reduceMul, Int32.reduceLT, Int32.reduceLE, eq_self, ev_lit, ev_10, Int32.reduceToNatClampNeg, Nat.reduceLeDiff, Nat.reduceEqDiff, Nat.reduceLT, nI_clamp, ev_ng, ev_L1, ev_L2, ev_L3, ev_K1, ev_K2, ev_K3, ev_K4, ev_K5, ev_a1, ev_m1, ev_s1, ev_s2, nI_add, ev_nle, ev_le, ev_lt, ev_nlt, ev_ne, ev_eq, ev_uI hL, ev_uJ hL, ev_m hL, ev_mr hL, ev_mt hL, ev_mz hL, ev_mj hL, ev_n8 hL, ev_n64 hL, ev_n229 hL, ev_n254 hL, ev_n257 hL, ev_n259 hL, ev_n260 hL, ev_n261 hL, ev_0 hL, ev_00 hL, ev_01 hL, ev_02 hL, ev_1 hL, ev_1n hL, ev_1r hL, ev_lg hL, ev_lr hL, ev_sr hL, ev_2 hL, ev_2n hL, ev_3 hL, ev_30 hL, ev_31 hL, ev_4 hL, ev_4n hL, ev_5 hL, ev_5n hL, ev_4r hL, ev_lt1 hL, ev_ltr hL, ev_lnt hL, ev_lnn hL, ev_7 hL, ev_7n hL, ev_uE, ev_uK]
  obtain ⟨I', w1, w2, w3, w4⟩ := wa_loop (J := upJ J (A (32 + k)) 2 0) hL hq he hk hN.le na 0 gFuel I1 (by rw [k1 _ _ (by omega)]; exact hN) (by omega) (by have := hN.le; unfold gFuel; omega) (by rw [hI1, ev_uE]; rfl)
  refine ⟨I', ?_, w2, ?_, fun j hj => by rw [w3 j hj, if_neg (by omega), k1 _ _ (by omega)], fun d j a1 a2 => by rw [w4 _ _ (by omega) a2, k1 _ _ a1]⟩
  · rw [show nI 0 = (0 : Int32) from rfl] at w1
    have ha : f_Letter_address S I J (A (32 + k)) (I (A (300 + 40 * q)) 5) (I (A (300 + 40 * q)) 6) (I (A (300 + 40 * q)) 11) (I (A (300 + 40 * q)) 12) (I (A (300 + 40 * q)) 10) to = some (I1, upJ J (A (32 + k)) 2 0) := by
      rw [hI1]
      simp (disch := omega) only [f_Letter_address, ↓bnd_in, ↓Option.bind_some, ↓bd2_some, ↓bd3_some, ↓bd4_some, ↓ew_mr hL, ↓ew_00 hL, ↓ew_01 hL, ↓ew_02 hL, ↓ew_1r hL, ↓ew_lr hL, ↓ew_30 hL, ↓ew_31 hL, ↓ew_4r hL, ↓ew_ltr hL, ↓gd_m hL, ↓gd_0 hL, gd_t, Option.bind_some, bd2_some, bd3_some, bd4_some, gm_some, gm_none, ↓reduceIte, or_self, or_false, false_or, or_true, true_or, and_self, and_true, true_and, and_false, false_and, not_false_eq_true, not_true_eq_false, Nat.reduceAdd, Nat.reduceMul, Int32.reduceLT, Int32.reduceLE, eq_self, ev_lit, ev_10, Int32.reduceToNatClampNeg, Nat.reduceLeDiff, Nat.reduceEqDiff, Nat.reduceLT, nI_clamp, ev_ng, ev_L1, ev_L2, ev_L3, ev_K1, ev_K2, ev_K3, ev_K4, ev_K5, ev_a1, ev_m1, ev_s1, ev_s2, nI_add, ev_nle, ev_le, ev_lt, ev_nlt, ev_ne, ev_eq, ev_uI hL, ev_uJ hL, ev_m hL, ev_mr hL, ev_mt hL, ev_mz hL, ev_mj hL, ev_n8 hL, ev_n64 hL, ev_n229 hL, ev_n254 hL, ev_n257 hL, ev_n259 hL, ev_n260 hL, ev_n261 hL, ev_0 hL, ev_00 hL, ev_01 hL, ev_02 hL, ev_1 hL, ev_1n hL, ev_1r hL, ev_lg hL, ev_lr hL, ev_sr hL, ev_2 hL, ev_2n hL, ev_3 hL, ev_30 hL, ev_31 hL, ev_4 hL, ev_4n hL, ev_5 hL, ev_5n hL, ev_4r hL, ev_lt1 hL, ev_ltr hL, ev_lnt hL, ev_lnn hL, ev_7 hL, ev_7n hL, ev_uE, ev_uK]
    rw [f_Question_writeAsking, gm_some, gd_in t0, gd_in (ev_lt1 hL hk), b2_h ha, w1]
  · rw [w4 _ _ (by omega) (by omega), w4 _ _ (by omega) (by omega), w4 _ _ (by omega) (by omega), w4 _ _ (by omega) (by omega), w4 _ _ (by omega) (by omega), w4 _ _ (by omega) (by omega), hI1]
    simp (disch := omega) only [↓bnd_in, ↓Option.bind_some, ↓bd2_some, ↓bd3_some, ↓bd4_some, ↓ew_mr hL, ↓ew_00 hL, ↓ew_01 hL, ↓ew_02 hL, ↓ew_1r hL, ↓ew_lr hL, ↓ew_30 hL, ↓ew_31 hL, ↓ew_4r hL, ↓ew_ltr hL, ↓gd_m hL, ↓gd_0 hL, gd_t, Option.bind_some, bd2_some, bd3_some, bd4_some, gm_some, gm_none, ↓reduceIte, or_self, or_false, false_or, or_true, true_or, and_self, and_true, true_and, and_false, false_and, not_false_eq_true, not_true_eq_false, Nat.reduceAdd, Nat.reduceMul, Int32.reduceLT, Int32.reduceLE, eq_self, ev_lit, ev_10, Int32.reduceToNatClampNeg, Nat.reduceLeDiff, Nat.reduceEqDiff, Nat.reduceLT, nI_clamp, ev_ng, ev_L1, ev_L2, ev_L3, ev_K1, ev_K2, ev_K3, ev_K4, ev_K5, ev_a1, ev_m1, ev_s1, ev_s2, nI_add, ev_nle, ev_le, ev_lt, ev_nlt, ev_ne, ev_eq, ev_uI hL, ev_uJ hL, ev_m hL, ev_mr hL, ev_mt hL, ev_mz hL, ev_mj hL, ev_n8 hL, ev_n64 hL, ev_n229 hL, ev_n254 hL, ev_n257 hL, ev_n259 hL, ev_n260 hL, ev_n261 hL, ev_0 hL, ev_00 hL, ev_01 hL, ev_02 hL, ev_1 hL, ev_1n hL, ev_1r hL, ev_lg hL, ev_lr hL, ev_sr hL, ev_2 hL, ev_2n hL, ev_3 hL, ev_30 hL, ev_31 hL, ev_4 hL, ev_4n hL, ev_5 hL, ev_5n hL, ev_4r hL, ev_lt1 hL, ev_ltr hL, ev_lnt hL, ev_lnn hL, ev_7 hL, ev_7n hL, ev_uE, ev_uK]
end SND
