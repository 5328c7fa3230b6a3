-- A letter more on the way; twin
theorem add_rel {M M' : gMI} {K K' : gMJ} {ex : Nat → Bool} {b c N a : Nat} {sz pi am nu : Nat → Nat} {fz : Nat → Nat → Option Nat} {cm : Nat → Nat → Bool} {gc : Nat → Nat → Nat} (h1 : RLgs M sz) (h2 : RPost M K c pi am) (h3 : RQs M K ex sz fz cm gc nu N) (h4 : Inv M c N b nu fz cm) (hc : c < 96)
    (hM : agr (fun d k => (d = 3 ∧ k = 2) ∨ (d = 6 ∧ (k = 0 ∨ k = 32 ∨ k = 37)) ∨ d = 32 + pi c ∨ d = 129 + pi c ∨ (d = 259 ∧ 7 * c ≤ k) ∨ (d = 260 ∧ 64 * c ≤ k) ∨ d = 262) M M') (hK : agr (fun d k => d = 32 + pi c ∨ (d = 261 ∧ c ≤ k) ∨ d = 6 ∨ d = 7) K K') (e3 : M' 3 2 = nI (c + 1)) (e6 : M' 6 32 = nI (c + 1)) (hl : RLet M' K' (pi c) c a) (hv : VLt M' c N)
    (hq : ∀ q, q < 8 → 0 < nu q → M' 259 (7 * c + 1) = M 231 q → ∀ tq sq, tq ≤ b → sq ≤ b → M 236 q = nI tq → M 237 q = nI sq → VLq M' c q (fz q) tq sq) :
    RLgs M' sz ∧ RPost M' K' (c + 1) pi (fun i => if i = c then a else am i) ∧ RQs M' K' ex sz fz cm gc nu N ∧ Inv M' (c + 1) N b nu fz cm := by
  unfold agr at hM hK
  obtain ⟨p1, p2, p3, p4, p5, p6⟩ := h2
  have hp := (p4 c (by omega)).1
  have el : ∀ l z a b, lcn M' l z a b = lcn M l z a b := fun l z a b => by
    unfold lcn rdM
    simp (disch := omega) only [hM _ _]
  have el2 : ∀ fz a b n, lcs M' fz a b n = lcs M fz a b n := fun fz a b n => by
    induction n with
    | zero => rfl
    | succ n ih => show _ + _ = _ + _; rw [ih, el]
  refine ⟨?_, ⟨by omega, e3, e6, fun i hi => ⟨(p4 i hi).1, by rw [hM _ _ (by omega)]; exact (p4 i hi).2⟩, p5, fun i hi => ?_⟩, ?_, ?_, ?_⟩
  · intro l hl
    have hq := h1 l hl
    unfold RUp RLg rI rdM at hq ⊢
    simp (disch := omega) only [hM _ _]
    exact hq
  · show RLet M' K' (pi i) i (if i = c then a else am i)
    by_cases e : i = c
    · rw [if_pos e, e]; exact hl
    · rw [if_neg e]
      have hne : pi i ≠ pi c := fun q => e (p5 i c (by omega) (by omega) q)
      have hpi := (p4 i (by omega)).1
      have hr := p6 i (by omega)
      unfold RLet at hr ⊢
      obtain ⟨q0, q1, q2, q3, q4, q5, q6, q7, q8, q9, q10⟩ := hr
      refine ⟨q0, ?_, ?_, ?_, ?_, ?_, ?_, ?_, ?_, ?_, fun j hj => ?_⟩
      · rw [hM _ _ (by omega)]; exact q1
      · rw [hM _ _ (by omega)]; exact q2
      · rw [hM _ _ (by omega), hM _ _ (by omega)]; exact q3
      · rw [hM _ _ (by omega), hM _ _ (by omega)]; exact q4
      · rw [hM _ _ (by omega), hM _ _ (by omega)]; exact q5
      · rw [hM _ _ (by omega), hM _ _ (by omega)]; exact q6
      · rw [hM _ _ (by omega), hM _ _ (by omega)]; exact q7
      · rw [hM _ _ (by omega), hM _ _ (by omega)]; exact q8
      · rw [hK _ _ (by omega), hK _ _ (by omega)]; exact q9
      · rw [hM _ _ (by omega), hM _ _ (by omega)]; exact q10 j hj
  · unfold RQs RQ RQf RFz RRe RGv RAs RAn rI rdM at h3 ⊢
    simp (disch := omega) only [hM _ _, hK _ _]
    exact h3
  · intro i hi
    by_cases e : i = c
    · rw [e]; exact hv
    · have := h4.1 i (by omega)
      unfold VLt at this ⊢
      simp (disch := omega) only [hM _ _]
      exact this
  · intro q hq8 hn
    obtain ⟨v1, tq, sq, w1, w2, w3, w4, w5⟩ := h4.2 q hq8 hn
    refine ⟨?_, tq, sq, w1, w2, by rw [hM _ _ (by omega)]; exact w3, by rw [hM _ _ (by omega)]; exact w4, fun i hi he => ?_⟩
    · unfold VQq VAn at v1 ⊢
      simp (disch := omega) only [hM _ _, el, el2]
      exact v1
    · by_cases e : i = c
      · rw [e] at he ⊢
        rw [hM 231 _ (by omega)] at he
        exact hq q hq8 hn he tq sq w1 w2 w3 w4
      · rw [hM _ _ (by omega), hM _ _ (by omega)] at he
        have hw := w5 i (by omega) he
        unfold VLq VCu VAn at hw ⊢
        simp (disch := omega) only [hM _ _, el]
        exact hw
def cpf {α : Type} (f : Nat → α) (dst src k e : Nat) : Nat → α := fun j => if dst + k ≤ j ∧ j < dst + e then f (src + (j - dst)) else f j
theorem cpf_up {f : Nat → Int32} {dst src k e : Nat} (h : k < e) (hd : src + e ≤ dst) : cpf (upd f (dst + k) (f (src + k))) dst src (k + 1) e = cpf f dst src k e := by
  funext j
  unfold cpf upd
  by_cases h1 : j = dst + k
  · subst h1
    rw [if_neg (by omega), if_pos rfl, if_pos (by omega)]
    congr 1; omega
  · by_cases h2 : dst + (k + 1) ≤ j ∧ j < dst + e
    · rw [if_pos h2, if_neg (by omega), if_pos (by omega)]
    · rw [if_neg h2, if_neg h1, if_neg (by omega)]
theorem cpf_0 {α : Type} {f : Nat → α} {dst src k e : Nat} (h : e ≤ k) : cpf f dst src k e = f := by
  funext j
  unfold cpf
  rw [if_neg (by omega)]
theorem va_upI (I : gMI) (a k : Nat) (v : Int32) (f : Nat → Int32) : va_up (upI I a k v) a f = va_up I a f := va_upup _ _ _ _
section TWIN
variable {S : gS} {A : Nat → Nat} {ex : Nat → Bool} {I I' : gMI} {J : gMJ} {b : Nat}
theorem twin_b76 (hL : Lay S A ex) {c x : Nat} (hc : c < 96) (hx : x < c) : ∀ (g k n : Nat) (I : gMI), I (A 6) 32 = nI c → k + g = 64 → g < n → f_M_twin_b76 S n I J (A 6) (nI x) (nI k) = some (1, upI (va_up I (A 260) (cpf (I (A 260)) (64 * c) (64 * x) k 64)) (A 6) 32 (nI (c + 1)), upJ J (A 261) c (J (A 261) x)) := by
  intro g
  induction g with
  | zero =>
    intro k n I hI hk hn
    obtain ⟨n, rfl⟩ : ∃ k, n = k + 1 := ⟨n - 1, by omega⟩
    simp (disch := omega) only [f_M_twin_b76, hI, ↓bnd_in, ↓Option.bind_some, ↓bd2_some, ↓bd3_some, ↓bd4_some, ↓ew_mr hL, ↓ew_00 hL, ↓ew_01 hL, ↓ew_02 hL, ↓ew_1r hL, ↓ew_lr hL, ↓ew_30 hL, ↓ew_31 hL, ↓ew_4r hL, ↓ew_ltr hL, ↓gd_m hL, ↓gd_0 hL, gd_t, Option.bind_some, bd2_some, bd3_some, bd4_some, gm_some, gm_none, ↓reduceIte, or_self, or_false, false_or, or_true, true_or, and_self, and_true, true_and, and_false, false_and, not_false_eq_true, not_true_eq_false, Nat.reduceAdd, Nat.reduceMul, Int32.reduceLT, Int32.reduceLE, eq_self, ev_lit, ev_10, Int32.reduceToNatClampNeg, Nat.reduceLeDiff, Nat.reduceEqDiff, Nat.reduceLT, nI_clamp, ev_ng, ev_L1, ev_L2, ev_L3, ev_K1, ev_K2, ev_K3, ev_K4, ev_K5, ev_a1, ev_m1, ev_s1, ev_s2, nI_add, ev_nle, ev_le, ev_lt, ev_nlt, ev_ne, ev_eq, ev_uI hL, ev_uJ hL, ev_m hL, ev_mr hL, ev_mt hL, ev_mz hL, ev_mj hL, ev_n8 hL, ev_n64 hL, ev_n229 hL, ev_n254 hL, ev_n257 hL, ev_n259 hL, ev_n260 hL, ev_n261 hL, ev_0 hL, ev_00 hL, ev_01 hL, ev_02 hL, ev_1 hL, ev_1n hL, ev_1r hL, ev_lg hL, ev_lr hL, ev_sr hL, ev_2 hL, ev_2n hL, ev_3 hL, ev_30 hL, ev_31 hL, ev_4 hL, ev_4n hL, ev_5 hL, ev_5n hL, ev_4r hL, ev_lt1 hL, ev_ltr hL, ev_lnt hL, ev_lnn hL, ev_7 hL, ev_7n hL, ev_uE, ev_uK]
    rw [cpf_0 (by omega), va_upsame]
  | succ g ih =>
    intro k n I hI hk hn
    obtain ⟨n, rfl⟩ : ∃ k, n = k + 1 := ⟨n - 1, by omega⟩
    simp (disch := omega) only [f_M_twin_b76, hI, ↓bnd_in, ↓Option.bind_some, ↓bd2_some, ↓bd3_some, ↓bd4_some, ↓ew_mr hL, ↓ew_00 hL, ↓ew_01 hL, ↓ew_02 hL, ↓ew_1r hL, ↓ew_lr hL, ↓ew_30 hL, ↓ew_31 hL, ↓ew_4r hL, ↓ew_ltr hL, ↓gd_m hL, ↓gd_0 hL, gd_t, Option.bind_some, bd2_some, bd3_some, bd4_some, gm_some, gm_none, ↓reduceIte, or_self, or_false, false_or, or_true, true_or, and_self, and_true, true_and, and_false, false_and, not_false_eq_true, not_true_eq_false, Nat.reduceAdd, Nat.reduceMul, Int32.reduceLT, Int32.reduceLE, eq_self, ev_lit, ev_10, Int32.reduceToNatClampNeg, Nat.reduceLeDiff, Nat.reduceEqDiff, Nat.reduceLT, nI_clamp, ev_ng, ev_L1, ev_L2, ev_L3, ev_K1, ev_K2, ev_K3, ev_K4, ev_K5, ev_a1, ev_m1, ev_s1, ev_s2, nI_add, ev_nle, ev_le, ev_lt, ev_nlt, ev_ne, ev_eq, ev_uI hL, ev_uJ hL, ev_m hL, ev_mr hL, ev_mt hL, ev_mz hL, ev_mj hL, ev_n8 hL, ev_n64 hL, ev_n229 hL, ev_n254 hL, ev_n257 hL, ev_n259 hL, ev_n260 hL, ev_n261 hL, ev_0 hL, ev_00 hL, ev_01 hL, ev_02 hL, ev_1 hL, ev_1n hL, ev_1r hL, ev_lg hL, ev_lr hL, ev_sr hL, ev_2 hL, ev_2n hL, ev_3 hL, ev_30 hL, ev_31 hL, ev_4 hL, ev_4n hL, ev_5 hL, ev_5n hL, ev_4r hL, ev_lt1 hL, ev_ltr hL, ev_lnt hL, ev_lnn hL, ev_7 hL, ev_7n hL, ev_uE, ev_uK]
    rw [ih (k + 1) n _ (by rw [ev_uI hL (by omega)]; exact hI) (by omega) (by omega)]
    rw [va_upI, upI_at, cpf_up (by omega) (by omega)]
theorem twin_b37 (hL : Lay S A ex) {c x : Nat} (hc : c < 96) (hx : x < c) : ∀ (g k n : Nat) (I : gMI), I (A 6) 32 = nI c → k + g = 7 → g < n → f_M_twin_b37 S n I J (A 6) (nI x) (nI k) = some (1, upI (va_up (va_up I (A 259) (cpf (I (A 259)) (7 * c) (7 * x) k 7)) (A 260) (cpf (I (A 260)) (64 * c) (64 * x) 0 64)) (A 6) 32 (nI (c + 1)), upJ J (A 261) c (J (A 261) x)) := by
  intro g
  induction g with
  | zero =>
    intro k n I hI hk hn
    obtain ⟨n, rfl⟩ : ∃ k, n = k + 1 := ⟨n - 1, by omega⟩
    have h0 := twin_b76 (J := J) hL hc hx 64 0 gFuel I hI (by omega) (by unfold gFuel; omega)
    rw [show nI 0 = (0 : Int32) from rfl] at h0
    simp (disch := omega) only [f_M_twin_b37, h0, ↓bnd_in, ↓Option.bind_some, ↓bd2_some, ↓bd3_some, ↓bd4_some, ↓ew_mr hL, ↓ew_00 hL, ↓ew_01 hL, ↓ew_02 hL, ↓ew_1r hL, ↓ew_lr hL, ↓ew_30 hL, ↓ew_31 hL, ↓ew_4r hL, ↓ew_ltr hL, ↓gd_m hL, ↓gd_0 hL, gd_t, Option.bind_some, bd2_some, bd3_some, bd4_some, gm_some, gm_none, ↓reduceIte, or_self, or_false, false_or, or_true, true_or, and_self, and_true, true_and, and_false, false_and, not_false_eq_true, not_true_eq_false, Nat.reduceAdd, Nat.reduceMul, Int32.reduceLT, Int32.reduceLE, eq_self, ev_lit, ev_10, Int32.reduceToNatClampNeg, Nat.reduceLeDiff, Nat.reduceEqDiff, Nat.reduceLT, nI_clamp, ev_ng, ev_L1, ev_L2, ev_L3, ev_K1, ev_K2, ev_K3, ev_K4, ev_K5, ev_a1, ev_m1, ev_s1, ev_s2, nI_add, ev_nle, ev_le, ev_lt, ev_nlt, ev_ne, ev_eq, ev_uI hL, ev_uJ hL, ev_m hL, ev_mr hL, ev_mt hL, ev_mz hL, ev_mj hL, ev_n8 hL, ev_n64 hL, ev_n229 hL, ev_n254 hL, ev_n257 hL, ev_n259 hL, ev_n260 hL, ev_n261 hL, ev_0 hL, ev_00 hL, ev_01 hL, ev_02 hL, ev_1 hL, ev_1n hL, ev_1r hL, ev_lg hL, ev_lr hL, ev_sr hL, ev_2 hL, ev_2n hL, ev_3 hL, ev_30 hL, ev_31 hL, ev_4 hL, ev_4n hL, ev_5 hL, ev_5n hL, ev_4r hL, ev_lt1 hL, ev_ltr hL, ev_lnt hL, ev_lnn hL, ev_7 hL, ev_7n hL, ev_uE, ev_uK]
    rw [cpf_0 (f := I (A 259)) (by omega), va_upsame]
  | succ g ih =>
    intro k n I hI hk hn
    obtain ⟨n, rfl⟩ : ∃ k, n = k + 1 := ⟨n - 1, by omega⟩
    simp (disch := omega) only [f_M_twin_b37, hI, ↓bnd_in, ↓Option.bind_some, ↓bd2_some, ↓bd3_some, ↓bd4_some, ↓ew_mr hL, ↓ew_00 hL, ↓ew_01 hL, ↓ew_02 hL, ↓ew_1r hL, ↓ew_lr hL, ↓ew_30 hL, ↓ew_31 hL, ↓ew_4r hL, ↓ew_ltr hL, ↓gd_m hL, ↓gd_0 hL, gd_t, Option.bind_some, bd2_some, bd3_some, bd4_some, gm_some, gm_none, ↓reduceIte, or_self, or_false, false_or, or_true, true_or, and_self, and_true, true_and, and_false, false_and, not_false_eq_true, not_true_eq_false, Nat.reduceAdd, Nat.reduceMul, Int32.reduceLT, Int32.reduceLE, eq_self, ev_lit, ev_10, Int32.reduceToNatClampNeg, Nat.reduceLeDiff, Nat.reduceEqDiff, Nat.reduceLT, nI_clamp, ev_ng, ev_L1, ev_L2, ev_L3, ev_K1, ev_K2, ev_K3, ev_K4, ev_K5, ev_a1, ev_m1, ev_s1, ev_s2, nI_add, ev_nle, ev_le, ev_lt, ev_nlt, ev_ne, ev_eq, ev_uI hL, ev_uJ hL, ev_m hL, ev_mr hL, ev_mt hL, ev_mz hL, ev_mj hL, ev_n8 hL, ev_n64 hL, ev_n229 hL, ev_n254 hL, ev_n257 hL, ev_n259 hL, ev_n260 hL, ev_n261 hL, ev_0 hL, ev_00 hL, ev_01 hL, ev_02 hL, ev_1 hL, ev_1n hL, ev_1r hL, ev_lg hL, ev_lr hL, ev_sr hL, ev_2 hL, ev_2n hL, ev_3 hL, ev_30 hL, ev_31 hL, ev_4 hL, ev_4n hL, ev_5 hL, ev_5n hL, ev_4r hL, ev_lt1 hL, ev_ltr hL, ev_lnt hL, ev_lnn hL, ev_7 hL, ev_7n hL, ev_uE, ev_uK]
    rw [ih (k + 1) n _ (by rw [ev_uI hL (by omega)]; exact hI) (by omega) (by omega)]
    rw [va_upI, upI_at, cpf_up (by omega) (by omega), upI_ne (hL.inj (by decide))]
theorem op_twin (hL : Lay S A ex) (hb : b < 2 ^ 30) (hr : Rel (cI A I) (cJ A J) ex b) (i : Int32) : ∃ k I1 J1 r I2 J2, f_L_twin S I J (A 0) i (A 7) = some (k, I1, J1) ∧ f_M_twin S I1 J1 (A 6) i = some (r, I2, J2) ∧ I2 (A 6) 0 = k ∧ (k = 0 → J2 (A 7) 0 = (if r = 0 then 0 else 1)) ∧ (r = 0 ∨ r = 1) ∧ Rel (cI A I2) (cJ A J2) ex b := by
  have hr0 := hr
  obtain ⟨sz, c, pi, am, fz, cm, gc, nu, N, hN, h1, h2, h3, h4⟩ := hr0
  have hp := h2
  obtain ⟨p1, p2, p3, p4, p5, p6⟩ := hp
  have q2 : I (A 3) 2 = nI c := p2
  have q3 : I (A 6) 32 = nI c := p3
  rcases H_needLetter (J := J) hL p1 q2 i with ⟨x, hx, rfl, hn⟩ | ⟨ho, hn⟩
  · by_cases hc : c < 96
    · have pc := (p4 c (by omega)).1
      have px := (p4 x (by omega)).1
      have ec : I (A 5) c = nI (pi c) := (p4 c (by omega)).2
      have ex' : I (A 5) x = nI (pi x) := (p4 x (by omega)).2
      have hne : pi x ≠ pi c := fun q => by
        have := p5 x c (by omega) (by omega) q
        omega
      obtain ⟨l0, l1, l2, l3, l4, l5, l6, l7, l8, l9, l10⟩ := p6 x hx
      have l1' : I (A (32 + pi x)) 1 = nI (am x) := l1
      have t1 : f_Post_send S I J (A 3) = some (some (A (32 + pi c)), upI I (A 3) 2 (nI (c + 1))) := by
        have e9 : f_Post_at S (upI I (A 3) 2 (nI (c + 1))) J (A 3) (nI c) = some (some (A (32 + pi c))) := Post_at hL (by omega) pc (by rw [ev_uI hL (by omega)]; exact ec)
        simp (disch := omega) only [f_Post_send, q2, Nat.add_sub_cancel, e9, ↓bnd_in, ↓Option.bind_some, ↓bd2_some, ↓bd3_some, ↓bd4_some, ↓ew_mr hL, ↓ew_00 hL, ↓ew_01 hL, ↓ew_02 hL, ↓ew_1r hL, ↓ew_lr hL, ↓ew_30 hL, ↓ew_31 hL, ↓ew_4r hL, ↓ew_ltr hL, ↓gd_m hL, ↓gd_0 hL, gd_t, Option.bind_some, bd2_some, bd3_some, bd4_some, gm_some, gm_none, ↓reduceIte, or_self, or_false, false_or, or_true, true_or, and_self, and_true, true_and, and_false, false_and, not_false_eq_true, not_true_eq_false, Nat.reduceAdd, Nat.reduceMul, Int32.reduceLT, Int32.reduceLE, eq_self, ev_lit, ev_10, Int32.reduceToNatClampNeg, Nat.reduceLeDiff, Nat.reduceEqDiff, Nat.reduceLT, nI_clamp, ev_ng, ev_L1, ev_L2, ev_L3, ev_K1, ev_K2, ev_K3, ev_K4, ev_K5, ev_a1, ev_m1, ev_s1, ev_s2, nI_add, ev_nle, ev_le, ev_lt, ev_nlt, ev_ne, ev_eq, ev_uI hL, ev_uJ hL, ev_m hL, ev_mr hL, ev_mt hL, ev_mz hL, ev_mj hL, ev_n8 hL, ev_n64 hL, ev_n229 hL, ev_n254 hL, ev_n257 hL, ev_n259 hL, ev_n260 hL, ev_n261 hL, ev_0 hL, ev_00 hL, ev_01 hL, ev_02 hL, ev_1 hL, ev_1n hL, ev_1r hL, ev_lg hL, ev_lr hL, ev_sr hL, ev_2 hL, ev_2n hL, ev_3 hL, ev_30 hL, ev_31 hL, ev_4 hL, ev_4n hL, ev_5 hL, ev_5n hL, ev_4r hL, ev_lt1 hL, ev_ltr hL, ev_lnt hL, ev_lnn hL, ev_7 hL, ev_7n hL, ev_uE, ev_uK]
      have t2 : f_Post_at S (upI I (A 3) 2 (nI (c + 1))) J (A 3) (nI x) = some (some (A (32 + pi x))) := Post_at hL (by omega) px (by rw [ev_uI hL (by omega)]; exact ex')
      obtain ⟨I1, hI1⟩ : ∃ I1 : gMI, I1 = va_up (upI (upI (upI (upI (upI (upI (upI (upI (upI I (A 3) 2 (nI (c + 1))) (A (32 + pi c)) 3 (I (A (32 + pi x)) 3)) (A (32 + pi c)) 4 (I (A (32 + pi x)) 4)) (A (32 + pi c)) 5 (I (A (32 + pi x)) 5)) (A (32 + pi c)) 6 (I (A (32 + pi x)) 6)) (A (32 + pi c)) 7 (I (A (32 + pi x)) 7)) (A (32 + pi c)) 8 (I (A (32 + pi x)) 8)) (A (32 + pi c)) 1 0) (A (32 + pi c)) 1 (nI (am x))) (A (129 + pi c)) (va_cpy (I (A (129 + pi x))) (I (A (129 + pi c))) 0 0 (am x)) := ⟨_, rfl⟩
      obtain ⟨J1, hJ1⟩ : ∃ J1 : gMJ, J1 = upJ (upJ J (A (32 + pi c)) 2 0) (A (32 + pi c)) 2 (J (A (32 + pi x)) 2) := ⟨_, rfl⟩
      have hv : ∀ (I0 : gMI) (d : Nat) (f : Nat → Int32) (e k : Nat), e ≠ d → va_up I0 (A d) f (A e) k = I0 (A e) k := fun I0 d f e k hne => by rw [va_up_ne _ _ (hL.inj hne)]
      have t3 : f_Letter_copy S (upI I (A 3) 2 (nI (c + 1))) J (A (32 + pi c)) (A (32 + pi x)) = some (I1, J1) := by
        simp (disch := omega) only [f_Letter_copy, f_Letter_address, l1', Nat.zero_add, ↓bnd_in, ↓Option.bind_some, ↓bd2_some, ↓bd3_some, ↓bd4_some, ↓ew_mr hL, ↓ew_00 hL, ↓ew_01 hL, ↓ew_02 hL, ↓ew_1r hL, ↓ew_lr hL, ↓ew_30 hL, ↓ew_31 hL, ↓ew_4r hL, ↓ew_ltr hL, ↓gd_m hL, ↓gd_0 hL, gd_t, Option.bind_some, bd2_some, bd3_some, bd4_some, gm_some, gm_none, ↓reduceIte, or_self, or_false, false_or, or_true, true_or, and_self, and_true, true_and, and_false, false_and, not_false_eq_true, not_true_eq_false, Nat.reduceAdd, Nat.reduceMul, Int32.reduceLT, Int32.reduceLE, eq_self, ev_lit, ev_10, Int32.reduceToNatClampNeg, Nat.reduceLeDiff, Nat.reduceEqDiff, Nat.reduceLT, nI_clamp, ev_ng, ev_L1, ev_L2, ev_L3, ev_K1, ev_K2, ev_K3, ev_K4, ev_K5, ev_a1, ev_m1, ev_s1, ev_s2, nI_add, ev_nle, ev_le, ev_lt, ev_nlt, ev_ne, ev_eq, ev_uI hL, ev_uJ hL, ev_m hL, ev_mr hL, ev_mt hL, ev_mz hL, ev_mj hL, ev_n8 hL, ev_n64 hL, ev_n229 hL, ev_n254 hL, ev_n257 hL, ev_n259 hL, ev_n260 hL, ev_n261 hL, ev_0 hL, ev_00 hL, ev_01 hL, ev_02 hL, ev_1 hL, ev_1n hL, ev_1r hL, ev_lg hL, ev_lr hL, ev_sr hL, ev_2 hL, ev_2n hL, ev_3 hL, ev_30 hL, ev_31 hL, ev_4 hL, ev_4n hL, ev_5 hL, ev_5n hL, ev_4r hL, ev_lt1 hL, ev_ltr hL, ev_lnt hL, ev_lnn hL, ev_7 hL, ev_7n hL, ev_uE, ev_uK]
        rw [hI1, hJ1]
        have u1 : ∀ (I0 : gMI) (k : Nat) (v : Int32), upI I0 (A (32 + pi c)) k v (A (129 + pi x)) = I0 (A (129 + pi x)) := fun I0 k v => upI_ne (hL.inj (by omega))
        have u2 : ∀ (I0 : gMI) (k : Nat) (v : Int32), upI I0 (A (32 + pi c)) k v (A (129 + pi c)) = I0 (A (129 + pi c)) := fun I0 k v => upI_ne (hL.inj (by omega))
        have u3 : ∀ (I0 : gMI) (v : Int32), upI I0 (A 3) 2 v (A (129 + pi x)) = I0 (A (129 + pi x)) := fun I0 v => upI_ne (hL.inj (by omega))
        have u4 : ∀ (I0 : gMI) (v : Int32), upI I0 (A 3) 2 v (A (129 + pi c)) = I0 (A (129 + pi c)) := fun I0 v => upI_ne (hL.inj (by omega))
        simp only [u1, u2, u3, u4]
      have k1 : ∀ d k, d ≠ 3 → d ≠ 32 + pi c → d ≠ 129 + pi c → I1 (A d) k = I (A d) k := fun d k a1 a2 a3 => by
        rw [hI1, hv _ _ _ _ _ a3]
        simp (disch := omega) only [↓bnd_in, ↓Option.bind_some, ↓bd2_some, ↓bd3_some, ↓bd4_some, ↓ew_mr hL, ↓ew_00 hL, ↓ew_01 hL, ↓ew_02 hL, ↓ew_1r hL, ↓ew_lr hL, ↓ew_30 hL, ↓ew_31 hL, ↓ew_4r hL, ↓ew_ltr hL, ↓gd_m hL, ↓gd_0 hL, gd_t, Option.bind_some, bd2_some, bd3_some, bd4_some, gm_some, gm_none, ↓reduceIte, or_self, or_false, false_or, or_true, true_or, and_self, and_true, true_and, and_false, false_and, not_false_eq_true, not_true_eq_false, Nat.reduceAdd, Nat.reduceMul, Int32.reduceLT, Int32.reduceLE, eq_self, ev_lit, ev_10, Int32.reduceToNatClampNeg, Nat.reduceLeDiff, Nat.reduceEqDiff, Nat.reduceLT, nI_clamp, ev_ng, ev_L1, ev_L2, ev_L3, ev_K1, ev_K2, ev_K3, ev_K4, ev_K5, ev_a1, ev_m1, ev_s1, ev_s2, nI_add, ev_nle, ev_le, ev_lt, ev_nlt, ev_ne, ev_eq, ev_uI hL, ev_uJ hL, ev_m hL, ev_mr hL, ev_mt hL, ev_mz hL, ev_mj hL, ev_n8 hL, ev_n64 hL, ev_n229 hL, ev_n254 hL, ev_n257 hL, ev_n259 hL, ev_n260 hL, ev_n261 hL, ev_0 hL, ev_00 hL, ev_01 hL, ev_02 hL, ev_1 hL, ev_1n hL, ev_1r hL, ev_lg hL, ev_lr hL, ev_sr hL, ev_2 hL, ev_2n hL, ev_3 hL, ev_30 hL, ev_31 hL, ev_4 hL, ev_4n hL, ev_5 hL, ev_5n hL, ev_4r hL, ev_lt1 hL, ev_ltr hL, ev_lnt hL, ev_lnn hL, ev_7 hL, ev_7n hL, ev_uE, ev_uK]
      have k6 : I1 (A 6) 32 = nI c := by rw [k1 _ _ (by omega) (by omega) (by omega)]; exact q3
      have hin : ∀ J, f_M_isLetter S I1 J (A 6) (nI x) = some 1 := fun J => M_isLetter_in hL p1 hx k6
      obtain ⟨J3, hJ3⟩ : ∃ J3 : gMJ, J3 = upJ J1 (A 7) 0 1 := ⟨_, rfl⟩
      have t4 := twin_b37 (J := J3) hL hc hx 7 0 gFuel (upI I1 (A 6) 0 0) (by rw [ev_uI hL (by omega)]; exact k6) (by omega) (by unfold gFuel; omega)
      rw [show nI 0 = (0 : Int32) from rfl, upI_ne (hL.inj (by decide)), upI_ne (hL.inj (by decide))] at t4
      obtain ⟨I2, hI2⟩ : ∃ I2 : gMI, I2 = upI (va_up (va_up (upI I1 (A 6) 0 0) (A 259) (cpf (I1 (A 259)) (7 * c) (7 * x) 0 7)) (A 260) (cpf (I1 (A 260)) (64 * c) (64 * x) 0 64)) (A 6) 32 (nI (c + 1)) := ⟨_, rfl⟩
      rw [← hI2] at t4
      have m60 : I2 (A 6) 0 = 0 := by rw [hI2, ev_uI hL (by omega), hv _ _ _ _ _ (by omega), hv _ _ _ _ _ (by omega), ev_uE]
      have m1 : ∀ d k, d ≠ 6 → d ≠ 259 → d ≠ 260 → I2 (A d) k = I1 (A d) k := fun d k a1 a2 a3 => by
        rw [hI2, ev_uI hL (by omega), hv _ _ _ _ _ a3, hv _ _ _ _ _ a2, ev_uI hL (by omega)]
      have g259 : ∀ k, I1 (A 259) k = I (A 259) k := fun k => k1 _ _ (by omega) (by omega) (by omega)
      have g260 : ∀ k, I1 (A 260) k = I (A 260) k := fun k => k1 _ _ (by omega) (by omega) (by omega)
      have n259 : ∀ f, f < 7 → I2 (A 259) (7 * c + f) = I (A 259) (7 * x + f) := fun f hf => by
        rw [hI2, ev_uI hL (by omega), hv _ _ _ _ _ (by omega), va_up_self]
        unfold cpf
        rw [if_pos (by omega), g259]; congr 1; omega
      have n259' : I2 (A 259) (7 * c) = I (A 259) (7 * x) := n259 0 (by decide)
      have n260 : ∀ f, f < 64 → I2 (A 260) (64 * c + f) = I (A 260) (64 * x + f) := fun f hf => by
        rw [hI2, ev_uI hL (by omega), va_up_self]
        unfold cpf
        rw [if_pos (by omega), g260]; congr 1; omega
      have n260' : I2 (A 260) (64 * c) = I (A 260) (64 * x) := n260 0 (by decide)
      have o259 : ∀ k, ¬ 7 * c ≤ k → I2 (A 259) k = I (A 259) k := fun k hk => by
        rw [hI2, ev_uI hL (by omega), hv _ _ _ _ _ (by omega), va_up_self]
        unfold cpf
        rw [if_neg (by omega), g259]
      have o260 : ∀ k, ¬ 64 * c ≤ k → I2 (A 260) k = I (A 260) k := fun k hk => by
        rw [hI2, ev_uI hL (by omega), va_up_self]
        unfold cpf
        rw [if_neg (by omega), g260]
      have s1 : ∀ d k, ¬ ((d = 3 ∧ k = 2) ∨ (d = 6 ∧ (k = 0 ∨ k = 32 ∨ k = 37)) ∨ d = 32 + pi c ∨ d = 129 + pi c ∨ (d = 259 ∧ 7 * c ≤ k) ∨ (d = 260 ∧ 64 * c ≤ k) ∨ d = 262) → I2 (A d) k = I (A d) k := fun d k hd => by
        by_cases a1 : d = 259
        · subst a1; exact o259 k (by omega)
        · by_cases a2 : d = 260
          · subst a2; exact o260 k (by omega)
          · by_cases a3 : d = 6
            · subst a3
              rw [hI2, ev_uI hL (by omega), hv _ _ _ _ _ (by omega), hv _ _ _ _ _ (by omega), ev_uI hL (by omega), k1 _ _ (by omega) (by omega) (by omega)]
            · rw [m1 _ _ a3 a1 a2]
              by_cases a4 : d = 3
              · subst a4
                rw [hI1, hv _ _ _ _ _ (by omega)]
                simp (disch := omega) only [↓bnd_in, ↓Option.bind_some, ↓bd2_some, ↓bd3_some, ↓bd4_some, ↓ew_mr hL, ↓ew_00 hL, ↓ew_01 hL, ↓ew_02 hL, ↓ew_1r hL, ↓ew_lr hL, ↓ew_30 hL, ↓ew_31 hL, ↓ew_4r hL, ↓ew_ltr hL, ↓gd_m hL, ↓gd_0 hL, gd_t, Option.bind_some, bd2_some, bd3_some, bd4_some, gm_some, gm_none, ↓reduceIte, or_self, or_false, false_or, or_true, true_or, and_self, and_true, true_and, and_false, false_and, not_false_eq_true, not_true_eq_false, Nat.reduceAdd, Nat.reduceMul, Int32.reduceLT, Int32.reduceLE, eq_self, ev_lit, ev_10, Int32.reduceToNatClampNeg, Nat.reduceLeDiff, Nat.reduceEqDiff, Nat.reduceLT, nI_clamp, ev_ng, ev_L1, ev_L2, ev_L3, ev_K1, ev_K2, ev_K3, ev_K4, ev_K5, ev_a1, ev_m1, ev_s1, ev_s2, nI_add, ev_nle, ev_le, ev_lt, ev_nlt, ev_ne, ev_eq, ev_uI hL, ev_uJ hL, ev_m hL, ev_mr hL, ev_mt hL, ev_mz hL, ev_mj hL, ev_n8 hL, ev_n64 hL, ev_n229 hL, ev_n254 hL, ev_n257 hL, ev_n259 hL, ev_n260 hL, ev_n261 hL, ev_0 hL, ev_00 hL, ev_01 hL, ev_02 hL, ev_1 hL, ev_1n hL, ev_1r hL, ev_lg hL, ev_lr hL, ev_sr hL, ev_2 hL, ev_2n hL, ev_3 hL, ev_30 hL, ev_31 hL, ev_4 hL, ev_4n hL, ev_5 hL, ev_5n hL, ev_4r hL, ev_lt1 hL, ev_ltr hL, ev_lnt hL, ev_lnn hL, ev_7 hL, ev_7n hL, ev_uE, ev_uK]
              · exact k1 _ _ a4 (by omega) (by omega)
      have f32 : ∀ k, k ≠ 1 → I2 (A (32 + pi c)) k = if 3 ≤ k ∧ k ≤ 8 then I (A (32 + pi x)) k else I (A (32 + pi c)) k := fun k hk => by
        rw [m1 _ _ (by omega) (by omega) (by omega), hI1, hv _ _ _ _ _ (by omega)]
        by_cases hr : 3 ≤ k ∧ k ≤ 8
        · rcases (show k = 3 ∨ k = 4 ∨ k = 5 ∨ k = 6 ∨ k = 7 ∨ k = 8 by omega) with rfl | rfl | rfl | rfl | rfl | rfl <;> simp (disch := omega) only [↓bnd_in, ↓Option.bind_some, ↓bd2_some, ↓bd3_some, ↓bd4_some, ↓ew_mr hL, ↓ew_00 hL, ↓ew_01 hL, ↓ew_02 hL, ↓ew_1r hL, ↓ew_lr hL, ↓ew_30 hL, ↓ew_31 hL, ↓ew_4r hL, ↓ew_ltr hL, ↓gd_m hL, ↓gd_0 hL, gd_t, Option.bind_some, bd2_some, bd3_some, bd4_some, gm_some, gm_none, ↓reduceIte, or_self, or_false, false_or, or_true, true_or, and_self, and_true, true_and, and_false, false_and, not_false_eq_true, not_true_eq_false, Nat.reduceAdd, Nat.reduceMul, Int32.reduceLT, Int32.reduceLE, eq_self, ev_lit, ev_10, Int32.reduceToNatClampNeg, Nat.reduceLeDiff, Nat.reduceEqDiff, Nat.reduceLT, nI_clamp, ev_ng, ev_L1, ev_L2, ev_L3, ev_K1, ev_K2, ev_K3, ev_K4, ev_K5, ev_a1, ev_m1, ev_s1, ev_s2, nI_add, ev_nle, ev_le, ev_lt, ev_nlt, ev_ne, ev_eq, ev_uI hL, ev_uJ hL, ev_m hL, ev_mr hL, ev_mt hL, ev_mz hL, ev_mj hL, ev_n8 hL, ev_n64 hL, ev_n229 hL, ev_n254 hL, ev_n257 hL, ev_n259 hL, ev_n260 hL, ev_n261 hL, ev_0 hL, ev_00 hL, ev_01 hL, ev_02 hL, ev_1 hL, ev_1n hL, ev_1r hL, ev_lg hL, ev_lr hL, ev_sr hL, ev_2 hL, ev_2n hL, ev_3 hL, ev_30 hL, ev_31 hL, ev_4 hL, ev_4n hL, ev_5 hL, ev_5n hL, ev_4r hL, ev_lt1 hL, ev_ltr hL, ev_lnt hL, ev_lnn hL, ev_7 hL, ev_7n hL, ev_uE, ev_uK]
        · rw [if_neg hr]
          simp (disch := omega) only [↓bnd_in, ↓Option.bind_some, ↓bd2_some, ↓bd3_some, ↓bd4_some, ↓ew_mr hL, ↓ew_00 hL, ↓ew_01 hL, ↓ew_02 hL, ↓ew_1r hL, ↓ew_lr hL, ↓ew_30 hL, ↓ew_31 hL, ↓ew_4r hL, ↓ew_ltr hL, ↓gd_m hL, ↓gd_0 hL, gd_t, Option.bind_some, bd2_some, bd3_some, bd4_some, gm_some, gm_none, ↓reduceIte, or_self, or_false, false_or, or_true, true_or, and_self, and_true, true_and, and_false, false_and, not_false_eq_true, not_true_eq_false, Nat.reduceAdd, Nat.reduceMul, Int32.reduceLT, Int32.reduceLE, eq_self, ev_lit, ev_10, Int32.reduceToNatClampNeg, Nat.reduceLeDiff, Nat.reduceEqDiff, Nat.reduceLT, nI_clamp, ev_ng, ev_L1, ev_L2, ev_L3, ev_K1, ev_K2, ev_K3, ev_K4, ev_K5, ev_a1, ev_m1, ev_s1, ev_s2, nI_add, ev_nle, ev_le, ev_lt, ev_nlt, ev_ne, ev_eq, ev_uI hL, ev_uJ hL, ev_m hL, ev_mr hL, ev_mt hL, ev_mz hL, ev_mj hL, ev_n8 hL, ev_n64 hL, ev_n229 hL, ev_n254 hL, ev_n257 hL, ev_n259 hL, ev_n260 hL, ev_n261 hL, ev_0 hL, ev_00 hL, ev_01 hL, ev_02 hL, ev_1 hL, ev_1n hL, ev_1r hL, ev_lg hL, ev_lr hL, ev_sr hL, ev_2 hL, ev_2n hL, ev_3 hL, ev_30 hL, ev_31 hL, ev_4 hL, ev_4n hL, ev_5 hL, ev_5n hL, ev_4r hL, ev_lt1 hL, ev_ltr hL, ev_lnt hL, ev_lnn hL, ev_7 hL, ev_7n hL, ev_uE, ev_uK]
      have f1 : I2 (A (32 + pi c)) 1 = nI (am x) := by
        rw [m1 _ _ (by omega) (by omega) (by omega), hI1, hv _ _ _ _ _ (by omega), ev_uE]
      have fn : ∀ j, j < am x → I2 (A (129 + pi c)) j = I (A (129 + pi x)) j := fun j hj => by
        rw [m1 _ _ (by omega) (by omega) (by omega), hI1, va_up_self, pk_cpy_in (by omega) (by omega)]; congr 1; omega
      have fK : ∀ d k, J3 (A d) k = if d = 7 ∧ k = 0 then 1 else if d = 32 + pi c ∧ k = 2 then J (A (32 + pi x)) 2 else J (A d) k := fun d k => by
        rw [hJ3]
        by_cases a1 : d = 7 ∧ k = 0
        · obtain ⟨rfl, rfl⟩ := a1
          rw [if_pos ⟨rfl, rfl⟩, ev_uK]
        · rw [if_neg a1, ev_uJ hL (by omega), hJ1]
          by_cases a2 : d = 32 + pi c ∧ k = 2
          · obtain ⟨rfl, rfl⟩ := a2
            rw [if_pos ⟨rfl, rfl⟩, ev_uK]
          · rw [if_neg a2, ev_uJ hL (by omega), ev_uJ hL (by omega)]
      have fK2 : ∀ d k, upJ J3 (A 261) c (J3 (A 261) x) (A d) k = if d = 261 ∧ k = c then J (A 261) x else J3 (A d) k := fun d k => by
        by_cases a1 : d = 261 ∧ k = c
        · obtain ⟨rfl, rfl⟩ := a1
          rw [if_pos ⟨rfl, rfl⟩, ev_uK, fK, if_neg (by omega), if_neg (by omega)]
        · rw [if_neg a1, ev_uJ hL (by omega)]
      refine ⟨0, I1, J3, 1, I2, upJ J3 (A 261) c (J3 (A 261) x), ?_, ?_, m60, fun _ => ?_, Or.inr rfl, ?_⟩
      · rw [hJ3]
        simp (disch := omega) only [f_L_twin, f_H_twin, ↓ob_h hn, ↓b2_h t1, ↓ob_h t2, ↓b2_h t3, ↓gm_some, f_L_twin_b15, ↓bnd_in, ↓Option.bind_some, ↓bd2_some, ↓bd3_some, ↓bd4_some, ↓ew_mr hL, ↓ew_00 hL, ↓ew_01 hL, ↓ew_02 hL, ↓ew_1r hL, ↓ew_lr hL, ↓ew_30 hL, ↓ew_31 hL, ↓ew_4r hL, ↓ew_ltr hL, ↓gd_m hL, ↓gd_0 hL, gd_t, Option.bind_some, bd2_some, bd3_some, bd4_some, gm_some, gm_none, ↓reduceIte, or_self, or_false, false_or, or_true, true_or, and_self, and_true, true_and, and_false, false_and, not_false_eq_true, not_true_eq_false, Nat.reduceAdd, Nat.reduceMul, Int32.reduceLT, Int32.reduceLE, eq_self, ev_lit, ev_10, Int32.reduceToNatClampNeg, Nat.reduceLeDiff, Nat.reduceEqDiff, Nat.reduceLT, nI_clamp, ev_ng, ev_L1, ev_L2, ev_L3, ev_K1, ev_K2, ev_K3, ev_K4, ev_K5, ev_a1, ev_m1, ev_s1, ev_s2, nI_add, ev_nle, ev_le, ev_lt, ev_nlt, ev_ne, ev_eq, ev_uI hL, ev_uJ hL, ev_m hL, ev_mr hL, ev_mt hL, ev_mz hL, ev_mj hL, ev_n8 hL, ev_n64 hL, ev_n229 hL, ev_n254 hL, ev_n257 hL, ev_n259 hL, ev_n260 hL, ev_n261 hL, ev_0 hL, ev_00 hL, ev_01 hL, ev_02 hL, ev_1 hL, ev_1n hL, ev_1r hL, ev_lg hL, ev_lr hL, ev_sr hL, ev_2 hL, ev_2n hL, ev_3 hL, ev_30 hL, ev_31 hL, ev_4 hL, ev_4n hL, ev_5 hL, ev_5n hL, ev_4r hL, ev_lt1 hL, ev_ltr hL, ev_lnt hL, ev_lnn hL, ev_7 hL, ev_7n hL, ev_uE, ev_uK]
      · simp (disch := omega) only [f_M_twin, ↓ob_h (hin _), f_M_twin_b14, k6, t4, ↓bnd_in, ↓Option.bind_some, ↓bd2_some, ↓bd3_some, ↓bd4_some, ↓ew_mr hL, ↓ew_00 hL, ↓ew_01 hL, ↓ew_02 hL, ↓ew_1r hL, ↓ew_lr hL, ↓ew_30 hL, ↓ew_31 hL, ↓ew_4r hL, ↓ew_ltr hL, ↓gd_m hL, ↓gd_0 hL, gd_t, Option.bind_some, bd2_some, bd3_some, bd4_some, gm_some, gm_none, ↓reduceIte, or_self, or_false, false_or, or_true, true_or, and_self, and_true, true_and, and_false, false_and, not_false_eq_true, not_true_eq_false, Nat.reduceAdd, Nat.reduceMul, Int32.reduceLT, Int32.reduceLE, eq_self, ev_lit, ev_10, Int32.reduceToNatClampNeg, Nat.reduceLeDiff, Nat.reduceEqDiff, Nat.reduceLT, nI_clamp, ev_ng, ev_L1, ev_L2, ev_L3, ev_K1, ev_K2, ev_K3, ev_K4, ev_K5, ev_a1, ev_m1, ev_s1, ev_s2, nI_add, ev_nle, ev_le, ev_lt, ev_nlt, ev_ne, ev_eq, ev_uI hL, ev_uJ hL, ev_m hL, ev_mr hL, ev_mt hL, ev_mz hL, ev_mj hL, ev_n8 hL, ev_n64 hL, ev_n229 hL, ev_n254 hL, ev_n257 hL, ev_n259 hL, ev_n260 hL, ev_n261 hL, ev_0 hL, ev_00 hL, ev_01 hL, ev_02 hL, ev_1 hL, ev_1n hL, ev_1r hL, ev_lg hL, ev_lr hL, ev_sr hL, ev_2 hL, ev_2n hL, ev_3 hL, ev_30 hL, ev_31 hL, ev_4 hL, ev_4n hL, ev_5 hL, ev_5n hL, ev_4r hL, ev_lt1 hL, ev_ltr hL, ev_lnt hL, ev_lnn hL, ev_7 hL, ev_7n hL, ev_uE, ev_uK]
      · rw [fK2, if_neg (by omega), fK, if_pos ⟨rfl, rfl⟩, if_neg (by decide)]
      · obtain ⟨a1, a2, a3, a4⟩ := add_rel (M' := cI A I2) (K' := cJ A (upJ J3 (A 261) c (J3 (A 261) x))) (a := am x) h1 h2 h3 h4 hc s1 (fun d k hd => by
          show upJ J3 (A 261) c (J3 (A 261) x) (A d) k = J (A d) k
          rw [fK2, if_neg (by omega), fK, if_neg (by omega), if_neg (by omega)]) (by
          show I2 (A 3) 2 = nI (c + 1)
          rw [m1 _ _ (by omega) (by omega) (by omega), hI1, hv _ _ _ _ _ (by omega)]
          simp (disch := omega) only [↓bnd_in, ↓Option.bind_some, ↓bd2_some, ↓bd3_some, ↓bd4_some, ↓ew_mr hL, ↓ew_00 hL, ↓ew_01 hL, ↓ew_02 hL, ↓ew_1r hL, ↓ew_lr hL, ↓ew_30 hL, ↓ew_31 hL, ↓ew_4r hL, ↓ew_ltr hL, ↓gd_m hL, ↓gd_0 hL, gd_t, Option.bind_some, bd2_some, bd3_some, bd4_some, gm_some, gm_none, ↓reduceIte, or_self, or_false, false_or, or_true, true_or, and_self, and_true, true_and, and_false, false_and, not_false_eq_true, not_true_eq_false, Nat.reduceAdd, Nat.reduceMul, Int32.reduceLT, Int32.reduceLE, eq_self, ev_lit, ev_10, Int32.reduceToNatClampNeg, Nat.reduceLeDiff, Nat.reduceEqDiff, Nat.reduceLT, nI_clamp, ev_ng, ev_L1, ev_L2, ev_L3, ev_K1, ev_K2, ev_K3, ev_K4, ev_K5, ev_a1, ev_m1, ev_s1, ev_s2, nI_add, ev_nle, ev_le, ev_lt, ev_nlt, ev_ne, ev_eq, ev_uI hL, ev_uJ hL, ev_m hL, ev_mr hL, ev_mt hL, ev_mz hL, ev_mj hL, ev_n8 hL, ev_n64 hL, ev_n229 hL, ev_n254 hL, ev_n257 hL, ev_n259 hL, ev_n260 hL, ev_n261 hL, ev_0 hL, ev_00 hL, ev_01 hL, ev_02 hL, ev_1 hL, ev_1n hL, ev_1r hL, ev_lg hL, ev_lr hL, ev_sr hL, ev_2 hL, ev_2n hL, ev_3 hL, ev_30 hL, ev_31 hL, ev_4 hL, ev_4n hL, ev_5 hL, ev_5n hL, ev_4r hL, ev_lt1 hL, ev_ltr hL, ev_lnt hL, ev_lnn hL, ev_7 hL, ev_7n hL, ev_uE, ev_uK]) (by
          show I2 (A 6) 32 = nI (c + 1)
          rw [hI2, ev_uE]) (by
          refine ⟨l0, f1, (n259 6 (by decide)).trans l2, ?_, ?_, ?_, ?_, ?_, ?_, ?_, fun j hj => ?_⟩
          · show I2 (A (32 + pi c)) 3 = I2 (A 259) (7 * c)
            rw [f32 3 (by decide), if_pos (by omega), n259']; exact l3
          · show I2 (A (32 + pi c)) 4 = I2 (A 259) (7 * c + 1)
            rw [f32 4 (by decide), if_pos (by omega), n259 1 (by decide)]; exact l4
          · show I2 (A (32 + pi c)) 5 = I2 (A 259) (7 * c + 2)
            rw [f32 5 (by decide), if_pos (by omega), n259 2 (by decide)]; exact l5
          · show I2 (A (32 + pi c)) 6 = I2 (A 259) (7 * c + 3)
            rw [f32 6 (by decide), if_pos (by omega), n259 3 (by decide)]; exact l6
          · show I2 (A (32 + pi c)) 7 = I2 (A 259) (7 * c + 4)
            rw [f32 7 (by decide), if_pos (by omega), n259 4 (by decide)]; exact l7
          · show I2 (A (32 + pi c)) 8 = I2 (A 259) (7 * c + 5)
            rw [f32 8 (by decide), if_pos (by omega), n259 5 (by decide)]; exact l8
          · show upJ J3 (A 261) c (J3 (A 261) x) (A (32 + pi c)) 2 = upJ J3 (A 261) c (J3 (A 261) x) (A 261) c
            rw [fK2, fK2, if_neg (by omega), if_pos ⟨rfl, rfl⟩, fK, if_neg (by omega), if_pos ⟨rfl, rfl⟩]; exact l9
          · show I2 (A 260) (64 * c + j) = if j < am x then I2 (A (129 + pi c)) j else 0
            rw [n260 j hj]
            have l10 : I (A 260) (64 * x + j) = if j < am x then I (A (129 + pi x)) j else 0 := l10 j hj
            rw [l10]
            by_cases e : j < am x
            · rw [if_pos e, if_pos e, fn j e]
            · rw [if_neg e, if_neg e]) (by
          obtain ⟨ka, f, t, u, v1, v2, v3, v4, v5, v6, v7, v8, v9⟩ := h4.1 x hx
          exact ⟨ka, f, t, u, v1, v2, v3, v4, v5, n259'.trans v6, (n259 4 (by decide)).trans v7, (n259 5 (by decide)).trans v8, (n259 1 (by decide)).trans v9⟩) (fun q hq hnu he tq sq b1 b2 w3 w4 => by
          obtain ⟨v1, tq', sq', w1', w2', w3', w4', w5'⟩ := h4.2 q hq hnu
          have e1 : I2 (A 259) (7 * c + 1) = cI A I 231 q := he
          rw [n259 1 (by decide)] at e1
          have e2 : tq = tq' := (nI_eq (by omega) (by omega)).mp (w3.symm.trans w3')
          have e3 : sq = sq' := (nI_eq (by omega) (by omega)).mp (w4.symm.trans w4')
          subst e2; subst e3
          have hw := w5' x hx e1
          have el : ∀ l z a b, lcn (cI A I2) l z a b = lcn (cI A I) l z a b := fun l z a b => by
            unfold lcn rdM
            have : ∀ i, cI A I2 229 i = cI A I 229 i := fun i => s1 _ _ (by omega)
            simp only [this]
          unfold VLq VCu VAn at hw ⊢
          have r1 : ∀ d k, (230 ≤ d ∧ d < 259) → cI A I2 d k = cI A I d k := fun d k hd => s1 _ _ (by omega)
          have r2 : cI A I2 259 (7 * c) = cI A I 259 (7 * x) := n259'
          have r3 : ∀ f, f < 7 → cI A I2 259 (7 * c + f) = cI A I 259 (7 * x + f) := n259
          have r4 : cI A I2 260 (64 * c) = cI A I 260 (64 * x) := n260'
          have r5 : cI A I2 260 (64 * c + 1) = cI A I 260 (64 * x + 1) := n260 1 (by decide)
          rw [r2, r3 2 (by decide), r3 3 (by decide), r3 4 (by decide), r3 5 (by decide), r3 6 (by decide), r4, r5]
          simp (disch := omega) only [r1 _ _, el]
          exact hw)
        exact ⟨sz, c + 1, pi, _, fz, cm, gc, nu, N, hN, a1, a2, a3, a4⟩
    · have hc2 : c = 96 := by omega
      have t1 : f_Post_send S I J (A 3) = some (none, I) := by
        simp (disch := omega) only [f_Post_send, q2, ↓bnd_in, ↓Option.bind_some, ↓bd2_some, ↓bd3_some, ↓bd4_some, ↓ew_mr hL, ↓ew_00 hL, ↓ew_01 hL, ↓ew_02 hL, ↓ew_1r hL, ↓ew_lr hL, ↓ew_30 hL, ↓ew_31 hL, ↓ew_4r hL, ↓ew_ltr hL, ↓gd_m hL, ↓gd_0 hL, gd_t, Option.bind_some, bd2_some, bd3_some, bd4_some, gm_some, gm_none, ↓reduceIte, or_self, or_false, false_or, or_true, true_or, and_self, and_true, true_and, and_false, false_and, not_false_eq_true, not_true_eq_false, Nat.reduceAdd, Nat.reduceMul, Int32.reduceLT, Int32.reduceLE, eq_self, ev_lit, ev_10, Int32.reduceToNatClampNeg, Nat.reduceLeDiff, Nat.reduceEqDiff, Nat.reduceLT, nI_clamp, ev_ng, ev_L1, ev_L2, ev_L3, ev_K1, ev_K2, ev_K3, ev_K4, ev_K5, ev_a1, ev_m1, ev_s1, ev_s2, nI_add, ev_nle, ev_le, ev_lt, ev_nlt, ev_ne, ev_eq, ev_uI hL, ev_uJ hL, ev_m hL, ev_mr hL, ev_mt hL, ev_mz hL, ev_mj hL, ev_n8 hL, ev_n64 hL, ev_n229 hL, ev_n254 hL, ev_n257 hL, ev_n259 hL, ev_n260 hL, ev_n261 hL, ev_0 hL, ev_00 hL, ev_01 hL, ev_02 hL, ev_1 hL, ev_1n hL, ev_1r hL, ev_lg hL, ev_lr hL, ev_sr hL, ev_2 hL, ev_2n hL, ev_3 hL, ev_30 hL, ev_31 hL, ev_4 hL, ev_4n hL, ev_5 hL, ev_5n hL, ev_4r hL, ev_lt1 hL, ev_ltr hL, ev_lnt hL, ev_lnn hL, ev_7 hL, ev_7n hL, ev_uE, ev_uK]
      have hin : ∀ J, f_M_isLetter S I J (A 6) (nI x) = some 1 := fun J => M_isLetter_in hL p1 hx q3
      refine ⟨0, I, upJ J (A 7) 0 0, 0, upI I (A 6) 0 0, upJ J (A 7) 0 0, ?_, ?_, ev_uE, fun _ => ?_, Or.inl rfl, (hr.th hL 0).ou hL _⟩
      · simp (disch := omega) only [f_L_twin, f_H_twin, ↓ob_h hn, ↓b2_h t1, ↓gm_none, f_L_twin_b15, ↓bnd_in, ↓Option.bind_some, ↓bd2_some, ↓bd3_some, ↓bd4_some, ↓ew_mr hL, ↓ew_00 hL, ↓ew_01 hL, ↓ew_02 hL, ↓ew_1r hL, ↓ew_lr hL, ↓ew_30 hL, ↓ew_31 hL, ↓ew_4r hL, ↓ew_ltr hL, ↓gd_m hL, ↓gd_0 hL, gd_t, Option.bind_some, bd2_some, bd3_some, bd4_some, gm_some, gm_none, ↓reduceIte, or_self, or_false, false_or, or_true, true_or, and_self, and_true, true_and, and_false, false_and, not_false_eq_true, not_true_eq_false, Nat.reduceAdd, Nat.reduceMul, Int32.reduceLT, Int32.reduceLE, eq_self, ev_lit, ev_10, Int32.reduceToNatClampNeg, Nat.reduceLeDiff, Nat.reduceEqDiff, Nat.reduceLT, nI_clamp, ev_ng, ev_L1, ev_L2, ev_L3, ev_K1, ev_K2, ev_K3, ev_K4, ev_K5, ev_a1, ev_m1, ev_s1, ev_s2, nI_add, ev_nle, ev_le, ev_lt, ev_nlt, ev_ne, ev_eq, ev_uI hL, ev_uJ hL, ev_m hL, ev_mr hL, ev_mt hL, ev_mz hL, ev_mj hL, ev_n8 hL, ev_n64 hL, ev_n229 hL, ev_n254 hL, ev_n257 hL, ev_n259 hL, ev_n260 hL, ev_n261 hL, ev_0 hL, ev_00 hL, ev_01 hL, ev_02 hL, ev_1 hL, ev_1n hL, ev_1r hL, ev_lg hL, ev_lr hL, ev_sr hL, ev_2 hL, ev_2n hL, ev_3 hL, ev_30 hL, ev_31 hL, ev_4 hL, ev_4n hL, ev_5 hL, ev_5n hL, ev_4r hL, ev_lt1 hL, ev_ltr hL, ev_lnt hL, ev_lnn hL, ev_7 hL, ev_7n hL, ev_uE, ev_uK]
      · simp (disch := omega) only [f_M_twin, ↓ob_h (hin _), f_M_twin_b14, f_M_twin_b33, q3, ↓bnd_in, ↓Option.bind_some, ↓bd2_some, ↓bd3_some, ↓bd4_some, ↓ew_mr hL, ↓ew_00 hL, ↓ew_01 hL, ↓ew_02 hL, ↓ew_1r hL, ↓ew_lr hL, ↓ew_30 hL, ↓ew_31 hL, ↓ew_4r hL, ↓ew_ltr hL, ↓gd_m hL, ↓gd_0 hL, gd_t, Option.bind_some, bd2_some, bd3_some, bd4_some, gm_some, gm_none, ↓reduceIte, or_self, or_false, false_or, or_true, true_or, and_self, and_true, true_and, and_false, false_and, not_false_eq_true, not_true_eq_false, Nat.reduceAdd, Nat.reduceMul, Int32.reduceLT, Int32.reduceLE, eq_self, ev_lit, ev_10, Int32.reduceToNatClampNeg, Nat.reduceLeDiff, Nat.reduceEqDiff, Nat.reduceLT, nI_clamp, ev_ng, ev_L1, ev_L2, ev_L3, ev_K1, ev_K2, ev_K3, ev_K4, ev_K5, ev_a1, ev_m1, ev_s1, ev_s2, nI_add, ev_nle, ev_le, ev_lt, ev_nlt, ev_ne, ev_eq, ev_uI hL, ev_uJ hL, ev_m hL, ev_mr hL, ev_mt hL, ev_mz hL, ev_mj hL, ev_n8 hL, ev_n64 hL, ev_n229 hL, ev_n254 hL, ev_n257 hL, ev_n259 hL, ev_n260 hL, ev_n261 hL, ev_0 hL, ev_00 hL, ev_01 hL, ev_02 hL, ev_1 hL, ev_1n hL, ev_1r hL, ev_lg hL, ev_lr hL, ev_sr hL, ev_2 hL, ev_2n hL, ev_3 hL, ev_30 hL, ev_31 hL, ev_4 hL, ev_4n hL, ev_5 hL, ev_5n hL, ev_4r hL, ev_lt1 hL, ev_ltr hL, ev_lnt hL, ev_lnn hL, ev_7 hL, ev_7n hL, ev_uE, ev_uK]
      · rw [if_pos rfl, ev_uK]
  · have hin : ∀ J, f_M_isLetter S I J (A 6) i = some 0 := fun J => M_isLetter_out hL ho q3
    refine ⟨1, I, J, 0, upI I (A 6) 0 1, J, ?_, ?_, ev_uE, fun q => absurd q (by decide), Or.inl rfl, hr.th hL 1⟩
    · simp (disch := omega) only [f_L_twin, f_H_twin, ↓ob_h hn, ↓bnd_in, ↓Option.bind_some, ↓bd2_some, ↓bd3_some, ↓bd4_some, ↓ew_mr hL, ↓ew_00 hL, ↓ew_01 hL, ↓ew_02 hL, ↓ew_1r hL, ↓ew_lr hL, ↓ew_30 hL, ↓ew_31 hL, ↓ew_4r hL, ↓ew_ltr hL, ↓gd_m hL, ↓gd_0 hL, gd_t, Option.bind_some, bd2_some, bd3_some, bd4_some, gm_some, gm_none, ↓reduceIte, or_self, or_false, false_or, or_true, true_or, and_self, and_true, true_and, and_false, false_and, not_false_eq_true, not_true_eq_false, Nat.reduceAdd, Nat.reduceMul, Int32.reduceLT, Int32.reduceLE, eq_self, ev_lit, ev_10, Int32.reduceToNatClampNeg, Nat.reduceLeDiff, Nat.reduceEqDiff, Nat.reduceLT, nI_clamp, ev_ng, ev_L1, ev_L2, ev_L3, ev_K1, ev_K2, ev_K3, ev_K4, ev_K5, ev_a1, ev_m1, ev_s1, ev_s2, nI_add, ev_nle, ev_le, ev_lt, ev_nlt, ev_ne, ev_eq, ev_uI hL, ev_uJ hL, ev_m hL, ev_mr hL, ev_mt hL, ev_mz hL, ev_mj hL, ev_n8 hL, ev_n64 hL, ev_n229 hL, ev_n254 hL, ev_n257 hL, ev_n259 hL, ev_n260 hL, ev_n261 hL, ev_0 hL, ev_00 hL, ev_01 hL, ev_02 hL, ev_1 hL, ev_1n hL, ev_1r hL, ev_lg hL, ev_lr hL, ev_sr hL, ev_2 hL, ev_2n hL, ev_3 hL, ev_30 hL, ev_31 hL, ev_4 hL, ev_4n hL, ev_5 hL, ev_5n hL, ev_4r hL, ev_lt1 hL, ev_ltr hL, ev_lnt hL, ev_lnn hL, ev_7 hL, ev_7n hL, ev_uE, ev_uK]
    · simp (disch := omega) only [f_M_twin, ↓ob_h (hin _), f_M_twin_b14, f_M_twin_b33, ↓bnd_in, ↓Option.bind_some, ↓bd2_some, ↓bd3_some, ↓bd4_some, ↓ew_mr hL, ↓ew_00 hL, ↓ew_01 hL, ↓ew_02 hL, ↓ew_1r hL, ↓ew_lr hL, ↓ew_30 hL, ↓ew_31 hL, ↓ew_4r hL, ↓ew_ltr hL, ↓gd_m hL, ↓gd_0 hL, gd_t, Option.bind_some, bd2_some, bd3_some, bd4_some, gm_some, gm_none, ↓reduceIte, or_self, or_false, false_or, or_true, true_or, and_self, and_true, true_and, and_false, false_and, not_false_eq_true, not_true_eq_false, Nat.reduceAdd, Nat.reduceMul, Int32.reduceLT, Int32.reduceLE, eq_self, ev_lit, ev_10, Int32.reduceToNatClampNeg, Nat.reduceLeDiff, Nat.reduceEqDiff, Nat.reduceLT, nI_clamp, ev_ng, ev_L1, ev_L2, ev_L3, ev_K1, ev_K2, ev_K3, ev_K4, ev_K5, ev_a1, ev_m1, ev_s1, ev_s2, nI_add, ev_nle, ev_le, ev_lt, ev_nlt, ev_ne, ev_eq, ev_uI hL, ev_uJ hL, ev_m hL, ev_mr hL, ev_mt hL, ev_mz hL, ev_mj hL, ev_n8 hL, ev_n64 hL, ev_n229 hL, ev_n254 hL, ev_n257 hL, ev_n259 hL, ev_n260 hL, ev_n261 hL, ev_0 hL, ev_00 hL, ev_01 hL, ev_02 hL, ev_1 hL, ev_1n hL, ev_1r hL, ev_lg hL, ev_lr hL, ev_sr hL, ev_2 hL, ev_2n hL, ev_3 hL, ev_30 hL, ev_31 hL, ev_4 hL, ev_4n hL, ev_5 hL, ev_5n hL, ev_4r hL, ev_lt1 hL, ev_ltr hL, ev_lnt hL, ev_lnn hL, ev_7 hL, ev_7n hL, ev_uE, ev_uK]
end TWIN
