-- A new step: class and reference ask all
/-- cells of question q that a new step or turn may change -/
def stQ (q d k : Nat) : Prop := (d = 300 + 40 * q ∧ (k = 5 ∨ 10 ≤ k)) ∨ (300 + 40 * q + 3 ≤ d ∧ d ≤ 300 + 40 * q + 17) ∨ (235 ≤ d ∧ d ≤ 252 ∧ d ≠ 243 ∧ k = q) ∨ ((d = 253 ∨ d = 255 ∨ d = 256) ∧ 8 * q ≤ k ∧ k < 8 * q + 8) ∨ (d = 254 ∧ 32 * q ≤ k ∧ k < 32 * q + 32) ∨ (d = 257 ∧ 512 * q ≤ k ∧ k < 512 * q + 512) ∨ d = 262 ∨ (d = 6 ∧ (k = 0 ∨ k = 37))
theorem ite_eta {α : Type} {f : Nat → α} {q : Nat} : (fun p => if p = q then f q else f p) = f := by
  funext p
  by_cases e : p = q
  · rw [if_pos e, e]
  · rw [if_neg e]
section STEP
variable {M M' : gMI} {K K' : gMJ} {ex : Nat → Bool} {b b' c N q : Nat} {sz pi am nu : Nat → Nat} {fz : Nat → Nat → Option Nat} {cm : Nat → Nat → Bool} {gc : Nat → Nat → Nat}
theorem RFz.congr2 {p l s : Nat} {z : Option Nat} (h : RFz M p l s z) (hl : l < 8) (hM : ∀ d k, (d = 300 + 40 * p + 1 ∨ (300 + 40 * p + 18 ≤ d ∧ d < 300 + 40 * p + 34) ∨ d = 243 ∨ d = 229) → M' d k = M d k) : RFz M' p l s z := by
  unfold RFz at h ⊢
  refine ⟨by rw [hM _ _ (by omega), hM _ _ (by omega)]; exact h.1, ?_⟩
  cases z with
  | none => exact (hM _ _ (by omega)).trans h.2
  | some n =>
    have h := h.2
    have e1 : rI M' (300 + 40 * p + 26 + l) = rI M (300 + 40 * p + 26 + l) := by
      funext i; unfold rI; rw [hM _ _ (by omega)]
    have e2 : rdM M' l = rdM M l := by
      funext i; unfold rdM; rw [hM _ _ (by omega)]
    dsimp only at h ⊢
    rw [e1, e2, hM _ _ (by omega), hM _ _ (by omega)]
    exact h
theorem cmN_0 : ∀ n, cmN (fun _ => false) n = 0
  | 0 => rfl
  | n + 1 => by
    show cmN _ n + 0 = 0
    rw [cmN_0 n]
theorem cmS_0 (f : Nat → Int64) : ∀ n, cmS (fun _ => false) f n = 0
  | 0 => rfl
  | n + 1 => by
    show cmS _ _ n + 0 = 0
    rw [cmS_0 f n]; rfl
theorem pu_rows_0 (φ : Int → Int) (F : Nat → Nat → Int) : ∀ n, pu_rows φ F (fun _ => 0) n = 0
  | 0 => rfl
  | n + 1 => by
    show pu_rows φ F (fun _ => 0) n + 0 = 0
    rw [pu_rows_0 φ F n]; rfl
/-- letters of an earlier step -/
theorem VLq.old {i tq sq tq' sq' : Nat} {f : Nat → Option Nat} (h : VLq M i q f tq sq) (h9 : ∀ k, M' 259 k = M 259 k) (h0 : ∀ k, M' 260 k = M 260 k) (h2 : ∀ k, M' 229 k = M 229 k) (ht : (tq' = tq ∧ sq' = sq + 1) ∨ (tq' = tq + 1 ∧ sq' = 1)) : VLq M' i q f tq' sq' := by
  obtain ⟨tt, ss, c1, c2, c3, c4, c5, c6, c7⟩ := h
  refine ⟨tt, ss, by omega, c2, by rw [h9]; exact c3, by rw [h9]; exact c4, fun e => by have := c5; omega, fun e t ht8 e2 => ?_, fun e1 e2 => ?_⟩
  · rw [h9] at e e2
    rw [lcn.congr h2, h0, h0]
    exact c6 e t ht8 e2
  · have := c5
    omega
/-- the step of now is gone by: its letters stay, nothing of them is current any more -/
theorem VLq.past {i tq sq : Nat} {f : Nat → Option Nat} (h : VLq M i q f tq sq) (h9 : ∀ k, M' 259 k = M 259 k) (h0 : ∀ k, M' 260 k = M 260 k) (h2 : ∀ k, M' 229 k = M 229 k) (hs : M' 238 q ≠ 0) : VLq M' i q f tq sq := by
  obtain ⟨tt, ss, c1, c2, c3, c4, c5, c6, c7⟩ := h
  refine ⟨tt, ss, c1, c2, by rw [h9]; exact c3, by rw [h9]; exact c4, c5, fun e t ht8 e2 => ?_, fun e1 e2 e3 => absurd e3 hs⟩
  rw [h9] at e e2
  rw [lcn.congr h2, h0, h0]
  exact c6 e t ht8 e2
theorem step_rel (h : R4 M K ex b sz c pi am fz cm gc nu N) (hq : q < 8) (he : ex q = true) (hn : 0 < nu q)
    (hM : ∀ d k, ¬ stQ q d k → M' d k = M d k) (hK : ∀ d k, ¬ stQ q d k → d ≠ 6 → d ≠ 7 → K' d k = K d k)
    (hf : RQf M' q) (hc1 : ∀ l, l < 8 → M' (300 + 40 * q + 6) l = 0 ∧ M' 253 (8 * q + l) = 0) (hc2 : M' (300 + 40 * q + 3) 4 = 0) (hc3 : K' (300 + 40 * q + 3) 3 = 0) (hc4 : M' (300 + 40 * q + 8) 1 = 0) (hA : RAs M' q)
    (hs : M' 238 q = 0) (hd : ∃ d, d < 8 ∧ M' 235 q = nI d) (hk : M' 242 q = 1 ∨ M' 242 q = 3 ∨ M' 242 q = 5 ∨ M' 242 q = 7 ∨ M' 242 q = 9 ∨ M' 242 q = 11) (hz : M' 242 q ≠ 1 → ∀ l, l < 8 → fz q l ≠ none) (h7 : M' 242 q = 7 → lcs M (fz q) (M' 244 q).toInt (M' 245 q).toInt 8 ≤ 64) (h9 : VKd (M' 232 q) (M' 242 q) (M' 240 q))
    (hts : ∀ tq sq, M 236 q = nI tq → M 237 q = nI sq → tq ≤ b → sq ≤ b → ∃ tq' sq', M' 236 q = nI tq' ∧ M' 237 q = nI sq' ∧ ((tq' = tq ∧ sq' = sq + 1) ∨ (tq' = tq + 1 ∧ sq' = 1))) :
    R4 M' K' ex (b + 1) sz c pi am fz (fun p => if p = q then fun _ => false else cm p) gc nu N := by
  have hM2 := hM
  unfold stQ at hM2
  have hh := h
  obtain ⟨h0, h1, h2, ⟨a1, a2, a3, a4, a5, a6⟩, h4⟩ := hh
  obtain ⟨v1, tq, sq, w1, w2, w3, w4, w5⟩ := h4.2 q hq hn
  obtain ⟨tq', sq', x1, x2, x3⟩ := hts tq sq w3 w4 w1 w2
  obtain ⟨b1, b2, b3, b4, b5, b6⟩ := (a6 q hq).1 he
  have fin := q_upd (M' := M') (K' := K') (ex' := ex) (b' := b + 1) (N' := N) (u := nu q) (f' := fz q) (m' := fun _ => false) (g' := gc q) h hq (fun d k hd => hM d k (by unfold inQ own at hd; unfold stQ; omega)) (fun d k hd d1 d2 => hK d k (by unfold inQ own at hd; unfold stQ; omega) d1 d2) (fun _ _ => rfl) he (by omega) (Nat.le_refl N) (by omega) a3
    (by rw [hM2 _ _ (by omega)]; exact a1) (by rw [hM2 _ _ (by omega)]; exact a2) (by rw [hM2 _ _ (by omega)]; exact (a4 q hq).1) (a4 q hq).2 (fun p hp hne e => by
      by_cases e0 : 0 < nu p
      · exact absurd (a5 p q hp hq e e0) hne
      · omega)
    ⟨hf, fun l hl => (b2 l hl).congr2 hl (fun d k hd => hM2 d k (by omega)), ⟨fun l hl => hc1 l hl, by rw [hc2, cmN_0]; rfl, by rw [hc3, cmS_0], fun l hl e => absurd e Bool.false_ne_true⟩, fun _ => ⟨fun l hl e => absurd e Bool.false_ne_true, 0, by omega, by rw [hc4]; rfl, fun i j hi hj => by omega, fun φ => (pu_rows_0 φ _ 8).symm⟩, fun _ => hA, fun e => by rw [hs] at e; exact absurd e (by decide)⟩
    (fun _ => ⟨⟨Or.inl hs, ⟨hd, by rw [hM2 232 _ (by omega)]; exact v1.2.1.2⟩, fun _ => ⟨hk, hz, fun l hl e => absurd e Bool.false_ne_true, fun e => by rw [lcs.congr (fun k => hM2 229 k (by omega))]; exact h7 e, h9⟩⟩, tq', sq', by omega, by omega, x1, x2, fun i hi e => by
      rw [hM2 _ _ (by omega), ← (a4 q hq).1] at e
      exact (w5 i hi e).old (fun k => hM2 _ _ (by omega)) (fun k => hM2 _ _ (by omega)) (fun k => hM2 _ _ (by omega)) x3⟩)
  rw [ite_eta, ite_eta, ite_eta] at fin
  exact fin
end STEP
section ALL
variable {S : gS} {A : Nat → Nat} {ex : Nat → Bool} {b N : Nat} {sz pi nu : Nat → Nat} {fz : Nat → Nat → Option Nat} {cm : Nat → Nat → Bool} {gc : Nat → Nat → Nat}
theorem clear_loop (hL : Lay S A ex) {q : Nat} (hq : q < 8) (he : ex q = true) {J : gMJ} : ∀ (g i n : Nat) (I : gMI), i + g = 8 → g < n → ∃ I', f_Replies_clear_b2 S n I J (A (300 + 40 * q + 3)) (nI i) = some (I', upJ J (A (300 + 40 * q + 3)) 3 0) ∧ (∀ l, i ≤ l → l < 8 → I' (A (300 + 40 * q + 6)) l = 0) ∧ I' (A (300 + 40 * q + 3)) 4 = 0 ∧ I' (A (300 + 40 * q + 8)) 1 = 0 ∧ ∀ d k, ¬ (d = 300 + 40 * q + 6 ∧ i ≤ k ∧ k < 8) → ¬ (d = 300 + 40 * q + 3 ∧ k = 4) → ¬ (d = 300 + 40 * q + 8 ∧ k = 1) → I' (A d) k = I (A d) k := by
  obtain ⟨-, -, -, -, ⟨u0, u1, u2, u3⟩, -, -, ⟨v0, v1⟩, -, -, ⟨w0, w1⟩⟩ := (hL.qy hq he).2
  intro g
  induction g with
  | zero =>
    intro i n I hi hn
    obtain ⟨n, rfl⟩ : ∃ k, n = k + 1 := ⟨n - 1, by omega⟩
    refine ⟨upI (upI I (A (300 + 40 * q + 8)) 1 0) (A (300 + 40 * q + 3)) 4 0, ?_, fun l h1 h2 => by omega, ev_uE, by rw [ev_uI hL (by omega), ev_uE], fun d k d1 d2 d3 => by rw [ev_uI hL (by omega), ev_uI hL (by omega)]⟩
    simp (disch := omega) only [f_Replies_clear_b2, u0, ↓ob_h u3, w0, ↓bnd_in, ↓Option.bind_some, ↓bd2_some, ↓bd3_some, ↓bd4_some, ↓ew_mr hL, ↓ew_00 hL, ↓ew_01 hL, ↓ew_02 hL, ↓ew_1r hL, ↓ew_lr hL, ↓ew_30 hL, ↓ew_31 hL, ↓ew_4r hL, ↓ew_ltr hL, ↓gd_m hL, ↓gd_0 hL, gd_t, Option.bind_some, bd2_some, bd3_some, bd4_some, gm_some, gm_none, ↓reduceIte, or_self, or_false, false_or, or_true, true_or, and_self, and_true, true_and, and_false, false_and, not_false_eq_true, not_true_eq_false, Nat.reduceAdd, Nat.reduceMul, Int32.reduceLT, Int32.reduceLE, eq_self, ev_lit, ev_10, Int32.reduceToNatClampNeg, Nat.reduceLeDiff, Nat.reduceEqDiff, Nat.reduceLT, nI_clamp, ev_ng, ev_L1, ev_L2, ev_L3, ev_K1, ev_K2, ev_K3, ev_K4, ev_K5, ev_a1, ev_m1, ev_s1, ev_s2, nI_add, ev_nle, ev_le, ev_lt, ev_nlt, ev_ne, ev_eq, ev_uI hL, ev_uJ hL, ev_m hL, ev_mr hL, ev_mt hL, ev_mz hL, ev_mj hL, ev_n8 hL, ev_n64 hL, ev_n229 hL, ev_n254 hL, ev_n257 hL, ev_n259 hL, ev_n260 hL, ev_n261 hL, ev_0 hL, ev_00 hL, ev_01 hL, ev_02 hL, ev_1 hL, ev_1n hL, ev_1r hL, ev_lg hL, ev_lr hL, ev_sr hL, ev_2 hL, ev_2n hL, ev_3 hL, ev_30 hL, ev_31 hL, ev_4 hL, ev_4n hL, ev_5 hL, ev_5n hL, ev_4r hL, ev_lt1 hL, ev_ltr hL, ev_lnt hL, ev_lnn hL, ev_7 hL, ev_7n hL, ev_uE, ev_uK]
  | succ g ih =>
    intro i n I hi hn
    obtain ⟨n, rfl⟩ : ∃ k, n = k + 1 := ⟨n - 1, by omega⟩
    obtain ⟨I', s1, s2, s3, s4, s5⟩ := ih (i + 1) n (upI I (A (300 + 40 * q + 6)) i 0) (by omega) (by omega)
    refine ⟨I', ?_, fun l h1 h2 => ?_, s3, s4, fun d k d1 d2 d3 => by rw [s5 _ _ (by omega) d2 d3, ev_uI hL (by omega)]⟩
    · simp (disch := omega) only [f_Replies_clear_b2, u0, ↓ob_h u1, v0, v1, ↓bnd_in, ↓Option.bind_some, ↓bd2_some, ↓bd3_some, ↓bd4_some, ↓ew_mr hL, ↓ew_00 hL, ↓ew_01 hL, ↓ew_02 hL, ↓ew_1r hL, ↓ew_lr hL, ↓ew_30 hL, ↓ew_31 hL, ↓ew_4r hL, ↓ew_ltr hL, ↓gd_m hL, ↓gd_0 hL, gd_t, Option.bind_some, bd2_some, bd3_some, bd4_some, gm_some, gm_none, ↓reduceIte, or_self, or_false, false_or, or_true, true_or, and_self, and_true, true_and, and_false, false_and, not_false_eq_true, not_true_eq_false, Nat.reduceAdd, Nat.reduceMul, Int32.reduceLT, Int32.reduceLE, eq_self, ev_lit, ev_10, Int32.reduceToNatClampNeg, Nat.reduceLeDiff, Nat.reduceEqDiff, Nat.reduceLT, nI_clamp, ev_ng, ev_L1, ev_L2, ev_L3, ev_K1, ev_K2, ev_K3, ev_K4, ev_K5, ev_a1, ev_m1, ev_s1, ev_s2, nI_add, ev_nle, ev_le, ev_lt, ev_nlt, ev_ne, ev_eq, ev_uI hL, ev_uJ hL, ev_m hL, ev_mr hL, ev_mt hL, ev_mz hL, ev_mj hL, ev_n8 hL, ev_n64 hL, ev_n229 hL, ev_n254 hL, ev_n257 hL, ev_n259 hL, ev_n260 hL, ev_n261 hL, ev_0 hL, ev_00 hL, ev_01 hL, ev_02 hL, ev_1 hL, ev_1n hL, ev_1r hL, ev_lg hL, ev_lr hL, ev_sr hL, ev_2 hL, ev_2n hL, ev_3 hL, ev_30 hL, ev_31 hL, ev_4 hL, ev_4n hL, ev_5 hL, ev_5n hL, ev_4r hL, ev_lt1 hL, ev_ltr hL, ev_lnt hL, ev_lnn hL, ev_7 hL, ev_7n hL, ev_uE, ev_uK]
      exact s1
    · by_cases e : l = i
      · rw [s5 _ _ (by omega) (by omega) (by omega), e, ev_uE]
      · exact s2 l (by omega) h2
theorem begin_step (hL : Lay S A ex) {q : Nat} (hq : q < 8) (he : ex q = true) (I : gMI) (J : gMJ) : ∃ I', f_Question_beginStep S I J (A (300 + 40 * q)) = some (I', upJ J (A (300 + 40 * q + 3)) 3 0) ∧ I' (A (300 + 40 * q)) 12 = I (A (300 + 40 * q)) 12 + 1 ∧ (∀ l, l < 8 → I' (A (300 + 40 * q + 6)) l = 0) ∧ I' (A (300 + 40 * q + 3)) 4 = 0 ∧ I' (A (300 + 40 * q + 8)) 1 = 0 ∧ ∀ d k, ¬ (d = 300 + 40 * q ∧ k = 12) → ¬ (d = 300 + 40 * q + 6 ∧ k < 8) → ¬ (d = 300 + 40 * q + 3 ∧ k = 4) → ¬ (d = 300 + 40 * q + 8 ∧ k = 1) → I' (A d) k = I (A d) k := by
  obtain ⟨⟨t0, t1, t2, t3, t4, t5⟩, -, -, -, ⟨u0, u1, u2, u3⟩, -⟩ := (hL.qy hq he).2
  obtain ⟨I', s1, s2, s3, s4, s5⟩ := clear_loop (J := J) hL hq he 8 0 gFuel (upI I (A (300 + 40 * q)) 12 (I (A (300 + 40 * q)) 12 + 1)) (by omega) (by unfold gFuel; omega)
  refine ⟨I', ?_, by rw [s5 _ _ (by omega) (by omega) (by omega), ev_uE], fun l hl => s2 l (by omega) hl, s3, s4, fun d k d1 d2 d3 d4 => by rw [s5 _ _ (by omega) d3 d4, ev_uI hL (by omega)]⟩
  have s1' : f_Replies_clear S (upI I (A (300 + 40 * q)) 12 (I (A (300 + 40 * q)) 12 + 1)) J (A (300 + 40 * q + 3)) = some (I', upJ J (A (300 + 40 * q + 3)) 3 0) := s1
  rw [f_Question_beginStep, gd_in t0, bnd, t3, Option.bind_some, gd_in u0, b2_h s1']
/-- the reference's loop that forgets who came -/
theorem aa_b19 (hL : Lay S A ex) {q : Nat} (hq : q < 8) {J : gMJ} {kd : Int32} : ∀ (g i n : Nat) (I : gMI), i + g = 8 → g < n → ∃ I', f_M_askAll_b19 S n I J (A 6) (nI q) kd (nI i) = (bd2 (f_M_readyAsk S I' J (A 6) (nI q)) fun I3 J4 => f_M_askAll_b50 S gFuel I3 J4 (A 6) (nI q) kd (0 : Int32)) ∧ (∀ l, i ≤ l → l < 8 → I' (A 253) (8 * q + l) = 0) ∧ ∀ d k, ¬ (d = 253 ∧ 8 * q + i ≤ k ∧ k < 8 * q + 8) → I' (A d) k = I (A d) k := by
  intro g
  induction g with
  | zero =>
    intro i n I hi hn
    obtain ⟨n, rfl⟩ : ∃ k, n = k + 1 := ⟨n - 1, by omega⟩
    refine ⟨I, ?_, fun l h1 h2 => by omega, fun _ _ _ => rfl⟩
    rw [f_M_askAll_b19, if_pos (by rw [ev_K2 (by omega) (by decide)]; omega), gd_in (ev_m hL)]
  | succ g ih =>
    intro i n I hi hn
    obtain ⟨n, rfl⟩ : ∃ k, n = k + 1 := ⟨n - 1, by omega⟩
    obtain ⟨I', s1, s2, s3⟩ := ih (i + 1) n (upI I (A 253) (8 * q + i) 0) (by omega) (by omega)
    refine ⟨I', ?_, fun l h1 h2 => ?_, fun d k d1 => by rw [s3 _ _ (by omega), ev_uI hL (by omega)]⟩
    · rw [← s1]
      simp (disch := omega) only [f_M_askAll_b19, ↓bnd_in, ↓Option.bind_some, ↓bd2_some, ↓bd3_some, ↓bd4_some, ↓ew_mr hL, ↓ew_00 hL, ↓ew_01 hL, ↓ew_02 hL, ↓ew_1r hL, ↓ew_lr hL, ↓ew_30 hL, ↓ew_31 hL, ↓ew_4r hL, ↓ew_ltr hL, ↓gd_m hL, ↓gd_0 hL, gd_t, Option.bind_some, bd2_some, bd3_some, bd4_some, gm_some, gm_none, ↓reduceIte, or_self, or_false, false_or, or_true, true_or, and_self, and_true, true_and, and_false, false_and, not_false_eq_true, not_true_eq_false, Nat.reduceAdd, Nat.reduceMul, Int32.reduceLT, Int32.reduceLE, eq_self, ev_lit, ev_10, Int32.reduceToNatClampNeg, Nat.reduceLeDiff, Nat.reduceEqDiff, Nat.reduceLT, nI_clamp, ev_ng, ev_L1, ev_L2, ev_L3, ev_K1, ev_K2, ev_K3, ev_K4, ev_K5, ev_a1, ev_m1, ev_s1, ev_s2, nI_add, ev_nle, ev_le, ev_lt, ev_nlt, ev_ne, ev_eq, ev_uI hL, ev_uJ hL, ev_m hL, ev_mr hL, ev_mt hL, ev_mz hL, ev_mj hL, ev_n8 hL, ev_n64 hL, ev_n229 hL, ev_n254 hL, ev_n257 hL, ev_n259 hL, ev_n260 hL, ev_n261 hL, ev_0 hL, ev_00 hL, ev_01 hL, ev_02 hL, ev_1 hL, ev_1n hL, ev_1r hL, ev_lg hL, ev_lr hL, ev_sr hL, ev_2 hL, ev_2n hL, ev_3 hL, ev_30 hL, ev_31 hL, ev_4 hL, ev_4n hL, ev_5 hL, ev_5n hL, ev_4r hL, ev_lt1 hL, ev_ltr hL, ev_lnt hL, ev_lnn hL, ev_7 hL, ev_7n hL, ev_uE, ev_uK]
    · by_cases e : l = i
      · rw [s3 _ _ (by omega), e, ev_uE]
      · exact s2 l (by omega) h2
/-- all are asked: class, and the reference's askAll -/
theorem aa_loop (hL : Lay S A ex) (hb : b < 2 ^ 30) {q na : Nat} {kd : Int32} (hq : q < 8) (he : ex q = true) (hn : 0 < nu q) (hcm : ∀ l, l < 8 → cm q l = false) : ∀ (g to n m : Nat) (cnt : Int32) (Ic : gMI) (Jc : gMJ) (Ir : gMI) (Jr : gMJ) (c : Nat) (am : Nat → Nat), to + g = 8 → g < n → g < m → R4 (mI A Ic Ir) (mJ A Jc Jr) ex b sz c pi am fz cm gc nu N → Ir (A 238) q = 0 → Ir (A 242) q = kd → RDY A q na Ic Ir Jr → ∃ r Ic' Jc' Ir' Jr' c' am', f_H_askThoseLeft_b4 S n Ic Jc (A 0) (A (300 + 40 * q)) cnt (nI to) = some (r, Ic', Jc') ∧ f_M_askAll_b50 S m Ir Jr (A 6) (nI q) kd (nI to) = some (Ir', Jr') ∧ R4 (mI A Ic' Ir') (mJ A Jc' Jr') ex b sz c' pi am' fz cm gc nu N ∧ FrC A Ic Ic' ∧ FrC A Jc Jc' ∧ FrR A Ir Ir' ∧ FrR A Jr Jr' ∧ Ir' (A 6) 0 = Ir (A 6) 0 := by
  obtain ⟨⟨t0, t1, t2, t3, t4, t5⟩, -, -, -, ⟨u0, u1, u2, u3⟩, -, -, ⟨v0, v1⟩, -⟩ := (hL.qy hq he).2
  intro g
  induction g with
  | zero =>
    intro to n m cnt Ic Jc Ir Jr c am ht hn' hm h hs hkd hR
    obtain ⟨n, rfl⟩ : ∃ k, n = k + 1 := ⟨n - 1, by omega⟩
    obtain ⟨m, rfl⟩ : ∃ k, m = k + 1 := ⟨m - 1, by omega⟩
    refine ⟨cnt, Ic, Jc, Ir, Jr, c, am, ?_, ?_, h, FrC.rfl, FrC.rfl, FrR.rfl, FrR.rfl, rfl⟩
    · simp (disch := omega) only [f_H_askThoseLeft_b4, ↓bnd_in, ↓Option.bind_some, ↓bd2_some, ↓bd3_some, ↓bd4_some, ↓ew_mr hL, ↓ew_00 hL, ↓ew_01 hL, ↓ew_02 hL, ↓ew_1r hL, ↓ew_lr hL, ↓ew_30 hL, ↓ew_31 hL, ↓ew_4r hL, ↓ew_ltr hL, ↓gd_m hL, ↓gd_0 hL, gd_t, Option.bind_some, bd2_some, bd3_some, bd4_some, gm_some, gm_none, ↓reduceIte, or_self, or_false, false_or, or_true, true_or, and_self, and_true, true_and, and_false, false_and, not_false_eq_true, not_true_eq_false, Nat.reduceAdd, Nat.reduceMul, Int32.reduceLT, Int32.reduceLE, eq_self, ev_lit, ev_10, Int32.reduceToNatClampNeg, Nat.reduceLeDiff, Nat.reduceEqDiff, Nat.reduceLT, nI_clamp, ev_ng, ev_L1, ev_L2, ev_L3, ev_K1, ev_K2, ev_K3, ev_K4, ev_K5, ev_a1, ev_m1, ev_s1, ev_s2, nI_add, ev_nle, ev_le, ev_lt, ev_nlt, ev_ne, ev_eq, ev_uI hL, ev_uJ hL, ev_m hL, ev_mr hL, ev_mt hL, ev_mz hL, ev_mj hL, ev_n8 hL, ev_n64 hL, ev_n229 hL, ev_n254 hL, ev_n257 hL, ev_n259 hL, ev_n260 hL, ev_n261 hL, ev_0 hL, ev_00 hL, ev_01 hL, ev_02 hL, ev_1 hL, ev_1n hL, ev_1r hL, ev_lg hL, ev_lr hL, ev_sr hL, ev_2 hL, ev_2n hL, ev_3 hL, ev_30 hL, ev_31 hL, ev_4 hL, ev_4n hL, ev_5 hL, ev_5n hL, ev_4r hL, ev_lt1 hL, ev_ltr hL, ev_lnt hL, ev_lnn hL, ev_7 hL, ev_7n hL, ev_uE, ev_uK]
    · simp (disch := omega) only [f_M_askAll_b50, ↓bnd_in, ↓Option.bind_some, ↓bd2_some, ↓bd3_some, ↓bd4_some, ↓ew_mr hL, ↓ew_00 hL, ↓ew_01 hL, ↓ew_02 hL, ↓ew_1r hL, ↓ew_lr hL, ↓ew_30 hL, ↓ew_31 hL, ↓ew_4r hL, ↓ew_ltr hL, ↓gd_m hL, ↓gd_0 hL, gd_t, Option.bind_some, bd2_some, bd3_some, bd4_some, gm_some, gm_none, ↓reduceIte, or_self, or_false, false_or, or_true, true_or, and_self, and_true, true_and, and_false, false_and, not_false_eq_true, not_true_eq_false, Nat.reduceAdd, Nat.reduceMul, Int32.reduceLT, Int32.reduceLE, eq_self, ev_lit, ev_10, Int32.reduceToNatClampNeg, Nat.reduceLeDiff, Nat.reduceEqDiff, Nat.reduceLT, nI_clamp, ev_ng, ev_L1, ev_L2, ev_L3, ev_K1, ev_K2, ev_K3, ev_K4, ev_K5, ev_a1, ev_m1, ev_s1, ev_s2, nI_add, ev_nle, ev_le, ev_lt, ev_nlt, ev_ne, ev_eq, ev_uI hL, ev_uJ hL, ev_m hL, ev_mr hL, ev_mt hL, ev_mz hL, ev_mj hL, ev_n8 hL, ev_n64 hL, ev_n229 hL, ev_n254 hL, ev_n257 hL, ev_n259 hL, ev_n260 hL, ev_n261 hL, ev_0 hL, ev_00 hL, ev_01 hL, ev_02 hL, ev_1 hL, ev_1n hL, ev_1r hL, ev_lg hL, ev_lr hL, ev_sr hL, ev_2 hL, ev_2n hL, ev_3 hL, ev_30 hL, ev_31 hL, ev_4 hL, ev_4n hL, ev_5 hL, ev_5n hL, ev_4r hL, ev_lt1 hL, ev_ltr hL, ev_lnt hL, ev_lnn hL, ev_7 hL, ev_7n hL, ev_uE, ev_uK]
  | succ g ih =>
    intro to n m cnt Ic Jc Ir Jr c am ht hn' hm h hs hkd hR
    obtain ⟨n, rfl⟩ : ∃ k, n = k + 1 := ⟨n - 1, by omega⟩
    obtain ⟨m, rfl⟩ : ∃ k, m = k + 1 := ⟨m - 1, by omega⟩
    obtain ⟨e1, e2⟩ := h.came hq he (show to < 8 by omega)
    have e3 := h.num hq
    rw [hcm to (by omega), if_neg (by decide)] at e1 e2
    obtain ⟨s, Ic1, Ic2, Jc2, Ir2, Jr2, c2, am2, z1, z2, z3, z4, z5, z6, z7, z8, z9, z10, z11⟩ := ask_one hL hb hq he hn h hs hR (show to < 8 by omega)
    obtain ⟨r, Ic', Jc', Ir', Jr', c', am', s1, s2, s3, s4, s5, s6, s7, s8⟩ := ih (to + 1) n m (cnt + 1) Ic2 Jc2 Ir2 Jr2 c2 am2 (by omega) (by omega) (by omega) z4 (by rw [z10 _ _ (by omega) (by omega)]; exact hs) (by rw [z10 _ _ (by omega) (by omega)]; exact hkd) z5
    refine ⟨r, Ic', Jc', Ir', Jr', c', am', ?_, ?_, s3, z6.trans s4, z7.trans s5, z8.trans s6, z9.trans s7, s8.trans z11⟩
    · cases s with
      | none =>
        simp (disch := omega) only [f_H_askThoseLeft_b4, t0, ↓ob_h t3, u0, ↓ob_h u1, v0, v1, e1, f_H_askThoseLeft_b37, ↓b2_h z1, ↓gm_none, ↓b2_h z2, ↓bnd_in, ↓Option.bind_some, ↓bd2_some, ↓bd3_some, ↓bd4_some, ↓ew_mr hL, ↓ew_00 hL, ↓ew_01 hL, ↓ew_02 hL, ↓ew_1r hL, ↓ew_lr hL, ↓ew_30 hL, ↓ew_31 hL, ↓ew_4r hL, ↓ew_ltr hL, ↓gd_m hL, ↓gd_0 hL, gd_t, Option.bind_some, bd2_some, bd3_some, bd4_some, gm_some, gm_none, ↓reduceIte, or_self, or_false, false_or, or_true, true_or, and_self, and_true, true_and, and_false, false_and, not_false_eq_true, not_true_eq_false, Nat.reduceAdd, Nat.reduceMul, Int32.reduceLT, Int32.reduceLE, eq_self, ev_lit, ev_10, Int32.reduceToNatClampNeg, Nat.reduceLeDiff, Nat.reduceEqDiff, Nat.reduceLT, nI_clamp, ev_ng, ev_L1, ev_L2, ev_L3, ev_K1, ev_K2, ev_K3, ev_K4, ev_K5, ev_a1, ev_m1, ev_s1, ev_s2, nI_add, ev_nle, ev_le, ev_lt, ev_nlt, ev_ne, ev_eq, ev_uI hL, ev_uJ hL, ev_m hL, ev_mr hL, ev_mt hL, ev_mz hL, ev_mj hL, ev_n8 hL, ev_n64 hL, ev_n229 hL, ev_n254 hL, ev_n257 hL, ev_n259 hL, ev_n260 hL, ev_n261 hL, ev_0 hL, ev_00 hL, ev_01 hL, ev_02 hL, ev_1 hL, ev_1n hL, ev_1r hL, ev_lg hL, ev_lr hL, ev_sr hL, ev_2 hL, ev_2n hL, ev_3 hL, ev_30 hL, ev_31 hL, ev_4 hL, ev_4n hL, ev_5 hL, ev_5n hL, ev_4r hL, ev_lt1 hL, ev_ltr hL, ev_lnt hL, ev_lnn hL, ev_7 hL, ev_7n hL, ev_uE, ev_uK]
        exact s1
      | some r15 =>
        simp (disch := omega) only [f_H_askThoseLeft_b4, t0, ↓ob_h t3, u0, ↓ob_h u1, v0, v1, e1, f_H_askThoseLeft_b37, ↓b2_h z1, ↓gm_some, ↓b2_h z2, ↓bnd_in, ↓Option.bind_some, ↓bd2_some, ↓bd3_some, ↓bd4_some, ↓ew_mr hL, ↓ew_00 hL, ↓ew_01 hL, ↓ew_02 hL, ↓ew_1r hL, ↓ew_lr hL, ↓ew_30 hL, ↓ew_31 hL, ↓ew_4r hL, ↓ew_ltr hL, ↓gd_m hL, ↓gd_0 hL, gd_t, Option.bind_some, bd2_some, bd3_some, bd4_some, gm_some, gm_none, ↓reduceIte, or_self, or_false, false_or, or_true, true_or, and_self, and_true, true_and, and_false, false_and, not_false_eq_true, not_true_eq_false, Nat.reduceAdd, Nat.reduceMul, Int32.reduceLT, Int32.reduceLE, eq_self, ev_lit, ev_10, Int32.reduceToNatClampNeg, Nat.reduceLeDiff, Nat.reduceEqDiff, Nat.reduceLT, nI_clamp, ev_ng, ev_L1, ev_L2, ev_L3, ev_K1, ev_K2, ev_K3, ev_K4, ev_K5, ev_a1, ev_m1, ev_s1, ev_s2, nI_add, ev_nle, ev_le, ev_lt, ev_nlt, ev_ne, ev_eq, ev_uI hL, ev_uJ hL, ev_m hL, ev_mr hL, ev_mt hL, ev_mz hL, ev_mj hL, ev_n8 hL, ev_n64 hL, ev_n229 hL, ev_n254 hL, ev_n257 hL, ev_n259 hL, ev_n260 hL, ev_n261 hL, ev_0 hL, ev_00 hL, ev_01 hL, ev_02 hL, ev_1 hL, ev_1n hL, ev_1r hL, ev_lg hL, ev_lr hL, ev_sr hL, ev_2 hL, ev_2n hL, ev_3 hL, ev_30 hL, ev_31 hL, ev_4 hL, ev_4n hL, ev_5 hL, ev_5n hL, ev_4r hL, ev_lt1 hL, ev_ltr hL, ev_lnt hL, ev_lnn hL, ev_7 hL, ev_7n hL, ev_uE, ev_uK]
        exact s1
    · rw [hkd] at z3
      simp (disch := omega) only [f_M_askAll_b50, e3, ↓b2_h z3, ↓bnd_in, ↓Option.bind_some, ↓bd2_some, ↓bd3_some, ↓bd4_some, ↓ew_mr hL, ↓ew_00 hL, ↓ew_01 hL, ↓ew_02 hL, ↓ew_1r hL, ↓ew_lr hL, ↓ew_30 hL, ↓ew_31 hL, ↓ew_4r hL, ↓ew_ltr hL, ↓gd_m hL, ↓gd_0 hL, gd_t, Option.bind_some, bd2_some, bd3_some, bd4_some, gm_some, gm_none, ↓reduceIte, or_self, or_false, false_or, or_true, true_or, and_self, and_true, true_and, and_false, false_and, not_false_eq_true, not_true_eq_false, Nat.reduceAdd, Nat.reduceMul, Int32.reduceLT, Int32.reduceLE, eq_self, ev_lit, ev_10, Int32.reduceToNatClampNeg, Nat.reduceLeDiff, Nat.reduceEqDiff, Nat.reduceLT, nI_clamp, ev_ng, ev_L1, ev_L2, ev_L3, ev_K1, ev_K2, ev_K3, ev_K4, ev_K5, ev_a1, ev_m1, ev_s1, ev_s2, nI_add, ev_nle, ev_le, ev_lt, ev_nlt, ev_ne, ev_eq, ev_uI hL, ev_uJ hL, ev_m hL, ev_mr hL, ev_mt hL, ev_mz hL, ev_mj hL, ev_n8 hL, ev_n64 hL, ev_n229 hL, ev_n254 hL, ev_n257 hL, ev_n259 hL, ev_n260 hL, ev_n261 hL, ev_0 hL, ev_00 hL, ev_01 hL, ev_02 hL, ev_1 hL, ev_1n hL, ev_1r hL, ev_lg hL, ev_lr hL, ev_sr hL, ev_2 hL, ev_2n hL, ev_3 hL, ev_30 hL, ev_31 hL, ev_4 hL, ev_4n hL, ev_5 hL, ev_5n hL, ev_4r hL, ev_lt1 hL, ev_ltr hL, ev_lnt hL, ev_lnn hL, ev_7 hL, ev_7n hL, ev_uE, ev_uK]
      exact s2
/-- a step begun and all asked, where the state after its beginning is as it should be -/
theorem ask_all (hL : Lay S A ex) (hb : b < 2 ^ 30) {q c : Nat} {am : Nat → Nat} {kd : Int32} {Ic Ir : gMI} {Jc Jr : gMJ} (hq : q < 8) (he : ex q = true) (hn : 0 < nu q) (hcm : ∀ l, l < 8 → cm q l = false)
    (H : ∀ Ic1 Ir1, Ic1 (A (300 + 40 * q)) 12 = Ic (A (300 + 40 * q)) 12 + 1 → (∀ l, l < 8 → Ic1 (A (300 + 40 * q + 6)) l = 0) → Ic1 (A (300 + 40 * q + 3)) 4 = 0 → Ic1 (A (300 + 40 * q + 8)) 1 = 0 → (∀ d k, ¬ (d = 300 + 40 * q ∧ k = 12) → ¬ (d = 300 + 40 * q + 6 ∧ k < 8) → ¬ (d = 300 + 40 * q + 3 ∧ k = 4) → ¬ (d = 300 + 40 * q + 8 ∧ k = 1) → Ic1 (A d) k = Ic (A d) k) → Ir1 (A 242) q = kd → Ir1 (A 237) q = Ir (A 237) q + 1 → (∀ l, l < 8 → Ir1 (A 253) (8 * q + l) = 0) → (∀ d k, ¬ (d = 242 ∧ k = q) → ¬ (d = 237 ∧ k = q) → ¬ (d = 253 ∧ 8 * q ≤ k ∧ k < 8 * q + 8) → Ir1 (A d) k = Ir (A d) k) → R4 (mI A Ic1 Ir1) (mJ A (upJ Jc (A (300 + 40 * q + 3)) 3 0) Jr) ex b sz c pi am fz cm gc nu N ∧ Ir1 (A 238) q = 0) :
    ∃ Ic' Jc' Ir' Jr' c' am', f_H_askAll S Ic Jc (A 0) (A (300 + 40 * q)) = some (Ic', Jc') ∧ f_M_askAll S Ir Jr (A 6) (nI q) kd = some (Ir', Jr') ∧ R4 (mI A Ic' Ir') (mJ A Jc' Jr') ex b sz c' pi am' fz cm gc nu N ∧ FrC A Ic Ic' ∧ FrC A Jc Jc' ∧ FrR A Ir Ir' ∧ FrR A Jr Jr' ∧ Ir' (A 6) 0 = Ir (A 6) 0 := by
  have t0 := (hL.qy hq he).2.1.1
  obtain ⟨Ic1, x1, x2, x3, x4, x5, x6⟩ := begin_step hL hq he Ic Jc
  obtain ⟨Ir1, y1, y2, y3⟩ := aa_b19 (J := Jr) (kd := kd) hL hq 8 0 gFuel (upI (upI Ir (A 242) q kd) (A 237) q (Ir (A 237) q + 1)) (by omega) (by unfold gFuel; omega)
  obtain ⟨h, hs⟩ := H Ic1 Ir1 x2 x3 x4 x5 x6 (by rw [y3 _ _ (by omega), ev_uI hL (by omega), ev_uE]) (by rw [y3 _ _ (by omega), ev_uE]) (fun l hl => y2 l (by omega) hl) (fun d k d1 d2 d3 => by rw [y3 _ _ (by omega), ev_uI hL (by omega), ev_uI hL (by omega)])
  obtain ⟨na, Ir2, r1, r2, r3⟩ := rdy_ask hL hq he hn h hs
  have h2 : R4 (mI A Ic1 Ir2) (mJ A (upJ Jc (A (300 + 40 * q + 3)) 3 0) (upJ Jr (A 6) 38 0)) ex b sz c pi am fz cm gc nu N := h.buf (fun d k d1 d2 => by
      by_cases e : d = 6 ∨ (226 ≤ d ∧ d < 263)
      · rw [mI_r e, mI_r e, r3 _ _ (by omega) (by omega)]
      · rw [mI_c e, mI_c e]) (fun d k d1 d2 => by
      by_cases e : d = 6 ∨ (226 ≤ d ∧ d < 263)
      · rw [mJ_r e, mJ_r e, ev_uJ hL (by omega)]
      · rw [mJ_c e, mJ_c e])
  obtain ⟨r, Ic', Jc', Ir', Jr', c', am', s1, s2, s3, s4, s5, s6, s7, s8⟩ := aa_loop (kd := kd) hL hb hq he hn hcm 8 0 gFuel gFuel 0 Ic1 _ Ir2 _ c am (by omega) (by unfold gFuel; omega) (by unfold gFuel; omega) h2 (by rw [r3 _ _ (by omega) (by omega)]; exact hs) (by rw [r3 _ _ (by omega) (by omega), y3 _ _ (by omega), ev_uI hL (by omega), ev_uE]) r2
  rw [show nI 0 = (0 : Int32) from rfl] at s1 s2 y1
  have s1' : f_H_askThoseLeft S Ic1 (upJ Jc (A (300 + 40 * q + 3)) 3 0) (A 0) (A (300 + 40 * q)) = some (r, Ic', Jc') := s1
  refine ⟨Ic', Jc', Ir', Jr', c', am', ?_, ?_, s3, fun d k hd => ?_, fun d k hd => ?_, fun d k hd => ?_, fun d k hd => ?_, ?_⟩
  · rw [f_H_askAll, gd_in t0, b2_h x1, gd_0 hL, b3_h s1']
  · simp (disch := omega) only [f_M_askAll, ↓bnd_in, ↓Option.bind_some, ↓bd2_some, ↓bd3_some, ↓bd4_some, ↓ew_mr hL, ↓ew_00 hL, ↓ew_01 hL, ↓ew_02 hL, ↓ew_1r hL, ↓ew_lr hL, ↓ew_30 hL, ↓ew_31 hL, ↓ew_4r hL, ↓ew_ltr hL, ↓gd_m hL, ↓gd_0 hL, gd_t, Option.bind_some, bd2_some, bd3_some, bd4_some, gm_some, gm_none, ↓reduceIte, or_self, or_false, false_or, or_true, true_or, and_self, and_true, true_and, and_false, false_and, not_false_eq_true, not_true_eq_false, Nat.reduceAdd, Nat.reduceMul, Int32.reduceLT, Int32.reduceLE, eq_self, ev_lit, ev_10, Int32.reduceToNatClampNeg, Nat.reduceLeDiff, Nat.reduceEqDiff, Nat.reduceLT, nI_clamp, ev_ng, ev_L1, ev_L2, ev_L3, ev_K1, ev_K2, ev_K3, ev_K4, ev_K5, ev_a1, ev_m1, ev_s1, ev_s2, nI_add, ev_nle, ev_le, ev_lt, ev_nlt, ev_ne, ev_eq, ev_uI hL, ev_uJ hL, ev_m hL, ev_mr hL, ev_mt hL, ev_mz hL, ev_mj hL, ev_n8 hL, ev_n64 hL, ev_n229 hL, ev_n254 hL, ev_n257 hL, ev_n259 hL, ev_n260 hL, ev_n261 hL, ev_0 hL, ev_00 hL, ev_01 hL, ev_02 hL, ev_1 hL, ev_1n hL, ev_1r hL, ev_lg hL, ev_lr hL, ev_sr hL, ev_2 hL, ev_2n hL, ev_3 hL, ev_30 hL, ev_31 hL, ev_4 hL, ev_4n hL, ev_5 hL, ev_5n hL, ev_4r hL, ev_lt1 hL, ev_ltr hL, ev_lnt hL, ev_lnn hL, ev_7 hL, ev_7n hL, ev_uE, ev_uK]
    rw [y1, b2_h r1, s2]
  · rw [s4 d k hd, x6 _ _ (by omega) (by omega) (by omega) (by omega)]
  · rw [s5 d k hd, ev_uJ hL (by omega)]
  · rw [s6 d k hd, r3 _ _ (by omega) (by omega), y3 _ _ (by omega), ev_uI hL (by omega), ev_uI hL (by omega)]
  · rw [s7 d k hd, ev_uJ hL (by omega)]
  · rw [s8, r3 _ _ (by omega) (by omega), y3 _ _ (by omega), ev_uI hL (by omega), ev_uI hL (by omega)]
end ALL
