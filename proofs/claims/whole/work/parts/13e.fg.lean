-- The class's memory and the reference's, side by side; forget
def mx {α : Type} (Mc Mr : Nat → Nat → α) : Nat → Nat → α := fun c k => if c = 6 ∨ (226 ≤ c ∧ c < 263) then Mr c k else Mc c k
theorem mx_r {α : Type} {Mc Mr : Nat → Nat → α} {c k : Nat} (h : c = 6 ∨ (226 ≤ c ∧ c < 263)) : mx Mc Mr c k = Mr c k := if_pos h
theorem mx_c {α : Type} {Mc Mr : Nat → Nat → α} {c k : Nat} (h : ¬ (c = 6 ∨ (226 ≤ c ∧ c < 263))) : mx Mc Mr c k = Mc c k := if_neg h
/-- letter i of M is letter j of M0 -/
def LetEq (M M0 : gMI) (i j : Nat) : Prop := (∀ f, f < 7 → M 259 (7 * i + f) = M0 259 (7 * j + f)) ∧ ∀ f, f < 64 → M 260 (64 * i + f) = M0 260 (64 * j + f)
/-- a letter taken out of both: the row of letters alone -/
theorem rem_post {M M' : gMI} {K K' : gMJ} {pi am : Nat → Nat} {c r : Nat} (h2 : RPost M K c pi am) (hr : r < c)
    (hM : ∀ d k, 32 ≤ d → d < 226 → M' d k = M d k) (hK : ∀ d k, 32 ≤ d → d < 226 → K' d k = K d k) (e3 : M' 3 2 = nI (c - 1)) (e6 : M' 6 32 = nI (c - 1)) (e5 : ∀ i, i < 97 → M' 5 i = nI (pi (if i < r then i else if i < 96 then i + 1 else r))) (e259 : ∀ j, M' 259 j = shf (M 259) (7 * r) (7 * (c - 1)) 7 j) (e260 : ∀ j, M' 260 j = shf (M 260) (64 * r) (64 * (c - 1)) 64 j) (e261 : ∀ j, K' 261 j = shf (K 261) r (c - 1) 1 j) :
    RPost M' K' (c - 1) (fun i => pi (if i < r then i else if i < 96 then i + 1 else r)) (fun i => am (sh r i)) ∧ ∀ i, i < c - 1 → sh r i < c ∧ LetEq M' M i (sh r i) := by
  obtain ⟨p1, p2, p3, p4, p5, p6⟩ := h2
  have g259 : ∀ i f, i < c - 1 → f < 7 → M' 259 (7 * i + f) = M 259 (7 * sh r i + f) := fun i f hi hf => by
    rw [e259]; unfold shf sh
    by_cases h : i < r
    · rw [if_neg (by omega), if_pos h]
    · rw [if_pos (by omega), if_neg h]; congr 1; omega
  have g259' : ∀ i, i < c - 1 → M' 259 (7 * i) = M 259 (7 * sh r i) := fun i hi => g259 i 0 hi (by decide)
  have g260 : ∀ i f, i < c - 1 → f < 64 → M' 260 (64 * i + f) = M 260 (64 * sh r i + f) := fun i f hi hf => by
    rw [e260]; unfold shf sh
    by_cases h : i < r
    · rw [if_neg (by omega), if_pos h]
    · rw [if_pos (by omega), if_neg h]; congr 1; omega
  have g261 : ∀ i, i < c - 1 → K' 261 i = K 261 (sh r i) := fun i hi => by
    rw [e261]; unfold shf sh
    by_cases h : i < r
    · rw [if_neg (by omega), if_pos h]
    · rw [if_pos (by omega), if_neg h]
  have hsh : ∀ i, i < c - 1 → sh r i < c := fun i hi => by unfold sh; split <;> omega
  refine ⟨⟨by omega, e3, e6, fun i hi => ⟨?_, e5 i hi⟩, fun i j hi hj hij => ?_, fun i hi => ?_⟩, fun i hi => ⟨hsh i hi, fun f hf => g259 i f hi hf, fun f hf => g260 i f hi hf⟩⟩
  · exact (p4 _ (by split <;> (try split) <;> omega)).1
  · have hij := p5 _ _ (by split <;> (try split) <;> omega) (by split <;> (try split) <;> omega) hij
    split at hij <;> split at hij <;> (try split at hij) <;> (try split at hij) <;> omega
  · have hs := hsh i hi
    have hp := (p4 (sh r i) (by omega)).1
    have hl := p6 (sh r i) hs
    show RLet M' K' (pi (if i < r then i else if i < 96 then i + 1 else r)) i (am (sh r i))
    rw [show (if i < r then i else if i < 96 then i + 1 else r) = sh r i by unfold sh; split <;> (try split) <;> omega]
    unfold RLet at hl ⊢
    obtain ⟨q0, q1, q2, q3, q4, q5, q6, q7, q8, q9, q10⟩ := hl
    refine ⟨q0, ?_, ?_, ?_, ?_, ?_, ?_, ?_, ?_, ?_, fun j hj => ?_⟩
    · rw [hM _ _ (by omega) (by omega)]; exact q1
    · rw [g259 i 6 hi (by decide)]; exact q2
    · rw [hM _ _ (by omega) (by omega), g259' i hi]; exact q3
    · rw [hM _ _ (by omega) (by omega), g259 i 1 hi (by decide)]; exact q4
    · rw [hM _ _ (by omega) (by omega), g259 i 2 hi (by decide)]; exact q5
    · rw [hM _ _ (by omega) (by omega), g259 i 3 hi (by decide)]; exact q6
    · rw [hM _ _ (by omega) (by omega), g259 i 4 hi (by decide)]; exact q7
    · rw [hM _ _ (by omega) (by omega), g259 i 5 hi (by decide)]; exact q8
    · rw [hK _ _ (by omega) (by omega), g261 i hi]; exact q9
    · rw [g260 i j hi hj, hM _ _ (by omega) (by omega)]; exact q10 j hj
section FG
variable {S : gS} {A : Nat → Nat} {ex : Nat → Bool} {I I' : gMI} {J : gMJ} {b : Nat}
/-- one letter out, class memory Ic, reference memory Ir -/
theorem take_one (hL : Lay S A ex) {Ic Ir : gMI} {Jc Jr : gMJ} {c r : Nat} {pi am : Nat → Nat} (h2 : RPost (mx (cI A Ic) (cI A Ir)) (mx (cJ A Jc) (cJ A Jr)) c pi am) (hr : r < c) : ∃ Ic' Ir' Jr', (∀ J, f_Post_takeOut S Ic J (A 3) (nI r) = some (some (A (32 + pi r)), Ic')) ∧ f_M_remove S Ir Jr (A 6) (nI r) = some (Ir', Jr') ∧ RPost (mx (cI A Ic') (cI A Ir')) (mx (cJ A Jc) (cJ A Jr')) (c - 1) (fun i => pi (if i < r then i else if i < 96 then i + 1 else r)) (fun i => am (sh r i)) ∧ (∀ i, i < c - 1 → sh r i < c ∧ LetEq (cI A Ir') (cI A Ir) i (sh r i)) ∧ (∀ d k, ¬ (d = 3 ∧ k = 2) → d ≠ 5 → Ic' (A d) k = Ic (A d) k) ∧ (∀ d k, ¬ (d = 6 ∧ k = 32) → d ≠ 259 → d ≠ 260 → Ir' (A d) k = Ir (A d) k) ∧ (∀ d k, d ≠ 261 → Jr' (A d) k = Jr (A d) k) ∧ Ic' (A 3) 2 = nI (c - 1) ∧ Ir' (A 6) 32 = nI (c - 1) := by
  have hp := h2
  obtain ⟨p1, p2, p3, p4, p5, p6⟩ := hp
  have q2 : Ic (A 3) 2 = nI c := p2
  have q3 : Ir (A 6) 32 = nI c := p3
  have q5 : ∀ i, i < 97 → Ic (A 5) i = nI (pi i) := fun i hi => (p4 i hi).2
  have pk := (p4 r (by omega)).1
  have hv : ∀ (I0 : gMI) (d : Nat) (f : Nat → Int32) (e k : Nat), e ≠ d → va_up I0 (A d) f (A e) k = I0 (A e) k := fun I0 d f e k hne => by rw [va_up_ne _ _ (hL.inj hne)]
  obtain ⟨Ic', hI1⟩ : ∃ I1 : gMI, I1 = upI (upI (va_up Ic (A 5) (va_cpy (Ic (A 5)) (Ic (A 5)) (r + 1) r (96 - r))) (A 5) 96 (nI (pi r))) (A 3) 2 (nI (c - 1)) := ⟨_, rfl⟩
  obtain ⟨Ir', hI2⟩ : ∃ I2 : gMI, I2 = va_up (va_up (upI Ir (A 6) 32 (nI (c - 1))) (A 259) (shf (Ir (A 259)) (7 * r) (7 * (c - 1)) 7)) (A 260) (shf (Ir (A 260)) (64 * r) (64 * (c - 1)) 64) := ⟨_, rfl⟩
  obtain ⟨Jr', hJ2⟩ : ∃ J2 : gMJ, J2 = va_up Jr (A 261) (shf (Jr (A 261)) r (c - 1) 1) := ⟨_, rfl⟩
  have a1 : ∀ d k, ¬ (d = 3 ∧ k = 2) → d ≠ 5 → Ic' (A d) k = Ic (A d) k := fun d k b1 b2 => by
    rw [hI1, ev_uI hL (by omega), ev_uI hL (by omega), hv _ _ _ _ _ b2]
  have a2 : ∀ d k, ¬ (d = 6 ∧ k = 32) → d ≠ 259 → d ≠ 260 → Ir' (A d) k = Ir (A d) k := fun d k b1 b2 b3 => by
    rw [hI2, hv _ _ _ _ _ b3, hv _ _ _ _ _ b2, ev_uI hL (by omega)]
  have a3 : ∀ d k, d ≠ 261 → Jr' (A d) k = Jr (A d) k := fun d k b1 => by
    rw [hJ2, va_up_ne _ _ (hL.inj b1)]
  have a4 : Ic' (A 3) 2 = nI (c - 1) := by rw [hI1, ev_uE]
  have a5 : Ir' (A 6) 32 = nI (c - 1) := by rw [hI2, hv _ _ _ _ _ (by omega), hv _ _ _ _ _ (by omega), ev_uE]
  obtain ⟨r1, r2⟩ := rem_post (M' := mx (cI A Ic') (cI A Ir')) (K' := mx (cJ A Jc) (cJ A Jr')) h2 hr (fun d k d1 d2 => by
      rw [mx_c (by omega), mx_c (by omega)]; exact a1 d k (by omega) (by omega)) (fun d k d1 d2 => by
      rw [mx_c (by omega), mx_c (by omega)]) (by rw [mx_c (by omega)]; exact a4) (by rw [mx_r (by omega)]; exact a5) (fun i hi => by
      rw [mx_c (by omega)]
      show Ic' (A 5) i = _
      rw [hI1, ev_uI hL (by omega)]
      by_cases e : i = 96
      · rw [e, ev_uE, if_neg (by omega), if_neg (by omega)]
      · rw [ev_uI hL (by omega), va_up_self]
        by_cases e2 : i < r
        · rw [pk_cpy_out (Or.inl e2), if_pos e2]; exact q5 i hi
        · rw [pk_cpy_in (by omega) (by omega), if_neg e2, if_pos (by omega), show r + 1 + (i - r) = i + 1 by omega]; exact q5 (i + 1) (by omega)) (fun j => by
      rw [mx_r (by omega), show mx (cI A Ic) (cI A Ir) 259 = cI A Ir 259 from funext fun k => mx_r (by omega)]
      show Ir' (A 259) j = _
      rw [hI2, hv _ _ _ _ _ (by omega), va_up_self]; rfl) (fun j => by
      rw [mx_r (by omega), show mx (cI A Ic) (cI A Ir) 260 = cI A Ir 260 from funext fun k => mx_r (by omega)]
      show Ir' (A 260) j = _
      rw [hI2, va_up_self]; rfl) (fun j => by
      rw [mx_r (by omega), show mx (cJ A Jc) (cJ A Jr) 261 = cJ A Jr 261 from funext fun k => mx_r (by omega)]
      show Jr' (A 261) j = _
      rw [hJ2, va_up_self]; rfl)
  refine ⟨Ic', Ir', Jr', fun J => by rw [hI1]; exact Post_takeOut hL p1 hr q2 pk (q5 r (by omega)), by rw [hI2, hJ2]; exact M_remove hL p1 hr q3, r1, fun i hi => ⟨(r2 i hi).1, fun f hf => ?_, fun f hf => ?_⟩, a1, a2, a3, a4, a5⟩
  · have := (r2 i hi).2.1 f hf
    rw [mx_r (by omega), mx_r (by omega)] at this; exact this
  · have := (r2 i hi).2.2 f hf
    rw [mx_r (by omega), mx_r (by omega)] at this; exact this
/-- all letters of question number v out of both -/
theorem fg_loop (hL : Lay S A ex) {Jc : gMJ} {v vq : Int32} : ∀ (g : Nat) (n m : Nat) (Ic Ir : gMI) (Jr : gMJ) (c : Nat) (pi am : Nat → Nat), RPost (mx (cI A Ic) (cI A Ir)) (mx (cJ A Jc) (cJ A Jr)) c pi am → g ≤ c → g < n → g < m → (∀ i, g ≤ i → i < c → Ir (A 259) (7 * i + 1) ≠ v) → ∃ Ic' Ir' Jr' c' pi' am' m', (∀ J, f_Post_loseAllOf_b7 S J n Ic (A 3) v (nI g - 1) = some Ic') ∧ f_M_forget_b36 S m Ir Jr (A 6) v vq (nI g - 1) = f_M_forget_b36 S (m' + 1) Ir' Jr' (A 6) v vq (-1) ∧ RPost (mx (cI A Ic') (cI A Ir')) (mx (cJ A Jc) (cJ A Jr')) c' pi' am' ∧ (∀ i, i < c' → Ir' (A 259) (7 * i + 1) ≠ v ∧ ∃ j, j < c ∧ LetEq (cI A Ir') (cI A Ir) i j) ∧ (∀ d k, ¬ (d = 3 ∧ k = 2) → d ≠ 5 → Ic' (A d) k = Ic (A d) k) ∧ (∀ d k, ¬ (d = 6 ∧ k = 32) → d ≠ 259 → d ≠ 260 → Ir' (A d) k = Ir (A d) k) ∧ (∀ d k, d ≠ 261 → Jr' (A d) k = Jr (A d) k) := by
  intro g
  induction g with
  | zero =>
    intro n m Ic Ir Jr c pi am h2 hg hn hm hq
    obtain ⟨n, rfl⟩ : ∃ k, n = k + 1 := ⟨n - 1, by omega⟩
    obtain ⟨m, rfl⟩ : ∃ k, m = k + 1 := ⟨m - 1, by omega⟩
    refine ⟨Ic, Ir, Jr, c, pi, am, m, fun J => ?_, rfl, h2, fun i hi => ⟨hq i (by omega) hi, i, hi, fun _ _ => rfl, fun _ _ => rfl⟩, fun _ _ _ _ => rfl, fun _ _ _ _ _ => rfl, fun _ _ _ => rfl⟩
    rw [f_Post_loseAllOf_b7, if_pos (show nI 0 - 1 < 0 by decide)]
  | succ g ih =>
    intro n m Ic Ir Jr c pi am h2 hg hn hm hq
    obtain ⟨n, rfl⟩ : ∃ k, n = k + 1 := ⟨n - 1, by omega⟩
    obtain ⟨m, rfl⟩ : ∃ k, m = k + 1 := ⟨m - 1, by omega⟩
    have hp := h2
    obtain ⟨p1, p2, p3, p4, p5, p6⟩ := hp
    have pk := (p4 g (by omega)).1
    have q5 : Ic (A 5) g = nI (pi g) := (p4 g (by omega)).2
    have hat : ∀ J, f_Post_at S Ic J (A 3) (nI g) = some (some (A (32 + pi g))) := fun J => Post_at hL (by omega) pk q5
    have hql : Ic (A (32 + pi g)) 4 = Ir (A 259) (7 * g + 1) := by
      have := (p6 g (by omega)).2.2.2.2.1
      rw [mx_c (by omega), mx_r (by omega)] at this
      exact this
    have em : nI (g + 1) - 1 = nI g := nI_pred g
    have em2 : nI g + -1 = nI g - 1 := by rw [Int32.sub_eq_add_neg]
    rw [em]
    by_cases e : Ir (A 259) (7 * g + 1) = v
    · obtain ⟨Ic1, Ir1, Jr1, t1, t2, t3, t4, t5, t6, t7, t8, t9⟩ := take_one hL h2 (show g < c by omega)
      obtain ⟨Ic', Ir', Jr', c', pi', am', m', s1, s2, s3, s4, s5, s6, s7⟩ := ih n m Ic1 Ir1 Jr1 (c - 1) _ _ t3 (by omega) (by omega) (by omega) (fun i hi1 hi2 => by
        have := (t4 i hi2).2.1 1 (by decide)
        have this : Ir1 (A 259) (7 * i + 1) = Ir (A 259) (7 * sh g i + 1) := this
        rw [this]
        exact hq _ (by unfold sh; rw [if_neg (by omega)]; omega) ((t4 i hi2).1))
      refine ⟨Ic', Ir', Jr', c', pi', am', m', fun J => ?_, ?_, s3, fun i hi => ⟨(s4 i hi).1, ?_⟩, fun d k d1 d2 => (s5 d k d1 d2).trans (t5 d k d1 d2), fun d k d1 d2 d3 => (s6 d k d1 d2 d3).trans (t6 d k d1 d2 d3), fun d k d1 => (s7 d k d1).trans (t7 d k d1)⟩
      · have s1 := s1 J
        simp (disch := omega) only [f_Post_loseAllOf_b7, ↓ob_h (hat _), hql, e, ↓b2_h (t1 _), f_Post_loseAllOf_b29, em2, ↓bnd_in, ↓Option.bind_some, ↓bd2_some, ↓bd3_some, ↓bd4_some, ↓ew_mr hL, ↓ew_00 hL, ↓ew_01 hL, ↓ew_02 hL, ↓ew_1r hL, ↓ew_lr hL, ↓ew_30 hL, ↓ew_31 hL, ↓ew_4r hL, ↓ew_ltr hL, ↓gd_m hL, ↓gd_0 hL, gd_t, Option.bind_some, bd2_some, bd3_some, bd4_some, gm_some, gm_none, ↓reduceIte, or_self, or_false, false_or, or_true, true_or, and_self, and_true, true_and, and_false, false_and, not_false_eq_true, not_true_eq_false, Nat.reduceAdd, Nat.reduceMul, Int32.reduceLT, Int32.reduceLE, eq_self, ev_lit, ev_10, Int32.reduceToNatClampNeg, Nat.reduceLeDiff, Nat.reduceEqDiff, Nat.reduceLT, nI_clamp, ev_ng, ev_L1, ev_L2, ev_L3, ev_K1, ev_K2, ev_K3, ev_K4, ev_K5, ev_a1, ev_m1, ev_s1, ev_s2, nI_add, ev_nle, ev_le, ev_lt, ev_nlt, ev_ne, ev_eq, ev_uI hL, ev_uJ hL, ev_m hL, ev_mr hL, ev_mt hL, ev_mz hL, ev_mj hL, ev_n8 hL, ev_n64 hL, ev_n229 hL, ev_n254 hL, ev_n257 hL, ev_n259 hL, ev_n260 hL, ev_n261 hL, ev_0 hL, ev_00 hL, ev_01 hL, ev_02 hL, ev_1 hL, ev_1n hL, ev_1r hL, ev_lg hL, ev_lr hL, ev_sr hL, ev_2 hL, ev_2n hL, ev_3 hL, ev_30 hL, ev_31 hL, ev_4 hL, ev_4n hL, ev_5 hL, ev_5n hL, ev_4r hL, ev_lt1 hL, ev_ltr hL, ev_lnt hL, ev_lnn hL, ev_7 hL, ev_7n hL, ev_uE, ev_uK]
        exact s1
      · rw [← s2]
        simp (disch := omega) only [f_M_forget_b36, e, ↓b2_h t2, f_M_forget_b60, em2, ↓bnd_in, ↓Option.bind_some, ↓bd2_some, ↓bd3_some, ↓bd4_some, ↓ew_mr hL, ↓ew_00 hL, ↓ew_01 hL, ↓ew_02 hL, ↓ew_1r hL, ↓ew_lr hL, ↓ew_30 hL, ↓ew_31 hL, ↓ew_4r hL, ↓ew_ltr hL, ↓gd_m hL, ↓gd_0 hL, gd_t, Option.bind_some, bd2_some, bd3_some, bd4_some, gm_some, gm_none, ↓reduceIte, or_self, or_false, false_or, or_true, true_or, and_self, and_true, true_and, and_false, false_and, not_false_eq_true, not_true_eq_false, Nat.reduceAdd, Nat.reduceMul, Int32.reduceLT, Int32.reduceLE, eq_self, ev_lit, ev_10, Int32.reduceToNatClampNeg, Nat.reduceLeDiff, Nat.reduceEqDiff, Nat.reduceLT, nI_clamp, ev_ng, ev_L1, ev_L2, ev_L3, ev_K1, ev_K2, ev_K3, ev_K4, ev_K5, ev_a1, ev_m1, ev_s1, ev_s2, nI_add, ev_nle, ev_le, ev_lt, ev_nlt, ev_ne, ev_eq, ev_uI hL, ev_uJ hL, ev_m hL, ev_mr hL, ev_mt hL, ev_mz hL, ev_mj hL, ev_n8 hL, ev_n64 hL, ev_n229 hL, ev_n254 hL, ev_n257 hL, ev_n259 hL, ev_n260 hL, ev_n261 hL, ev_0 hL, ev_00 hL, ev_01 hL, ev_02 hL, ev_1 hL, ev_1n hL, ev_1r hL, ev_lg hL, ev_lr hL, ev_sr hL, ev_2 hL, ev_2n hL, ev_3 hL, ev_30 hL, ev_31 hL, ev_4 hL, ev_4n hL, ev_5 hL, ev_5n hL, ev_4r hL, ev_lt1 hL, ev_ltr hL, ev_lnt hL, ev_lnn hL, ev_7 hL, ev_7n hL, ev_uE, ev_uK]
      · obtain ⟨j, hj, w1, w2⟩ := (s4 i hi).2
        obtain ⟨z1, z2, z3⟩ := t4 j hj
        exact ⟨sh g j, z1, fun f hf => (w1 f hf).trans (z2 f hf), fun f hf => (w2 f hf).trans (z3 f hf)⟩
    · obtain ⟨Ic', Ir', Jr', c', pi', am', m', s1, s2, s3, s4, s5, s6, s7⟩ := ih n m Ic Ir Jr c pi am h2 (by omega) (by omega) (by omega) (fun i hi1 hi2 => by
        by_cases ei : i = g
        · rw [ei]; exact e
        · exact hq i (by omega) hi2)
      refine ⟨Ic', Ir', Jr', c', pi', am', m', fun J => ?_, ?_, s3, s4, s5, s6, s7⟩
      · have s1 := s1 J
        simp (disch := omega) only [f_Post_loseAllOf_b7, ↓ob_h (hat _), hql, e, f_Post_loseAllOf_b29, em2, ↓bnd_in, ↓Option.bind_some, ↓bd2_some, ↓bd3_some, ↓bd4_some, ↓ew_mr hL, ↓ew_00 hL, ↓ew_01 hL, ↓ew_02 hL, ↓ew_1r hL, ↓ew_lr hL, ↓ew_30 hL, ↓ew_31 hL, ↓ew_4r hL, ↓ew_ltr hL, ↓gd_m hL, ↓gd_0 hL, gd_t, Option.bind_some, bd2_some, bd3_some, bd4_some, gm_some, gm_none, ↓reduceIte, or_self, or_false, false_or, or_true, true_or, and_self, and_true, true_and, and_false, false_and, not_false_eq_true, not_true_eq_false, Nat.reduceAdd, Nat.reduceMul, Int32.reduceLT, Int32.reduceLE, eq_self, ev_lit, ev_10, Int32.reduceToNatClampNeg, Nat.reduceLeDiff, Nat.reduceEqDiff, Nat.reduceLT, nI_clamp, ev_ng, ev_L1, ev_L2, ev_L3, ev_K1, ev_K2, ev_K3, ev_K4, ev_K5, ev_a1, ev_m1, ev_s1, ev_s2, nI_add, ev_nle, ev_le, ev_lt, ev_nlt, ev_ne, ev_eq, ev_uI hL, ev_uJ hL, ev_m hL, ev_mr hL, ev_mt hL, ev_mz hL, ev_mj hL, ev_n8 hL, ev_n64 hL, ev_n229 hL, ev_n254 hL, ev_n257 hL, ev_n259 hL, ev_n260 hL, ev_n261 hL, ev_0 hL, ev_00 hL, ev_01 hL, ev_02 hL, ev_1 hL, ev_1n hL, ev_1r hL, ev_lg hL, ev_lr hL, ev_sr hL, ev_2 hL, ev_2n hL, ev_3 hL, ev_30 hL, ev_31 hL, ev_4 hL, ev_4n hL, ev_5 hL, ev_5n hL, ev_4r hL, ev_lt1 hL, ev_ltr hL, ev_lnt hL, ev_lnn hL, ev_7 hL, ev_7n hL, ev_uE, ev_uK]
        exact s1
      · rw [← s2]
        simp (disch := omega) only [f_M_forget_b36, e, f_M_forget_b60, em2, ↓bnd_in, ↓Option.bind_some, ↓bd2_some, ↓bd3_some, ↓bd4_some, ↓ew_mr hL, ↓ew_00 hL, ↓ew_01 hL, ↓ew_02 hL, ↓ew_1r hL, ↓ew_lr hL, ↓ew_30 hL, ↓ew_31 hL, ↓ew_4r hL, ↓ew_ltr hL, ↓gd_m hL, ↓gd_0 hL, gd_t, Option.bind_some, bd2_some, bd3_some, bd4_some, gm_some, gm_none, ↓reduceIte, or_self, or_false, false_or, or_true, true_or, and_self, and_true, true_and, and_false, false_and, not_false_eq_true, not_true_eq_false, Nat.reduceAdd, Nat.reduceMul, Int32.reduceLT, Int32.reduceLE, eq_self, ev_lit, ev_10, Int32.reduceToNatClampNeg, Nat.reduceLeDiff, Nat.reduceEqDiff, Nat.reduceLT, nI_clamp, ev_ng, ev_L1, ev_L2, ev_L3, ev_K1, ev_K2, ev_K3, ev_K4, ev_K5, ev_a1, ev_m1, ev_s1, ev_s2, nI_add, ev_nle, ev_le, ev_lt, ev_nlt, ev_ne, ev_eq, ev_uI hL, ev_uJ hL, ev_m hL, ev_mr hL, ev_mt hL, ev_mz hL, ev_mj hL, ev_n8 hL, ev_n64 hL, ev_n229 hL, ev_n254 hL, ev_n257 hL, ev_n259 hL, ev_n260 hL, ev_n261 hL, ev_0 hL, ev_00 hL, ev_01 hL, ev_02 hL, ev_1 hL, ev_1n hL, ev_1r hL, ev_lg hL, ev_lr hL, ev_sr hL, ev_2 hL, ev_2n hL, ev_3 hL, ev_30 hL, ev_31 hL, ev_4 hL, ev_4n hL, ev_5 hL, ev_5n hL, ev_4r hL, ev_lt1 hL, ev_ltr hL, ev_lnt hL, ev_lnn hL, ev_7 hL, ev_7n hL, ev_uE, ev_uK]
/-- how many questions are there: class and reference -/
theorem cntH (hL : Lay S A ex) {nu : Nat → Nat} (h : Nums A I ex nu) : ∀ (g i n : Nat), i + g = 8 → g < n → f_H_forget_b21 S J n I (A 0) (nI (cmN (fun q => decide (0 < nu q)) i)) (nI i) = some (0, nI (cmN (fun q => decide (0 < nu q)) 8), I) := by
  intro g
  induction g with
  | zero =>
    intro i n hi hn
    obtain ⟨n, rfl⟩ : ∃ k, n = k + 1 := ⟨n - 1, by omega⟩
    have : i = 8 := by omega
    subst this
    simp (disch := omega) only [f_H_forget_b21, ↓bnd_in, ↓Option.bind_some, ↓bd2_some, ↓bd3_some, ↓bd4_some, ↓ew_mr hL, ↓ew_00 hL, ↓ew_01 hL, ↓ew_02 hL, ↓ew_1r hL, ↓ew_lr hL, ↓ew_30 hL, ↓ew_31 hL, ↓ew_4r hL, ↓ew_ltr hL, ↓gd_m hL, ↓gd_0 hL, gd_t, Option.bind_some, bd2_some, bd3_some, bd4_some, gm_some, gm_none, ↓reduceIte, or_self, or_false, false_or, or_true, true_or, and_self, and_true, true_and, and_false, false_and, not_false_eq_true, not_true_eq_false, Nat.reduceAdd, Nat.reduceMul, Int32.reduceLT, Int32.reduceLE, eq_self, ev_lit, ev_10, Int32.reduceToNatClampNeg, Nat.reduceLeDiff, Nat.reduceEqDiff, Nat.reduceLT, nI_clamp, ev_ng, ev_L1, ev_L2, ev_L3, ev_K1, ev_K2, ev_K3, ev_K4, ev_K5, ev_a1, ev_m1, ev_s1, ev_s2, nI_add, ev_nle, ev_le, ev_lt, ev_nlt, ev_ne, ev_eq, ev_uI hL, ev_uJ hL, ev_m hL, ev_mr hL, ev_mt hL, ev_mz hL, ev_mj hL, ev_n8 hL, ev_n64 hL, ev_n229 hL, ev_n254 hL, ev_n257 hL, ev_n259 hL, ev_n260 hL, ev_n261 hL, ev_0 hL, ev_00 hL, ev_01 hL, ev_02 hL, ev_1 hL, ev_1n hL, ev_1r hL, ev_lg hL, ev_lr hL, ev_sr hL, ev_2 hL, ev_2n hL, ev_3 hL, ev_30 hL, ev_31 hL, ev_4 hL, ev_4n hL, ev_5 hL, ev_5n hL, ev_4r hL, ev_lt1 hL, ev_ltr hL, ev_lnt hL, ev_lnn hL, ev_7 hL, ev_7n hL, ev_uE, ev_uK]
  | succ g ih =>
    intro i n hi hn
    obtain ⟨n, rfl⟩ : ∃ k, n = k + 1 := ⟨n - 1, by omega⟩
    have ihn := ih (i + 1) n (by omega) (by omega)
    have hno : nu i = 0 → cmN (fun q => decide (0 < nu q)) (i + 1) = cmN (fun q => decide (0 < nu q)) i := fun e => by
      show cmN (fun q => decide (0 < nu q)) i + (if decide (0 < nu i) then 1 else 0) = _
      rw [e]; rfl
    cases he : ex i with
    | false =>
      have hqn := hL.qn (by omega) he
      rw [hno ((h.1 i (by omega)).2.2.2 he)] at ihn
      simp (disch := omega) only [f_H_forget_b21, hqn, f_H_forget_b51, ↓bnd_in, ↓Option.bind_some, ↓bd2_some, ↓bd3_some, ↓bd4_some, ↓ew_mr hL, ↓ew_00 hL, ↓ew_01 hL, ↓ew_02 hL, ↓ew_1r hL, ↓ew_lr hL, ↓ew_30 hL, ↓ew_31 hL, ↓ew_4r hL, ↓ew_ltr hL, ↓gd_m hL, ↓gd_0 hL, gd_t, Option.bind_some, bd2_some, bd3_some, bd4_some, gm_some, gm_none, ↓reduceIte, or_self, or_false, false_or, or_true, true_or, and_self, and_true, true_and, and_false, false_and, not_false_eq_true, not_true_eq_false, Nat.reduceAdd, Nat.reduceMul, Int32.reduceLT, Int32.reduceLE, eq_self, ev_lit, ev_10, Int32.reduceToNatClampNeg, Nat.reduceLeDiff, Nat.reduceEqDiff, Nat.reduceLT, nI_clamp, ev_ng, ev_L1, ev_L2, ev_L3, ev_K1, ev_K2, ev_K3, ev_K4, ev_K5, ev_a1, ev_m1, ev_s1, ev_s2, nI_add, ev_nle, ev_le, ev_lt, ev_nlt, ev_ne, ev_eq, ev_uI hL, ev_uJ hL, ev_m hL, ev_mr hL, ev_mt hL, ev_mz hL, ev_mj hL, ev_n8 hL, ev_n64 hL, ev_n229 hL, ev_n254 hL, ev_n257 hL, ev_n259 hL, ev_n260 hL, ev_n261 hL, ev_0 hL, ev_00 hL, ev_01 hL, ev_02 hL, ev_1 hL, ev_1n hL, ev_1r hL, ev_lg hL, ev_lr hL, ev_sr hL, ev_2 hL, ev_2n hL, ev_3 hL, ev_30 hL, ev_31 hL, ev_4 hL, ev_4n hL, ev_5 hL, ev_5n hL, ev_4r hL, ev_lt1 hL, ev_ltr hL, ev_lnt hL, ev_lnn hL, ev_7 hL, ev_7n hL, ev_uE, ev_uK]
      exact ihn
    | true =>
      obtain ⟨hr, hQ⟩ := hL.qy (by omega) he
      have t0 := hQ.1.1
      have hth := isThere_eq (J := J) hL h (q := i) (by omega) he
      by_cases e : nu i = 0
      · rw [if_pos e] at hth
        rw [hno e] at ihn
        simp (disch := omega) only [f_H_forget_b21, hr, t0, ↓ob_h hth, f_H_forget_b51, ↓bnd_in, ↓Option.bind_some, ↓bd2_some, ↓bd3_some, ↓bd4_some, ↓ew_mr hL, ↓ew_00 hL, ↓ew_01 hL, ↓ew_02 hL, ↓ew_1r hL, ↓ew_lr hL, ↓ew_30 hL, ↓ew_31 hL, ↓ew_4r hL, ↓ew_ltr hL, ↓gd_m hL, ↓gd_0 hL, gd_t, Option.bind_some, bd2_some, bd3_some, bd4_some, gm_some, gm_none, ↓reduceIte, or_self, or_false, false_or, or_true, true_or, and_self, and_true, true_and, and_false, false_and, not_false_eq_true, not_true_eq_false, Nat.reduceAdd, Nat.reduceMul, Int32.reduceLT, Int32.reduceLE, eq_self, ev_lit, ev_10, Int32.reduceToNatClampNeg, Nat.reduceLeDiff, Nat.reduceEqDiff, Nat.reduceLT, nI_clamp, ev_ng, ev_L1, ev_L2, ev_L3, ev_K1, ev_K2, ev_K3, ev_K4, ev_K5, ev_a1, ev_m1, ev_s1, ev_s2, nI_add, ev_nle, ev_le, ev_lt, ev_nlt, ev_ne, ev_eq, ev_uI hL, ev_uJ hL, ev_m hL, ev_mr hL, ev_mt hL, ev_mz hL, ev_mj hL, ev_n8 hL, ev_n64 hL, ev_n229 hL, ev_n254 hL, ev_n257 hL, ev_n259 hL, ev_n260 hL, ev_n261 hL, ev_0 hL, ev_00 hL, ev_01 hL, ev_02 hL, ev_1 hL, ev_1n hL, ev_1r hL, ev_lg hL, ev_lr hL, ev_sr hL, ev_2 hL, ev_2n hL, ev_3 hL, ev_30 hL, ev_31 hL, ev_4 hL, ev_4n hL, ev_5 hL, ev_5n hL, ev_4r hL, ev_lt1 hL, ev_ltr hL, ev_lnt hL, ev_lnn hL, ev_7 hL, ev_7n hL, ev_uE, ev_uK]
        exact ihn
      · rw [if_neg e] at hth
        rw [show cmN (fun q => decide (0 < nu q)) (i + 1) = cmN (fun q => decide (0 < nu q)) i + 1 by
          show cmN (fun q => decide (0 < nu q)) i + (if decide (0 < nu i) then 1 else 0) = _
          rw [decide_eq_true (show 0 < nu i by omega)]; rfl] at ihn
        simp (disch := omega) only [f_H_forget_b21, hr, t0, ↓ob_h hth, f_H_forget_b51, ↓bnd_in, ↓Option.bind_some, ↓bd2_some, ↓bd3_some, ↓bd4_some, ↓ew_mr hL, ↓ew_00 hL, ↓ew_01 hL, ↓ew_02 hL, ↓ew_1r hL, ↓ew_lr hL, ↓ew_30 hL, ↓ew_31 hL, ↓ew_4r hL, ↓ew_ltr hL, ↓gd_m hL, ↓gd_0 hL, gd_t, Option.bind_some, bd2_some, bd3_some, bd4_some, gm_some, gm_none, ↓reduceIte, or_self, or_false, false_or, or_true, true_or, and_self, and_true, true_and, and_false, false_and, not_false_eq_true, not_true_eq_false, Nat.reduceAdd, Nat.reduceMul, Int32.reduceLT, Int32.reduceLE, eq_self, ev_lit, ev_10, Int32.reduceToNatClampNeg, Nat.reduceLeDiff, Nat.reduceEqDiff, Nat.reduceLT, nI_clamp, ev_ng, ev_L1, ev_L2, ev_L3, ev_K1, ev_K2, ev_K3, ev_K4, ev_K5, ev_a1, ev_m1, ev_s1, ev_s2, nI_add, ev_nle, ev_le, ev_lt, ev_nlt, ev_ne, ev_eq, ev_uI hL, ev_uJ hL, ev_m hL, ev_mr hL, ev_mt hL, ev_mz hL, ev_mj hL, ev_n8 hL, ev_n64 hL, ev_n229 hL, ev_n254 hL, ev_n257 hL, ev_n259 hL, ev_n260 hL, ev_n261 hL, ev_0 hL, ev_00 hL, ev_01 hL, ev_02 hL, ev_1 hL, ev_1n hL, ev_1r hL, ev_lg hL, ev_lr hL, ev_sr hL, ev_2 hL, ev_2n hL, ev_3 hL, ev_30 hL, ev_31 hL, ev_4 hL, ev_4n hL, ev_5 hL, ev_5n hL, ev_4r hL, ev_lt1 hL, ev_ltr hL, ev_lnt hL, ev_lnn hL, ev_7 hL, ev_7n hL, ev_uE, ev_uK]
        exact ihn
theorem cntM (hL : Lay S A ex) {nu : Nat → Nat} (h : Nums A I ex nu) : ∀ (g i n : Nat), i + g = 8 → g < n → f_M_forget_b78 S n I J (A 6) (nI (cmN (fun q => decide (0 < nu q)) i)) (nI i) = some (nI (cmN (fun q => decide (0 < nu q)) 8), I, J) := by
  intro g
  induction g with
  | zero =>
    intro i n hi hn
    obtain ⟨n, rfl⟩ : ∃ k, n = k + 1 := ⟨n - 1, by omega⟩
    have : i = 8 := by omega
    subst this
    simp (disch := omega) only [f_M_forget_b78, ↓bnd_in, ↓Option.bind_some, ↓bd2_some, ↓bd3_some, ↓bd4_some, ↓ew_mr hL, ↓ew_00 hL, ↓ew_01 hL, ↓ew_02 hL, ↓ew_1r hL, ↓ew_lr hL, ↓ew_30 hL, ↓ew_31 hL, ↓ew_4r hL, ↓ew_ltr hL, ↓gd_m hL, ↓gd_0 hL, gd_t, Option.bind_some, bd2_some, bd3_some, bd4_some, gm_some, gm_none, ↓reduceIte, or_self, or_false, false_or, or_true, true_or, and_self, and_true, true_and, and_false, false_and, not_false_eq_true, not_true_eq_false, Nat.reduceAdd, Nat.reduceMul, Int32.reduceLT, Int32.reduceLE, eq_self, ev_lit, ev_10, Int32.reduceToNatClampNeg, Nat.reduceLeDiff, Nat.reduceEqDiff, Nat.reduceLT, nI_clamp, ev_ng, ev_L1, ev_L2, ev_L3, ev_K1, ev_K2, ev_K3, ev_K4, ev_K5, ev_a1, ev_m1, ev_s1, ev_s2, nI_add, ev_nle, ev_le, ev_lt, ev_nlt, ev_ne, ev_eq, ev_uI hL, ev_uJ hL, ev_m hL, ev_mr hL, ev_mt hL, ev_mz hL, ev_mj hL, ev_n8 hL, ev_n64 hL, ev_n229 hL, ev_n254 hL, ev_n257 hL, ev_n259 hL, ev_n260 hL, ev_n261 hL, ev_0 hL, ev_00 hL, ev_01 hL, ev_02 hL, ev_1 hL, ev_1n hL, ev_1r hL, ev_lg hL, ev_lr hL, ev_sr hL, ev_2 hL, ev_2n hL, ev_3 hL, ev_30 hL, ev_31 hL, ev_4 hL, ev_4n hL, ev_5 hL, ev_5n hL, ev_4r hL, ev_lt1 hL, ev_ltr hL, ev_lnt hL, ev_lnn hL, ev_7 hL, ev_7n hL, ev_uE, ev_uK]
  | succ g ih =>
    intro i n hi hn
    obtain ⟨n, rfl⟩ : ∃ k, n = k + 1 := ⟨n - 1, by omega⟩
    have ihn := ih (i + 1) n (by omega) (by omega)
    obtain ⟨hb, e1, -⟩ := h.1 i (by omega)
    by_cases e : nu i = 0
    · rw [show cmN (fun q => decide (0 < nu q)) (i + 1) = cmN (fun q => decide (0 < nu q)) i by
        show cmN (fun q => decide (0 < nu q)) i + (if decide (0 < nu i) then 1 else 0) = _
        rw [e]; rfl] at ihn
      have ez : nI (cmN (fun q => decide (0 < nu q)) i) + 0 = nI (cmN (fun q => decide (0 < nu q)) i) := Int32.add_zero _
      simp (disch := omega) only [f_M_forget_b78, e1, f_M_forget_b101, ez, ↓bnd_in, ↓Option.bind_some, ↓bd2_some, ↓bd3_some, ↓bd4_some, ↓ew_mr hL, ↓ew_00 hL, ↓ew_01 hL, ↓ew_02 hL, ↓ew_1r hL, ↓ew_lr hL, ↓ew_30 hL, ↓ew_31 hL, ↓ew_4r hL, ↓ew_ltr hL, ↓gd_m hL, ↓gd_0 hL, gd_t, Option.bind_some, bd2_some, bd3_some, bd4_some, gm_some, gm_none, ↓reduceIte, or_self, or_false, false_or, or_true, true_or, and_self, and_true, true_and, and_false, false_and, not_false_eq_true, not_true_eq_false, Nat.reduceAdd, Nat.reduceMul, Int32.reduceLT, Int32.reduceLE, eq_self, ev_lit, ev_10, Int32.reduceToNatClampNeg, Nat.reduceLeDiff, Nat.reduceEqDiff, Nat.reduceLT, nI_clamp, ev_ng, ev_L1, ev_L2, ev_L3, ev_K1, ev_K2, ev_K3, ev_K4, ev_K5, ev_a1, ev_m1, ev_s1, ev_s2, nI_add, ev_nle, ev_le, ev_lt, ev_nlt, ev_ne, ev_eq, ev_uI hL, ev_uJ hL, ev_m hL, ev_mr hL, ev_mt hL, ev_mz hL, ev_mj hL, ev_n8 hL, ev_n64 hL, ev_n229 hL, ev_n254 hL, ev_n257 hL, ev_n259 hL, ev_n260 hL, ev_n261 hL, ev_0 hL, ev_00 hL, ev_01 hL, ev_02 hL, ev_1 hL, ev_1n hL, ev_1r hL, ev_lg hL, ev_lr hL, ev_sr hL, ev_2 hL, ev_2n hL, ev_3 hL, ev_30 hL, ev_31 hL, ev_4 hL, ev_4n hL, ev_5 hL, ev_5n hL, ev_4r hL, ev_lt1 hL, ev_ltr hL, ev_lnt hL, ev_lnn hL, ev_7 hL, ev_7n hL, ev_uE, ev_uK]
      exact ihn
    · rw [show cmN (fun q => decide (0 < nu q)) (i + 1) = cmN (fun q => decide (0 < nu q)) i + 1 by
        show cmN (fun q => decide (0 < nu q)) i + (if decide (0 < nu i) then 1 else 0) = _
        rw [decide_eq_true (show 0 < nu i by omega)]; rfl] at ihn
      simp (disch := omega) only [f_M_forget_b78, e1, f_M_forget_b101, ↓bnd_in, ↓Option.bind_some, ↓bd2_some, ↓bd3_some, ↓bd4_some, ↓ew_mr hL, ↓ew_00 hL, ↓ew_01 hL, ↓ew_02 hL, ↓ew_1r hL, ↓ew_lr hL, ↓ew_30 hL, ↓ew_31 hL, ↓ew_4r hL, ↓ew_ltr hL, ↓gd_m hL, ↓gd_0 hL, gd_t, Option.bind_some, bd2_some, bd3_some, bd4_some, gm_some, gm_none, ↓reduceIte, or_self, or_false, false_or, or_true, true_or, and_self, and_true, true_and, and_false, false_and, not_false_eq_true, not_true_eq_false, Nat.reduceAdd, Nat.reduceMul, Int32.reduceLT, Int32.reduceLE, eq_self, ev_lit, ev_10, Int32.reduceToNatClampNeg, Nat.reduceLeDiff, Nat.reduceEqDiff, Nat.reduceLT, nI_clamp, ev_ng, ev_L1, ev_L2, ev_L3, ev_K1, ev_K2, ev_K3, ev_K4, ev_K5, ev_a1, ev_m1, ev_s1, ev_s2, nI_add, ev_nle, ev_le, ev_lt, ev_nlt, ev_ne, ev_eq, ev_uI hL, ev_uJ hL, ev_m hL, ev_mr hL, ev_mt hL, ev_mz hL, ev_mj hL, ev_n8 hL, ev_n64 hL, ev_n229 hL, ev_n254 hL, ev_n257 hL, ev_n259 hL, ev_n260 hL, ev_n261 hL, ev_0 hL, ev_00 hL, ev_01 hL, ev_02 hL, ev_1 hL, ev_1n hL, ev_1r hL, ev_lg hL, ev_lr hL, ev_sr hL, ev_2 hL, ev_2n hL, ev_3 hL, ev_30 hL, ev_31 hL, ev_4 hL, ev_4n hL, ev_5 hL, ev_5n hL, ev_4r hL, ev_lt1 hL, ev_ltr hL, ev_lnt hL, ev_lnn hL, ev_7 hL, ev_7n hL, ev_uE, ev_uK]
      exact ihn
end FG
