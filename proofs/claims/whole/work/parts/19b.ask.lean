-- ask: what may be asked; the free place; codes in use
section ASKB
variable {S : gS} {A : Nat → Nat} {ex ex' : Nat → Bool} {b c N q : Nat} {sz pi am nu : Nat → Nat} {fz : Nat → Nat → Option Nat} {cm : Nat → Nat → Bool} {gc : Nat → Nat → Nat} {I Ic Ir : gMI} {J Jc Jr : gMJ}
theorem askable (k a : Int32) (I : gMI) (J : gMJ) (S : gS) : ((k = 0 ∨ k = 1 ∨ k = 2 ∨ k = 3 ∨ k = 4) ∧ f_H_isAskable S I J k a = some 1 ∧ ∀ I' J' p0 d bb, f_M_ask S I' J' p0 d k a bb = f_M_ask_b55 S I' J' 1 p0 d k a bb) ∨ (f_H_isAskable S I J k a = some 0 ∧ ∀ I' J' p0 d bb, f_M_ask S I' J' p0 d k a bb = f_M_ask_b55 S I' J' 0 p0 d k a bb) := by
  have g0 : ∀ {P : Prop} [Decidable P] {v : Int32} (hp : P), gd P (some v) = some v := fun hp => gd_in hp
  by_cases k0 : k = 0
  · subst k0
    by_cases h : a < 1
    · refine Or.inr ⟨?_, fun I' J' p0 d bb => ?_⟩
      · rw [f_H_isAskable, if_pos rfl, if_pos h, f_H_isAskable_b46, g0 (Or.inl rfl)]
      · rw [f_M_ask, if_neg (by decide), if_neg (by decide), if_pos rfl, if_pos h, f_M_ask_b54]
    · refine Or.inl ⟨Or.inl rfl, ?_, fun I' J' p0 d bb => ?_⟩
      · rw [f_H_isAskable, if_pos rfl, if_neg h, f_H_isAskable_b46, g0 (Or.inr rfl)]
      · rw [f_M_ask, if_neg (by decide), if_neg (by decide), if_pos rfl, if_neg h, f_M_ask_b18, if_neg (by decide), f_M_ask_b34, if_neg (by decide), f_M_ask_b50]
  by_cases k1 : k = 1
  · subst k1
    refine Or.inl ⟨Or.inr (Or.inl rfl), ?_, fun I' J' p0 d bb => ?_⟩
    · rw [f_H_isAskable, if_neg (by decide), if_pos rfl, if_pos rfl, f_H_isAskable_b91, f_H_isAskable_b96, g0 (Or.inr rfl)]
    · rw [f_M_ask, if_neg (by decide), if_neg (by decide), if_neg (by decide), f_M_ask_b18, if_neg (by decide), f_M_ask_b34, if_neg (by decide), f_M_ask_b50]
  by_cases k2 : k = 2
  · subst k2
    by_cases h : a < 0
    · refine Or.inr ⟨?_, fun I' J' p0 d bb => ?_⟩
      · rw [f_H_isAskable, if_neg (by decide), if_neg (by decide), if_pos rfl, if_pos h, f_H_isAskable_b62, f_H_isAskable_b63, g0 (Or.inl rfl)]
      · rw [f_M_ask, if_neg (by decide), if_neg (by decide), if_neg (by decide), f_M_ask_b18, if_pos rfl, if_pos h, f_M_ask_b54]
    · by_cases h2 : 499 < a
      · refine Or.inr ⟨?_, fun I' J' p0 d bb => ?_⟩
        · rw [f_H_isAskable, if_neg (by decide), if_neg (by decide), if_pos rfl, if_neg h, if_pos h2, f_H_isAskable_b62, f_H_isAskable_b63, g0 (Or.inl rfl)]
        · rw [f_M_ask, if_neg (by decide), if_neg (by decide), if_neg (by decide), f_M_ask_b18, if_pos rfl, if_neg h, if_pos h2, f_M_ask_b54]
      · refine Or.inl ⟨Or.inr (Or.inr (Or.inl rfl)), ?_, fun I' J' p0 d bb => ?_⟩
        · rw [f_H_isAskable, if_neg (by decide), if_neg (by decide), if_pos rfl, if_neg h, if_neg h2, f_H_isAskable_b63, g0 (Or.inr rfl)]
        · rw [f_M_ask, if_neg (by decide), if_neg (by decide), if_neg (by decide), f_M_ask_b18, if_pos rfl, if_neg h, if_neg h2, f_M_ask_b34, if_neg (by decide), f_M_ask_b50]
  by_cases k3 : k = 3
  · subst k3
    refine Or.inl ⟨Or.inr (Or.inr (Or.inr (Or.inl rfl))), ?_, fun I' J' p0 d bb => ?_⟩
    · rw [f_H_isAskable, if_neg (by decide), if_neg (by decide), if_neg (by decide), if_pos rfl, if_neg (by decide), if_pos rfl, f_H_isAskable_b91, f_H_isAskable_b96, g0 (Or.inr rfl)]
    · rw [f_M_ask, if_neg (by decide), if_neg (by decide), if_neg (by decide), f_M_ask_b18, if_neg (by decide), f_M_ask_b34, if_neg (by decide), f_M_ask_b50]
  by_cases k4 : k = 4
  · subst k4
    by_cases h : a < 0
    · refine Or.inr ⟨?_, fun I' J' p0 d bb => ?_⟩
      · rw [f_H_isAskable, if_neg (by decide), if_neg (by decide), if_neg (by decide), if_neg (by decide), if_pos rfl, if_pos h, f_H_isAskable_b79, f_H_isAskable_b80, g0 (Or.inl rfl)]
      · rw [f_M_ask, if_neg (by decide), if_neg (by decide), if_neg (by decide), f_M_ask_b18, if_neg (by decide), f_M_ask_b34, if_pos rfl, if_pos h, f_M_ask_b54]
    · by_cases h2 : 1000 < a
      · refine Or.inr ⟨?_, fun I' J' p0 d bb => ?_⟩
        · rw [f_H_isAskable, if_neg (by decide), if_neg (by decide), if_neg (by decide), if_neg (by decide), if_pos rfl, if_neg h, if_pos h2, f_H_isAskable_b79, f_H_isAskable_b80, g0 (Or.inl rfl)]
        · rw [f_M_ask, if_neg (by decide), if_neg (by decide), if_neg (by decide), f_M_ask_b18, if_neg (by decide), f_M_ask_b34, if_pos rfl, if_neg h, if_pos h2, f_M_ask_b54]
      · refine Or.inl ⟨Or.inr (Or.inr (Or.inr (Or.inr rfl))), ?_, fun I' J' p0 d bb => ?_⟩
        · rw [f_H_isAskable, if_neg (by decide), if_neg (by decide), if_neg (by decide), if_neg (by decide), if_pos rfl, if_neg h, if_neg h2, f_H_isAskable_b80, g0 (Or.inr rfl)]
        · rw [f_M_ask, if_neg (by decide), if_neg (by decide), if_neg (by decide), f_M_ask_b18, if_neg (by decide), f_M_ask_b34, if_pos rfl, if_neg h, if_neg h2, f_M_ask_b50]
  · refine Or.inr ⟨?_, fun I' J' p0 d bb => ?_⟩
    · rw [f_H_isAskable, if_neg k0, if_neg k1, if_neg k2, if_neg k3, if_neg k4, if_neg k1, if_neg k3, f_H_isAskable_b96, g0 (Or.inl rfl)]
    · rw [f_M_ask]
      by_cases h : k < 0
      · rw [if_pos h, f_M_ask_b54]
      · rw [if_neg h, if_pos ?_, f_M_ask_b54]
        have a1 : ¬ k.toInt < 0 := fun e => h (Int32.lt_iff_toInt_lt.mpr e)
        have n0 : k.toInt ≠ 0 := fun e => k0 (Int32.toInt_inj.mp e)
        have n1 : k.toInt ≠ 1 := fun e => k1 (Int32.toInt_inj.mp e)
        have n2 : k.toInt ≠ 2 := fun e => k2 (Int32.toInt_inj.mp e)
        have n3 : k.toInt ≠ 3 := fun e => k3 (Int32.toInt_inj.mp e)
        have n4 : k.toInt ≠ 4 := fun e => k4 (Int32.toInt_inj.mp e)
        exact Int32.lt_iff_toInt_lt.mpr (show (4 : Int) < k.toInt by omega)
/-- the reference's look for a free place -/
def pick (nu : Nat → Nat) : Nat → Int32 → Int32
  | 0, x => x
  | g + 1, x => pick nu g (if nu g = 0 then nI g else x)
theorem pick_spec : ∀ g x, (∃ q, q < g ∧ nu q = 0 ∧ (∀ p, p < q → 0 < nu p) ∧ pick nu g x = nI q) ∨ ((∀ p, p < g → 0 < nu p) ∧ pick nu g x = x)
  | 0, x => Or.inr ⟨fun p h => by omega, rfl⟩
  | g + 1, x => by
    rcases pick_spec g (if nu g = 0 then nI g else x) with ⟨q, h1, h2, h3, h4⟩ | ⟨h1, h2⟩
    · exact Or.inl ⟨q, by omega, h2, h3, h4⟩
    · by_cases e : nu g = 0
      · refine Or.inl ⟨g, by omega, e, h1, ?_⟩
        show pick nu g (if nu g = 0 then nI g else x) = _
        rw [h2, if_pos e]
      · refine Or.inr ⟨fun p hp => ?_, ?_⟩
        · by_cases ep : p = g
          · rw [ep]; omega
          · exact h1 p (by omega)
        · show pick nu g (if nu g = 0 then nI g else x) = _
          rw [h2, if_neg e]
theorem b64_loop (hL : Lay S A ex) (hnu : ∀ p, p < 8 → nu p < 2 ^ 20 ∧ I (A 231) p = nI (nu p)) (d k a bb l5 : Int32) : ∀ g n x, g ≤ 8 → g < n → f_M_ask_b64 S n I J (A 6) d k a bb l5 x (nI g - 1) = f_M_ask_b64 S (0 + 1) I J (A 6) d k a bb l5 (pick nu g x) (-1) := by
  intro g
  induction g with
  | zero =>
    intro n x hg hn
    obtain ⟨n, rfl⟩ : ∃ k, n = k + 1 := ⟨n - 1, by omega⟩
    have e : nI 0 - 1 = (-1 : Int32) := by decide
    have hm : (-1 : Int32) < 0 := by decide
    rw [e]
    show _ = f_M_ask_b64 S (0 + 1) I J (A 6) d k a bb l5 x (-1)
    rw [f_M_ask_b64, f_M_ask_b64, if_pos hm, if_pos hm]
  | succ g ih =>
    intro n x hg hn
    obtain ⟨n, rfl⟩ : ∃ k, n = k + 1 := ⟨n - 1, by omega⟩
    obtain ⟨h1, h2⟩ := hnu g (by omega)
    have e : nI (g + 1) - 1 = nI g := by rw [ev_s1 (by omega)]; rfl
    have e2 : nI g + (-1 : Int32) = nI g - 1 := by rw [Int32.sub_eq_add_neg]
    have hi := ih n (if nu g = 0 then nI g else x) (by omega) (by omega)
    rw [e, f_M_ask_b64, if_neg (nI_pos (by omega)), gd_m hL, ew_mr hL (by omega), gd_in (ev_mt hL (by omega)), gd_in (by rw [ev_n8 hL (by omega)]; exact nI_in (by omega) (by omega)), nI_clamp (by omega), h2]
    show _ = f_M_ask_b64 S (0 + 1) I J (A 6) d k a bb l5 (pick nu g (if nu g = 0 then nI g else x)) (-1)
    by_cases ez : nu g = 0
    · rw [if_pos (by rw [ez]; rfl), f_M_ask_b86, bnd_in, e2]
      rw [if_pos ez] at hi ⊢
      exact hi
    · have hz : ¬ nI (nu g) = 0 := fun u => ez ((ev_L3 (a := nu g) (b := 0) (by omega) (by omega)).mp u)
      rw [if_neg hz, f_M_ask_b86, bnd_in, e2]
      rw [if_neg ez] at hi ⊢
      exact hi
/-- the codes that stand for something -/
def usd (ex : Nat → Bool) (c : Nat) : Prop := (c < 263 ∧ c ≠ 226 ∧ c ≠ 230 ∧ c ≠ 258) ∨ ∃ p, p < 8 ∧ ex p = true ∧ 300 + 40 * p ≤ c ∧ c < 334 + 40 * p
theorem Rel.used {M M' : gMI} {K K' : gMJ} (hM : ∀ d k, usd ex d → M' d k = M d k) (hK : ∀ d k, usd ex d → K' d k = K d k) (h : Rel M K ex b) : Rel M' K' ex b := by
  obtain ⟨sz, c, pi, am, fz, cm, gc, nu, N, h0, h1, h2, h3, h4⟩ := h
  have m : ∀ d k, d < 263 ∧ d ≠ 226 ∧ d ≠ 230 ∧ d ≠ 258 → M' d k = M d k := fun d k hd => hM d k (Or.inl hd)
  have mk : ∀ d k, d < 263 ∧ d ≠ 226 ∧ d ≠ 230 ∧ d ≠ 258 → K' d k = K d k := fun d k hd => hK d k (Or.inl hd)
  have e1 : ∀ l z x y, lcn M' l z x y = lcn M l z x y := fun l z x y => lcn.congr (fun k => m 229 k (by omega)) l z x y
  have e2 : ∀ f x y n, lcs M' f x y n = lcs M f x y n := fun f x y n => lcs.congr (fun k => m 229 k (by omega)) f x y n
  refine ⟨sz, c, pi, am, fz, cm, gc, nu, N, h0, fun l hl => ?_, ?_, ⟨?_, ?_, ?_, ?_, h3.2.2.2.2.1, ?_⟩, fun i hi => ?_, fun q hq hn => ?_⟩
  · have := h1 l hl
    unfold RUp RLg rI rdM at this ⊢
    simp (disch := omega) only [m _ _]
    exact this
  · obtain ⟨p1, p2, p3, p4, p5, p6⟩ := h2
    refine ⟨p1, by rw [m _ _ (by omega)]; exact p2, by rw [m _ _ (by omega)]; exact p3, fun i hi => ⟨(p4 i hi).1, by rw [m _ _ (by omega)]; exact (p4 i hi).2⟩, p5, fun i hi => ?_⟩
    have hp := (p4 i (by omega)).1
    have := p6 i hi
    unfold RLet at this ⊢
    simp (disch := omega) only [m _ _, mk _ _]
    exact this
  · rw [m _ _ (by omega)]; exact h3.1
  · rw [m _ _ (by omega)]; exact h3.2.1
  · exact h3.2.2.1
  · intro q hq
    rw [m _ _ (by omega)]
    exact h3.2.2.2.1 q hq
  · intro q hq
    refine ⟨fun he => ?_, (h3.2.2.2.2.2 q hq).2⟩
    have hq2 : ∀ d k, (300 + 40 * q ≤ d ∧ d < 334 + 40 * q) → M' d k = M d k := fun d k hd => hM d k (Or.inr ⟨q, hq, he, hd⟩)
    have hq3 : ∀ d k, (300 + 40 * q ≤ d ∧ d < 334 + 40 * q) → K' d k = K d k := fun d k hd => hK d k (Or.inr ⟨q, hq, he, hd⟩)
    obtain ⟨b1, b2, b3, b4, b5, b6⟩ := (h3.2.2.2.2.2 q hq).1 he
    refine ⟨?_, fun l hl => ?_, b3.congr2 (fun d k hd => ?_) (fun d k hd => ?_), fun e => ?_, fun e => ?_, fun e => ?_⟩
    · unfold RQf at b1 ⊢
      simp (disch := omega) only [m _ _, hq2 _ _]
      exact b1
    · refine (b2 l hl).congr2 hl (fun d k hd => ?_)
      by_cases e : d = 243 ∨ d = 229
      · exact m _ _ (by omega)
      · exact hq2 _ _ (by omega)
    · by_cases e : d = 253 ∨ d = 254
      · exact m _ _ (by omega)
      · exact hq2 _ _ (by omega)
    · by_cases e : d = 255
      · exact mk _ _ (by omega)
      · exact hq3 _ _ (by omega)
    · rw [m _ _ (by omega)] at e
      refine (b4 e).congr2 (fun d k hd => ?_)
      by_cases e : d = 256 ∨ d = 257
      · exact m _ _ (by omega)
      · exact hq2 _ _ (by omega)
    · rw [m _ _ (by omega)] at e
      have b5 := b5 e
      unfold RAs at b5 ⊢
      simp (disch := omega) only [m _ _, hq2 _ _]
      exact b5
    · rw [m _ _ (by omega)] at e
      have b6 := b6 e
      unfold RAn at b6 ⊢
      simp (disch := omega) only [m _ _, hq2 _ _, mk _ _, hq3 _ _]
      exact b6
  · have := h4.1 i hi
    unfold VLt at this ⊢
    simp (disch := omega) only [m _ _]
    exact this
  · have := h4.2 q hq hn
    unfold VQq VLq VCu VAn at this ⊢
    simp (disch := omega) only [m _ _, e1, e2]
    exact this
end ASKB
