-- What one question's change leaves of the relation
/-- cells that the relation of question p reads -/
def own (p d k : Nat) : Prop := (300 + 40 * p ≤ d ∧ d < 340 + 40 * p) ∨ (231 ≤ d ∧ d ≤ 252 ∧ d ≠ 243 ∧ k = p) ∨ ((d = 243 ∨ d = 253 ∨ d = 255 ∨ d = 256) ∧ 8 * p ≤ k ∧ k < 8 * p + 8) ∨ (d = 254 ∧ 32 * p ≤ k ∧ k < 32 * p + 32) ∨ (d = 257 ∧ 512 * p ≤ k ∧ k < 512 * p + 512)
def inQ (q d k : Nat) : Prop := own q d k ∨ d = 262 ∨ (d = 6 ∧ (k = 0 ∨ k = 37 ∨ k = 4)) ∨ (d = 0 ∧ k = 3)
section QU
variable {M M' : gMI} {K K' : gMJ} {ex ex' : Nat → Bool} {b b' c N N' q u : Nat} {sz pi am nu : Nat → Nat} {fz : Nat → Nat → Option Nat} {cm : Nat → Nat → Bool} {gc : Nat → Nat → Nat}
theorem RFz.congr {p l s : Nat} {z : Option Nat} (h : RFz M p l s z) (hl : l < 8) (hM : ∀ d k, own p d k ∨ d = 229 → M' d k = M d k) : RFz M' p l s z := by
  unfold own at hM
  unfold RFz at h ⊢
  refine ⟨by rw [hM _ _ (by omega), hM _ _ (by omega)]; exact h.1, ?_⟩
  cases z with
  | none => exact (hM _ _ (by omega)).trans h.2
  | some n =>
    have h := h.2
    have e1 : rI M' (300 + 40 * p + 26 + l) = rI M (300 + 40 * p + 26 + l) := by
      funext i; unfold rI; rw [hM _ _ (by omega)]
    have e2 : rdM M' l = rdM M l := by
      funext i; unfold rdM; rw [hM _ _ (by omega)]
    dsimp only at h ⊢
    rw [e1, e2, hM _ _ (by omega), hM _ _ (by omega)]
    exact h
theorem RRe.congr {p : Nat} {z : Nat → Bool} (h : RRe M K p z) (hM : ∀ d k, own p d k ∨ d = 229 → M' d k = M d k) (hK : ∀ d k, own p d k → K' d k = K d k) : RRe M' K' p z := by
  unfold own at hM hK
  obtain ⟨c1, c2, c3, c4⟩ := h
  refine ⟨fun l hl => ?_, ?_, ?_, fun l hl hc k hk => ?_⟩
  · rw [hM _ _ (by omega), hM _ _ (by omega)]; exact c1 l hl
  · rw [hM _ _ (by omega)]; exact c2
  · rw [hK _ _ (by omega), c3]
    have : ∀ n, n ≤ 8 → cmS z (fun l => K 255 (8 * p + l)) n = cmS z (fun l => K' 255 (8 * p + l)) n := fun n hn => by
      induction n with
      | zero => rfl
      | succ n ih =>
        show _ + _ = _ + _
        rw [ih (by omega)]
        dsimp only
        rw [hK _ _ (by omega)]
    exact this 8 (by omega)
  · rw [hM _ _ (by omega), hM _ _ (by omega)]; exact c4 l hl hc k hk
theorem RGv.congr {p : Nat} {z : Nat → Bool} {g : Nat → Nat} (h : RGv M p z g) (hM : ∀ d k, own p d k ∨ d = 229 → M' d k = M d k) : RGv M' p z g := by
  unfold own at hM
  obtain ⟨c1, n, c2, c3, c4, c5⟩ := h
  have e1 : rI M' (300 + 40 * p + 9) = rI M (300 + 40 * p + 9) := by
    funext i; unfold rI; rw [hM _ _ (by omega)]
  refine ⟨fun l hl hz => ⟨(c1 l hl hz).1, by rw [hM _ _ (by omega)]; exact (c1 l hl hz).2⟩, n, c2, by rw [hM _ _ (by omega)]; exact c3, by rw [e1]; exact c4, fun φ => ?_⟩
  rw [e1, c5 φ]
  refine pu_rows_congr fun l hl => ⟨rfl, fun i hi => ?_⟩
  cases e : z l with
  | false => rw [e] at hi; exact absurd hi (Nat.not_lt_zero i)
  | true =>
    rw [e, if_pos rfl] at hi
    have := (c1 l hl e).1
    rw [hM _ _ (by omega)]
theorem RQ.congr {p : Nat} {f : Nat → Option Nat} {z : Nat → Bool} {g : Nat → Nat} (h : RQ M K p sz f z g) (hM : ∀ d k, own p d k ∨ d = 229 → M' d k = M d k) (hK : ∀ d k, own p d k → K' d k = K d k) : RQ M' K' p sz f z g := by
  obtain ⟨b1, b2, b3, b4, b5, b6⟩ := h
  have hM2 := hM
  unfold own at hM2
  have e42 := hM2 242 p (by omega)
  have e38 := hM2 238 p (by omega)
  refine ⟨?_, fun l hl => (b2 l hl).congr hl hM, b3.congr hM hK, fun e => (b4 (e42 ▸ e)).congr hM, fun e => ?_, fun e => ?_⟩
  · unfold RQf at b1 ⊢
    simp (disch := omega) only [hM2 _ _]
    exact b1
  · have b5 := b5 (e38 ▸ e)
    unfold RAs at b5 ⊢
    simp (disch := omega) only [hM2 _ _]
    exact b5
  · have b6 := b6 (e38 ▸ e)
    have hK2 := hK
    unfold own at hK2
    unfold RAn at b6 ⊢
    simp (disch := omega) only [hM2 _ _, hK2 _ _]
    exact b6
theorem lcn.congr (hM : ∀ k, M' 229 k = M 229 k) (l : Nat) (z : Option Nat) (a b : Int) : lcn M' l z a b = lcn M l z a b := by
  unfold lcn
  have : rdM M' l = rdM M l := by
    funext i; unfold rdM; rw [hM]
  rw [this]
theorem lcs.congr (hM : ∀ k, M' 229 k = M 229 k) (f : Nat → Option Nat) (a b : Int) : ∀ n, lcs M' f a b n = lcs M f a b n
  | 0 => rfl
  | n + 1 => by
    show _ + _ = _ + _
    rw [lcs.congr hM f a b n, lcn.congr hM]
theorem VQq.congr {p : Nat} {f : Nat → Option Nat} {z : Nat → Bool} (h : VQq M p f z) (hM : ∀ d k, own p d k ∨ d = 229 → M' d k = M d k) : VQq M' p f z := by
  have e1 := lcn.congr (M := M) (M' := M') (fun k => hM _ _ (Or.inr rfl))
  have e2 := lcs.congr (M := M) (M' := M') (fun k => hM _ _ (Or.inr rfl))
  unfold own at hM
  unfold VQq at h ⊢
  obtain ⟨x1, x2, x3⟩ := h
  rw [hM 238 p (by omega), hM 235 p (by omega), hM 242 p (by omega), hM 244 p (by omega), hM 245 p (by omega), hM 240 p (by omega), hM 232 p (by omega)]
  refine ⟨x1, x2, fun hs => ?_⟩
  obtain ⟨y1, y2, y3, y4, y5⟩ := x3 hs
  refine ⟨y1, y2, fun l hl hz => ?_, by rw [e2]; exact y4, y5⟩
  have := y3 l hl hz
  unfold VAn at this ⊢
  rw [hM _ _ (by omega), hM _ _ (by omega), hM _ _ (by omega), hM _ _ (by omega), hM _ _ (by omega), hM _ _ (by omega), e1]
  exact this
theorem VLq.congr {p i tq sq : Nat} {f : Nat → Option Nat} (h : VLq M i p f tq sq) (h9 : ∀ k, M' 259 k = M 259 k) (h0 : ∀ k, M' 260 k = M 260 k) (hM : ∀ d k, own p d k ∨ d = 229 → M' d k = M d k) : VLq M' i p f tq sq := by
  have e1 := lcn.congr (M := M) (M' := M') (fun k => hM _ _ (Or.inr rfl))
  unfold own at hM
  unfold VLq VCu VAn at h ⊢
  rw [hM 238 p (by omega), hM 242 p (by omega), hM 244 p (by omega), hM 245 p (by omega)]
  simp only [h9, h0, e1]
  exact h
theorem q_upd {f' : Nat → Option Nat} {m' : Nat → Bool} {g' : Nat → Nat} (h : R4 M K ex b sz c pi am fz cm gc nu N) (hq : q < 8) (hM : ∀ d k, ¬ inQ q d k → M' d k = M d k) (hK : ∀ d k, ¬ inQ q d k → d ≠ 6 → d ≠ 7 → K' d k = K d k)
    (hx : ∀ p, p ≠ q → ex' p = ex p) (hx' : ex' q = true) (hbb : b ≤ b') (hN : N ≤ N') (hN' : N' ≤ b') (hN2 : N' < 2 ^ 20) (e0 : M' 0 3 = nI N') (e4 : M' 6 4 = nI N') (hu : M' 231 q = nI u) (hu' : u ≤ N') (hud : ∀ p, p < 8 → p ≠ q → nu p = u → u = 0) (hQ : RQ M' K' q sz f' m' g')
    (hV : 0 < u → VQq M' q f' m' ∧ ∃ tq sq : Nat, tq ≤ b' ∧ sq ≤ b' ∧ M' 236 q = nI tq ∧ M' 237 q = nI sq ∧ ∀ i, i < c → M' 259 (7 * i + 1) = nI u → VLq M' i q f' tq sq) :
    R4 M' K' ex' b' sz c pi am (fun p => if p = q then f' else fz p) (fun p => if p = q then m' else cm p) (fun p => if p = q then g' else gc p) (fun p => if p = q then u else nu p) N' := by
  obtain ⟨h0, h1, h2, h3, h4⟩ := h
  have hoM : ∀ p, p < 8 → p ≠ q → ∀ d k, own p d k ∨ d = 229 → M' d k = M d k := fun p hp hne d k hd => hM d k (by unfold inQ; unfold own at hd ⊢; omega)
  have hoK : ∀ p, p < 8 → p ≠ q → ∀ d k, own p d k → K' d k = K d k := fun p hp hne d k hd => hK d k (by unfold inQ; unfold own at hd ⊢; omega) (by unfold own at hd; omega) (by unfold own at hd; omega)
  unfold inQ own at hM hK
  refine ⟨hN', ?_, ?_, ⟨e0, e4, hN2, fun p hp => ?_, fun p r hp hr hpr hpos => ?_, fun p hp => ?_⟩, fun i hi => ?_, fun p hp hpos => ?_⟩
  · intro l hl
    have hh := h1 l hl
    unfold RUp RLg rI rdM at hh ⊢
    simp (disch := omega) only [hM _ _]
    exact hh
  · unfold RPost RLet at h2 ⊢
    obtain ⟨p1, p2, p3, p4, p5, p6⟩ := h2
    refine ⟨p1, by rw [hM _ _ (by omega)]; exact p2, by rw [hM _ _ (by omega)]; exact p3, fun i hi => ⟨(p4 i hi).1, by rw [hM _ _ (by omega)]; exact (p4 i hi).2⟩, p5, fun i hi => ?_⟩
    have hpi := (p4 i (by omega)).1
    have := p6 i hi
    simp (disch := omega) only [hM _ _, hK _ _]
    exact this
  · obtain ⟨a1, a2, a3, a4, a5, a6⟩ := h3
    by_cases e : p = q
    · subst e
      dsimp only
      rw [if_pos rfl]; exact ⟨hu, hu'⟩
    · dsimp only
      rw [if_neg e, hM _ _ (by omega)]
      exact ⟨(a4 p hp).1, Nat.le_trans (a4 p hp).2 hN⟩
  · obtain ⟨a1, a2, a3, a4, a5, a6⟩ := h3
    dsimp only at hpr hpos
    by_cases e : p = q
    · rw [if_pos e] at hpr hpos
      by_cases e2 : r = q
      · rw [e, e2]
      · rw [if_neg e2] at hpr
        have := hud r hr e2 hpr.symm
        omega
    · rw [if_neg e] at hpr hpos
      by_cases e2 : r = q
      · rw [if_pos e2] at hpr
        have := hud p hp e hpr
        omega
      · rw [if_neg e2] at hpr
        exact a5 p r hp hr hpr hpos
  · obtain ⟨a1, a2, a3, a4, a5, a6⟩ := h3
    by_cases e : p = q
    · subst e
      refine ⟨fun _ => ?_, fun hf => ?_⟩
      · dsimp only
        rw [if_pos rfl, if_pos rfl, if_pos rfl]; exact hQ
      · rw [hx'] at hf; exact absurd hf (by decide)
    · dsimp only
      rw [hx p e, if_neg e, if_neg e, if_neg e, if_neg e]
      exact ⟨fun hh => ((a6 p hp).1 hh).congr (hoM p hp e) (hoK p hp e), (a6 p hp).2⟩
  · obtain ⟨ka, f, t, w, v1, v2, v3, v4, v5, v6, v7, v8, v9⟩ := h4.1 i hi
    exact ⟨ka, f, t, w, v1, v2, v3, v4, Nat.le_trans v5 hN, by rw [hM _ _ (by omega)]; exact v6, by rw [hM _ _ (by omega)]; exact v7, by rw [hM _ _ (by omega)]; exact v8, by rw [hM _ _ (by omega)]; exact v9⟩
  · by_cases e : p = q
    · subst e
      dsimp only at hpos ⊢
      rw [if_pos rfl] at hpos
      rw [if_pos rfl, if_pos rfl, hu]
      exact hV hpos
    · dsimp only at hpos ⊢
      rw [if_neg e] at hpos
      rw [if_neg e, if_neg e]
      obtain ⟨v1, tq, sq, w1, w2, w3, w4, w5⟩ := h4.2 p hp hpos
      refine ⟨v1.congr (hoM p hp e), tq, sq, by omega, by omega, by rw [hM _ _ (by omega)]; exact w3, by rw [hM _ _ (by omega)]; exact w4, fun i hi hei => ?_⟩
      rw [hM _ _ (by omega), hM _ _ (by omega)] at hei
      exact (w5 i hi hei).congr (fun k => hM _ _ (by omega)) (fun k => hM _ _ (by omega)) (hoM p hp e)
/-- the buffer of the reference, the thrown number and the out row are not read -/
theorem R4.buf (h : R4 M K ex b sz c pi am fz cm gc nu N) (hM : ∀ d k, ¬ (d = 6 ∧ (k = 0 ∨ k = 37)) → d ≠ 262 → M' d k = M d k) (hK : ∀ d k, d ≠ 6 → d ≠ 7 → K' d k = K d k) : R4 M' K' ex b sz c pi am fz cm gc nu N := by
  obtain ⟨h0, h1, h2, h3, h4⟩ := h
  refine ⟨h0, ?_, ?_, ?_, ?_⟩
  · intro l hl
    have hh := h1 l hl
    unfold RUp RLg rI rdM at hh ⊢
    simp (disch := omega) only [hM _ _]
    exact hh
  · unfold RPost RLet at h2 ⊢
    obtain ⟨p1, p2, p3, p4, p5, p6⟩ := h2
    refine ⟨p1, by rw [hM _ _ (by omega) (by omega)]; exact p2, by rw [hM _ _ (by omega) (by omega)]; exact p3, fun i hi => ⟨(p4 i hi).1, by rw [hM _ _ (by omega) (by omega)]; exact (p4 i hi).2⟩, p5, fun i hi => ?_⟩
    have hpi := (p4 i (by omega)).1
    have := p6 i hi
    simp (disch := omega) only [hM _ _, hK _ _]
    exact this
  · obtain ⟨a1, a2, a3, a4, a5, a6⟩ := h3
    refine ⟨by rw [hM _ _ (by omega) (by omega)]; exact a1, by rw [hM _ _ (by omega) (by omega)]; exact a2, a3, fun p hp => by rw [hM _ _ (by omega) (by omega)]; exact a4 p hp, a5, fun p hp => ⟨fun hh => ((a6 p hp).1 hh).congr (fun d k hd => hM _ _ (by unfold own at hd; omega) (by unfold own at hd; omega)) (fun d k hd => hK _ _ (by unfold own at hd; omega) (by unfold own at hd; omega)), (a6 p hp).2⟩⟩
  · refine ⟨fun i hi => ?_, fun p hp hpos => ?_⟩
    · have := h4.1 i hi
      unfold VLt at this ⊢
      simp (disch := omega) only [hM _ _]
      exact this
    · obtain ⟨v1, tq, sq, w1, w2, w3, w4, w5⟩ := h4.2 p hp hpos
      refine ⟨v1.congr (fun d k hd => hM _ _ (by unfold own at hd; omega) (by unfold own at hd; omega)), tq, sq, w1, w2, by rw [hM _ _ (by omega) (by omega)]; exact w3, by rw [hM _ _ (by omega) (by omega)]; exact w4, fun i hi hei => ?_⟩
      rw [hM _ _ (by omega) (by omega), hM _ _ (by omega) (by omega)] at hei
      exact (w5 i hi hei).congr (fun k => hM _ _ (by omega) (by omega)) (fun k => hM _ _ (by omega) (by omega)) (fun d k hd => hM _ _ (by unfold own at hd; omega) (by unfold own at hd; omega))
end QU
