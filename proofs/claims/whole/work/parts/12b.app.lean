-- Readings come: record and fill
theorem pu_tot_split {φ : Int → Int} {f : Nat → Int} (n : Nat) : ∀ k, pu_tot φ f (n + k) = pu_tot φ f n + pu_tot φ (fun i => f (n + i)) k
  | 0 => by show pu_tot φ f n = pu_tot φ f n + 0; omega
  | k + 1 => by
    show pu_tot φ f (n + k) + φ (f (n + k)) = pu_tot φ f n + (pu_tot φ (fun i => f (n + i)) k + φ (f (n + k)))
    rw [pu_tot_split n k]; omega
theorem same_rd {M M' : gMI} {l n : Nat} {f g : Nat → Int} (hf : f = g) (h : ∀ i, i < n → rdM M' l i = rdM M l i) (hs : pu_same g (rdM M l) n) : pu_same f (rdM M' l) n := fun φ => by
  rw [hf, hs φ]
  exact (pu_tot_congr (fun i hi => (h i hi).symm))
/-- what changes where logger l, of n readings, gets more -/
def pApp (l n : Nat) (c k : Nat) : Prop := c = 16 + l ∨ c = 24 + l ∨ (c = 6 ∧ k = 0) ∨ (c = 229 ∧ 500 * l + n ≤ k ∧ k < 500 * l + 500) ∨ (c = 228 ∧ k = l)
theorem lcn_congr {M M' : gMI} {l : Nat} {z : Option Nat} {a b : Int} (h : ∀ i, i < z.getD 0 → rdM M' l i = rdM M l i) : lcn M' l z a b = lcn M l z a b := pu_tot_congr h
theorem lcs_congr {M M' : gMI} {fz : Nat → Option Nat} {a b : Int} : ∀ {n : Nat}, (∀ l, l < n → ∀ i, i < (fz l).getD 0 → rdM M' l i = rdM M l i) → lcs M' fz a b n = lcs M fz a b n
  | 0, _ => rfl
  | n + 1, h => by
    show lcs M' fz a b n + lcn M' n (fz n) a b = lcs M fz a b n + lcn M n (fz n) a b
    rw [lcs_congr (fun l hl => h l (by omega)), lcn_congr (h n (by omega))]
/-- a frozen part holds no more readings than there are -/
theorem RFz.le {M : gMI} {q l s : Nat} {z : Option Nat} (h : RFz M q l s z) : z.getD 0 ≤ s := by
  cases z with
  | none => exact Nat.zero_le s
  | some n => exact h.2.1
theorem RFz.app {M M' : gMI} {q l s s' : Nat} {z : Option Nat} (h : RFz M q l s z) (hs : s ≤ s') (h1 : M' (300 + 40 * q + 1) l = M (300 + 40 * q + 1) l) (h2 : M' 243 (8 * q + l) = M 243 (8 * q + l)) (h3 : M' (300 + 40 * q + 18 + l) 1 = M (300 + 40 * q + 18 + l) 1) (h4 : M' (300 + 40 * q + 26 + l) = M (300 + 40 * q + 26 + l)) (h5 : ∀ i, i < s → rdM M' l i = rdM M l i) : RFz M' q l s' z := by
  have e : rI M' (300 + 40 * q + 26 + l) = rI M (300 + 40 * q + 26 + l) := by unfold rI; rw [h4]
  cases z with
  | none =>
    obtain ⟨a, c⟩ := h
    exact ⟨by rw [h1, h2]; exact a, by show M' 243 (8 * q + l) = -1; rw [h2]; exact c⟩
  | some n =>
    obtain ⟨a, c1, c2, c3, c4, c5⟩ := h
    exact ⟨by rw [h1, h2]; exact a, Nat.le_trans c1 hs, by rw [h2]; exact c2, by rw [h3]; exact c3, by rw [e]; exact c4, same_rd e (fun i hi => h5 i (by omega)) c5⟩
theorem Inv.rd {M M' : gMI} {c N b : Nat} {nu : Nat → Nat} {fz : Nat → Nat → Option Nat} {cm : Nat → Nat → Bool} {P : Nat → Nat → Prop} (hI : Inv M c N b nu fz cm) (h : agr P M M') (hP : ∀ c k, P c k → c < 32 ∨ (c = 229 ∨ c = 228 ∨ c = 227)) (hrd : ∀ q, q < 8 → 0 < nu q → ∀ l, l < 8 → ∀ i, i < (fz q l).getD 0 → rdM M' l i = rdM M l i) : Inv M' c N b nu fz cm := by
  have g : ∀ c k, 32 ≤ c → c ≠ 229 → c ≠ 228 → c ≠ 227 → M' c k = M c k := fun c k a1 a2 a3 a4 => h c k (fun q => by
    have := hP c k q
    omega)
  obtain ⟨i1, i2⟩ := hI
  constructor
  · unfold VLt at i1 ⊢
    simp (disch := omega) only [g _ _]
    exact i1
  · intro q hq hn
    obtain ⟨v1, tq, sq, w1, w2, w3, w4, w5⟩ := i2 q hq hn
    have e1 : ∀ l, l < 8 → ∀ a b, lcn M' l (fz q l) a b = lcn M l (fz q l) a b := fun l hl a b => lcn_congr (hrd q hq hn l hl)
    have e2 : ∀ a b, lcs M' (fz q) a b 8 = lcs M (fz q) a b 8 := fun a b => lcs_congr (fun l hl => hrd q hq hn l hl)
    have eA : ∀ f, f < 8 → ∀ x y am, VAn M q f (fz q) x y am → VAn M' q f (fz q) x y am := fun f hf x y am hv => by
      unfold VAn at hv ⊢
      simp (disch := omega) only [g _ _]
      rw [e1 f hf]
      exact hv
    constructor
    · obtain ⟨u1, u2, u3⟩ := v1
      refine ⟨by simp (disch := omega) only [g _ _]; exact u1, by simp (disch := omega) only [g _ _]; exact u2, fun h0 => ?_⟩
      rw [g _ _ (by omega) (by omega) (by omega) (by omega)] at h0
      obtain ⟨x1, x2, x3, x4, x5⟩ := u3 h0
      refine ⟨by simp (disch := omega) only [g _ _]; exact x1, by simp (disch := omega) only [g _ _]; exact x2, fun l hl hc => ?_, ?_, by simp (disch := omega) only [g _ _]; exact x5⟩
      · simp (disch := omega) only [g _ _]
        exact eA l hl _ _ _ (x3 l hl hc)
      · simp (disch := omega) only [g _ _]
        rw [e2]
        exact x4
    · refine ⟨tq, sq, w1, w2, by simp (disch := omega) only [g _ _]; exact w3, by simp (disch := omega) only [g _ _]; exact w4, fun i hi he => ?_⟩
      have he : M 259 (7 * i + 1) = M 231 q := by
        rw [g _ _ (by omega) (by omega) (by omega) (by omega), g _ _ (by omega) (by omega) (by omega) (by omega)] at he
        exact he
      obtain ⟨tt, ss, y1, y2, y3, y4, y5, y6, y7⟩ := w5 i hi he
      refine ⟨tt, ss, y1, y2, by simp (disch := omega) only [g _ _]; exact y3, by simp (disch := omega) only [g _ _]; exact y4, y5, ?_, ?_⟩
      · simp (disch := omega) only [g _ _]
        intro h7 t ht hto
        rw [e1 t ht]
        exact y6 h7 t ht hto
      · intro a1 a2 a3
        rw [g _ _ (by omega) (by omega) (by omega) (by omega)] at a3
        have hv := y7 a1 a2 a3
        unfold VCu at hv ⊢
        simp (disch := omega) only [g _ _]
        rcases hv with hv | ⟨hv1, hv2⟩
        · exact Or.inl hv
        · exact Or.inr ⟨hv1, fun f hf hq' => eA f hf _ _ _ (hv2 f hf hq')⟩
