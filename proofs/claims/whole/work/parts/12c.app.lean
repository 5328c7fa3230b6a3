theorem RPost.congr {M M' : gMI} {K K' : gMJ} {c : Nat} {pi am : Nat → Nat} (hr : RPost M K c pi am) (g : ∀ c k, (c = 3 ∨ c = 5 ∨ (32 ≤ c ∧ c < 226) ∨ c = 259 ∨ c = 260) → M' c k = M c k) (g6 : M' 6 32 = M 6 32) (gk : ∀ c k, ((32 ≤ c ∧ c < 226) ∨ c = 261) → K' c k = K c k) : RPost M' K' c pi am := by
  obtain ⟨h1, h2, h3, h4, h5, h6⟩ := hr
  refine ⟨h1, by rw [g _ _ (by omega)]; exact h2, by rw [g6]; exact h3, by simp (disch := omega) only [g _ _]; exact h4, h5, fun i hi => ?_⟩
  have hp := (h4 i (by omega)).1
  have hl := h6 i hi
  unfold RLet at hl ⊢
  simp (disch := omega) only [g _ _, gk _ _]
  exact hl
/-- logger l gets more readings: class and reference stand alike again -/
theorem Rel.app {M M' : gMI} {K : gMJ} {ex : Nat → Bool} {b c N : Nat} {sz pi am nu : Nat → Nat} {fz : Nat → Nat → Option Nat} {cm : Nat → Nat → Bool} {gc : Nat → Nat → Nat} {l n' : Nat} (hl : l < 8) (hN : N ≤ b) (h1 : RLgs M sz) (h2 : RPost M K c pi am) (h3 : RQs M K ex sz fz cm gc nu N) (h4 : Inv M c N b nu fz cm) (h : agr (pApp l (sz l)) M M') (hn : sz l ≤ n') (hnew : RLg M' l n') : Rel M' K ex b := by
  have hrd : ∀ l', l' < 8 → ∀ i, i < sz l' → rdM M' l' i = rdM M l' i := fun l' hl' i hi => by
    have hs := (h1 l' hl').2.1
    unfold rdM
    rw [h 229 (500 * l' + i) (by
      unfold pApp
      by_cases e : l' = l
      · subst e; omega
      · omega)]
  refine ⟨fun x => if x = l then n' else sz x, c, pi, am, fz, cm, gc, nu, N, hN, ?_, ?_, ?_, ?_⟩
  · intro l' hl'
    obtain ⟨u, r1, r2, r3, r4, r5⟩ := h1 l' hl'
    refine ⟨?_, ?_⟩
    · unfold agr pApp at h
      unfold RUp at u ⊢
      simp (disch := omega) only [h _ _]
      exact u
    · show RLg M' l' (if l' = l then n' else sz l')
      by_cases e : l' = l
      · rw [if_pos e, e]; exact hnew
      · rw [if_neg e]
        have hx : M' (24 + l') = M (24 + l') := by
          funext k
          exact h _ _ (by unfold pApp; omega)
        exact ⟨r1, by rw [h _ _ (by unfold pApp; omega)]; exact r2, by rw [h _ _ (by unfold pApp; omega)]; exact r3, by unfold rI at r4 ⊢; rw [hx]; exact r4, same_rd (by unfold rI; rw [hx]) (hrd l' hl') r5⟩
  · exact h2.congr (fun c k hc => h c k (by unfold pApp; omega)) (h 6 32 (by unfold pApp; omega)) (fun _ _ _ => rfl)
  · obtain ⟨a1, a2, a3, a4, a5, a6⟩ := h3
    have g : ∀ c k, (c = 0 ∨ 230 ≤ c) → M' c k = M c k := fun c k hc => h c k (by unfold pApp; omega)
    refine ⟨by rw [g _ _ (by omega)]; exact a1, by rw [h _ _ (by unfold pApp; omega)]; exact a2, a3, by simp (disch := omega) only [g _ _]; exact a4, a5, fun q hq => ⟨fun he => ?_, (a6 q hq).2⟩⟩
    obtain ⟨b1, b2, b3, b4, b5, b6⟩ := (a6 q hq).1 he
    refine ⟨?_, fun l' hl' => ?_, ?_, ?_, ?_, ?_⟩
    · unfold RQf at b1 ⊢
      simp (disch := omega) only [g _ _]
      exact b1
    · refine (b2 l' hl').app ?_ (g _ _ (by omega)) (g _ _ (by omega)) (g _ _ (by omega)) (funext fun k => g _ k (by omega)) (hrd l' hl')
      show sz l' ≤ if l' = l then n' else sz l'
      by_cases e : l' = l
      · rw [if_pos e, e]; exact hn
      · rw [if_neg e]; exact Nat.le_refl _
    · unfold RRe at b3 ⊢
      simp (disch := omega) only [g _ _]
      exact b3
    · unfold RGv rI at b4 ⊢
      simp (disch := omega) only [g _ _]
      exact b4
    · unfold RAs at b5 ⊢
      simp (disch := omega) only [g _ _]
      exact b5
    · unfold RAn at b6 ⊢
      simp (disch := omega) only [g _ _]
      exact b6
  · refine h4.rd h (fun c k q => by unfold pApp at q; omega) (fun q hq hu l' hl' i hi => hrd l' hl' i ?_)
    have he : ex q = true := by
      cases e : ex q with
      | true => rfl
      | false =>
        have := (h3.2.2.2.2.2 q hq).2 e
        omega
    have := ((h3.2.2.2.2.2 q hq).1 he).2.1 l' hl'
    have := this.le
    omega
section APP
variable {S : gS} {A : Nat → Nat} {ex : Nat → Bool} {I I' : gMI} {J : gMJ} {b : Nat}
theorem Lay.row (hL : Lay S A ex) {l n : Nat} (hl : l < 8) (h : RLg (cI A I) l n) : RowOk S I (A (16 + l)) (A (24 + l)) 500 n := by
  obtain ⟨g1, g2, g3, g4, g5, g6, g7⟩ := hL.lg hl
  exact ⟨g4, g5, g6, g7, by decide, h.2.1, h.1, h.2.2.2.1⟩
/-- the k-th of a fill -/
def fv (x y mk : Int32) (j : Nat) : Int32 := (x + nI j * y) ^^^ ((nI j * 40503) &&& mk)
theorem H_fill_loop (hL : Lay S A ex) {l k : Nat} (hl : l < 8) (hk : k ≤ 500) (x y mk : Int32) : ∀ (g j n m : Nat) (I : gMI), j + g = k → g < m → RowOk S I (A (16 + l)) (A (24 + l)) 500 n → n + g ≤ 500 → ∃ I' : gMI, f_H_fill_b37 S J m I (nI k) x y mk (A (8 + l)) (nI j) = some (0, nI (n + g), I') ∧ RowOk S I' (A (16 + l)) (A (24 + l)) 500 (n + g) ∧ (∀ b, b ≠ A (16 + l) → b ≠ A (24 + l) → I' b = I b) ∧ ∀ φ : Int → Int, pu_tot φ (rI I' (A (24 + l))) (n + g) = pu_tot φ (rI I (A (24 + l))) n + pu_tot φ (fun i => (fv x y mk (j + i)).toInt) g := by
  obtain ⟨g1, g2, g3, g4, g5, g6, g7⟩ := hL.lg hl
  intro g
  induction g with
  | zero =>
    intro j n m I hj hm hr hn
    obtain ⟨m, rfl⟩ : ∃ k, m = k + 1 := ⟨m - 1, by omega⟩
    refine ⟨I, ?_, hr, fun _ _ _ => rfl, fun φ => ?_⟩
    · rw [f_H_fill_b37, if_pos (nI_le (by omega) (by omega)), gd_in g2, g3, Option.bind_some, gd_in g4, hr.2.2.2.2.2.1]; rfl
    · show pu_tot φ (rI I (A (24 + l))) n = _ + 0
      omega
  | succ g ih =>
    intro j n m I hj hm hr hn
    obtain ⟨m, rfl⟩ : ∃ k, m = k + 1 := ⟨m - 1, by omega⟩
    obtain ⟨I1, e1, r1, f1, t1⟩ := F_insert (J := J) hr (by omega) (fv x y mk j)
    obtain ⟨I2, e2, r2, f2, t2⟩ := ih (j + 1) (n + 1) m I1 (by omega) (by omega) r1 (by omega)
    rw [show n + 1 + g = n + (g + 1) by omega] at e2 r2 t2
    refine ⟨I2, ?_, r2, fun b h1 h2 => (f2 b h1 h2).trans (f1 b h1 h2), fun φ => ?_⟩
    · rw [f_H_fill_b37, if_neg (nI_ge (by omega) (by omega)), gd_in g2, g3, Option.bind_some, gd_in g4]
      rw [show (x + nI j * y) ^^^ ((nI j * (40503 : Int32)) &&& mk) = fv x y mk j from rfl, e1, Option.bind_some, bnd, nI_1]
      exact e2
    · have hsp := pu_tot_split (φ := φ) (f := fun i => (fv x y mk (j + i)).toInt) 1 g
      rw [show 1 + g = g + 1 by omega] at hsp
      rw [t2 φ, t1 φ, hsp]
      have e3 : pu_tot φ (fun i => (fv x y mk (j + i)).toInt) 1 = φ (fv x y mk j).toInt := by
        show (0 : Int) + φ (fv x y mk (j + 0)).toInt = _
        rw [Nat.add_zero]; omega
      have e4 : pu_tot φ (fun i => (fun i => (fv x y mk (j + i)).toInt) (1 + i)) g = pu_tot φ (fun i => (fv x y mk (j + 1 + i)).toInt) g := pu_tot_congr (fun i _ => by show (fv x y mk (j + (1 + i))).toInt = _; rw [show j + (1 + i) = j + 1 + i by omega])
      rw [e3, e4]; omega
theorem M_fill_loop {m : Nat} {R : Nat → Nat} (hR : RefL S m R) {l k n : Nat} (hl : l < 8) (hk : n + k ≤ 500) (x y mk : Int32) : ∀ (g j f : Nat) (I : gMI), j + g = k → g < f → I (R 2) l = nI n → ∃ I' : gMI, f_M_fill_b70 S J f I m (nI l) (nI k) x y mk (nI j) = some (nI (n + k), I') ∧ (∀ i, j ≤ i → i < k → I' (R 3) (500 * l + n + i) = fv x y mk i) ∧ I' (R 2) l = nI (n + k) ∧ ∀ c d, ¬ (c = R 3 ∧ 500 * l + n + j ≤ d ∧ d < 500 * l + n + k) → ¬ (c = R 2 ∧ d = l) → I' c d = I c d := by
  have hne : R 2 ≠ R 3 := fun q => absurd (hR.2.2 2 3 (by unfold rA; decide) (by unfold rA; decide) q) (by decide)
  intro g
  induction g with
  | zero =>
    intro j f I hj hf hs
    obtain ⟨f, rfl⟩ : ∃ k, f = k + 1 := ⟨f - 1, by omega⟩
    refine ⟨upI I (R 2) l (nI (n + k)), ?_, fun i a1 a2 => by omega, by rw [upI_at, pk_us], fun c d h1 h2 => by rw [upI_to, if_neg h2]⟩
    rw [f_M_fill_b70, if_pos (nI_le (by omega) (by omega)), gd_in hR.1, hR.r 2, Option.bind_some, gd_in (hR.t 2), gd_in (by rw [hR.n 2 (t := 8)]; exact nI_in hl (by decide)), nI_clamp (by omega), hs, nI_add, bnd, upI_at, pk_us]
  | succ g ih =>
    intro j f I hj hf hs
    obtain ⟨f, rfl⟩ : ∃ k, f = k + 1 := ⟨f - 1, by omega⟩
    obtain ⟨I', e, a1, a2, a3⟩ := ih (j + 1) f (upI I (R 3) (500 * l + n + j) (fv x y mk j)) (by omega) (by omega) (by rw [upI_ne hne]; exact hs)
    refine ⟨I', ?_, fun i b1 b2 => ?_, a2, fun c d h1 h2 => ?_⟩
    · rw [f_M_fill_b70, if_neg (nI_ge (by omega) (by omega)), gd_in hR.1, hR.r 3, Option.bind_some, hR.r 2, Option.bind_some, gd_in (hR.t 2), gd_in (by rw [hR.n 2 (t := 8)]; exact nI_in hl (by decide)), gd_in (hR.t 3), nI_clamp (by omega), hs, show (500 : Int32) * nI l + nI n = nI (500 * l + n) from nx2 500 l n, nI_add, gd_in (by rw [hR.n 3 (t := 4000)]; exact nI_in (by omega) (by omega)), nI_clamp (by omega), bnd, bnd, nI_1]
      rw [show (x + y * nI j) ^^^ ((nI j * (40503 : Int32)) &&& mk) = fv x y mk j by unfold fv; rw [Int32.mul_comm y]]
      exact e
    · by_cases q : i = j
      · subst q
        rw [a3 (R 3) (500 * l + n + i) (by omega) (fun q => hne q.1.symm), upI_at, pk_us]
      · exact a1 i (by omega) b2
    · rw [a3 c d (by omega) h2, upI_to, if_neg (by omega)]
end APP
