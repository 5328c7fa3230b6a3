-- SortedRow, further: at, within, sum, insert, copy
/-- longs that stay small -/
theorem lo_add1 {h : Int64} (hh : h.toInt < 2 ^ 62) : (h + 1).toInt = h.toInt + 1 := by
  have h0 : -2 ^ 63 ≤ h.toInt := h.le_toInt
  rw [Int64.toInt_add]
  rw [show (1 : Int64).toInt = 1 from rfl]
  exact Int.bmod_eq_of_le (by omega) (by omega)
theorem lo_sub1 {h : Int64} (hh : -2 ^ 62 < h.toInt) : (h - 1).toInt = h.toInt - 1 := by
  have h0 : h.toInt < 2 ^ 63 := h.toInt_lt
  rw [Int64.toInt_sub]
  rw [show (1 : Int64).toInt = 1 from rfl]
  exact Int.bmod_eq_of_le (by omega) (by omega)
theorem nI_sz {N n : Nat} (h : n < N) (hN : N < 2 ^ 31) : nI n < Int32.ofNat N := nI_lt h hN
section ROW2
variable {S : gS} {I : gMI} {J : gMJ} {a w cap n : Nat}
theorem RowOk.ne (hr : RowOk S I a w cap n) : a ≠ w := fun h => by
  have h1 := hr.1
  have h3 := hr.2.2.1
  rw [h, h3] at h1
  exact absurd h1 (by decide)
theorem F_at_in (hr : RowOk S I a w cap n) {k : Nat} (hk : k < n) : f_SortedRow_at S I J a (nI k) = some (I w k) := by
  obtain ⟨h1, h2, h3, h4, hc, hn, hle, hs⟩ := hr
  rw [f_SortedRow_at, if_neg (nI_pos (by omega)), gd_in h1, hn, if_neg (nI_ge hk (by omega)), h2, Option.bind_some, gd_in h3, gd_in (by rw [h4]; exact nI_in (by omega) (by omega)), nI_clamp (by omega)]
  rfl
theorem F_at_out (hr : RowOk S I a w cap n) {i : Int32} (hi : i < 0 ∨ nI n ≤ i) : f_SortedRow_at S I J a i = some 0 := by
  obtain ⟨h1, h2, h3, h4, hc, hn, hle, hs⟩ := hr
  rw [f_SortedRow_at]
  by_cases h : i < 0
  · rw [if_pos h]; rfl
  · rw [if_neg h, gd_in h1, hn, if_pos (hi.resolve_left h)]; rfl
theorem F_within (hr : RowOk S I a w cap n) {lo hi : Int64} (hh : hi.toInt < 2 ^ 62) : ∃ c : Nat, c ≤ n ∧ pu_cnt lo.toInt hi.toInt (rI I w) n = c ∧ f_SortedRow_within S I J a lo hi = some (nI c) := by
  obtain ⟨p1, l1, e1, f1⟩ := F_below (J := J) hr (hi + 1)
  obtain ⟨p2, l2, e2, f2⟩ := F_below (J := J) hr lo
  rw [lo_add1 hh] at e1
  have hcap := hr.2.2.2.2.1
  have hle := hr.2.2.2.2.2.2.1
  rw [f_SortedRow_within, gd_in hr.1, f1, Option.bind_some, f2, Option.bind_some]
  by_cases hab : lo.toInt ≤ hi.toInt + 1
  · have hs := pu_cnt_low lo.toInt hi.toInt hab (rI I w) n
    have h12 : p2 ≤ p1 := by
      have := (pu_cnt_nn lo.toInt hi.toInt (rI I w) n).1
      omega
    refine ⟨p1 - p2, by omega, by omega, ?_⟩
    rw [pk_sub h12]
    by_cases hz : 0 < p1 - p2
    · rw [if_pos (show (0 : Int32) < nI (p1 - p2) from nI_lt (a := 0) hz (by omega))]
    · rw [show p1 - p2 = 0 by omega]; rfl
  · have hm := pu_low_mono (f := rI I w) (n := n) (a := hi.toInt + 1) (b := lo.toInt) (by omega)
    refine ⟨0, by omega, pu_cnt_none _ _ (by omega) _ _, ?_⟩
    by_cases hz : p1 = p2
    · rw [hz, pk_sub (Nat.le_refl p2), Nat.sub_self]; rfl
    · have hneg : nI p1 - nI p2 < 0 := pk_sneg (by omega) (by omega)
      rw [if_neg (fun q => by
        have a1 := Int32.lt_iff_toInt_lt.mp hneg
        have a2 := Int32.lt_iff_toInt_lt.mp q
        omega)]
      rfl
theorem F_sum_loop (hr : RowOk S I a w cap n) {p q : Nat} (hq : q ≤ n) : ∀ (k j m : Nat), p + j + k = q → k < m → f_SortedRow_sum_b5 S I J m a (nI q) (Int64.ofInt (pu_tot id (fun i => rI I w (p + i)) j)) (nI (p + j)) = some (Int64.ofInt (pu_tot id (fun i => rI I w (p + i)) (j + k))) := by
  have hc := hr.2.2.2.2.1
  have hle := hr.2.2.2.2.2.2.1
  intro k
  induction k with
  | zero =>
    intro j m hj hm
    obtain ⟨m, rfl⟩ : ∃ k, m = k + 1 := ⟨m - 1, by omega⟩
    rw [f_SortedRow_sum_b5, if_pos (nI_le (by omega) (by omega))]; rfl
  | succ k ih =>
    intro j m hj hm
    obtain ⟨m, rfl⟩ : ∃ k, m = k + 1 := ⟨m - 1, by omega⟩
    rw [f_SortedRow_sum_b5, if_neg (nI_ge (by omega) (by omega)), gd_in hr.1, F_at_in hr (show p + j < n by omega), Option.bind_some, bnd, bnd, nI_1]
    rw [show Int64.ofInt (pu_tot id (fun i => rI I w (p + i)) j) + (I w (p + j)).toInt64 = Int64.ofInt (pu_tot id (fun i => rI I w (p + i)) (j + 1)) by
      rw [← Int64.ofInt_int32ToInt, ← Int64.ofInt_add]; rfl]
    have := ih (j + 1) m (by omega) (by omega)
    rw [show j + 1 + k = j + (k + 1) by omega] at this
    exact this
theorem F_sum (hr : RowOk S I a w cap n) {p q : Nat} (hp : p ≤ n) (hq : q ≤ n) : f_SortedRow_sum S I J a (nI p) (nI q) = some (Int64.ofInt (pu_tot id (fun i => rI I w (p + i)) (q - p))) := by
  have hc := hr.2.2.2.2.1
  have hle := hr.2.2.2.2.2.2.1
  rw [f_SortedRow_sum]
  by_cases h : p ≤ q
  · have := F_sum_loop (J := J) hr (p := p) hq (q - p) 0 gFuel (by omega) (by unfold gFuel; omega)
    rw [Nat.zero_add] at this
    exact this
  · rw [show gFuel = 9999 + 1 from rfl, f_SortedRow_sum_b5, if_pos (nI_le (by omega) (by omega)), show q - p = 0 by omega]; rfl
/-- the row with one more -/
theorem F_insert (hr : RowOk S I a w cap n) (hn1 : n < cap) (v : Int32) : ∃ I' : gMI, f_SortedRow_insert S I J a v = some I' ∧ RowOk S I' a w cap (n + 1) ∧ (∀ b, b ≠ a → b ≠ w → I' b = I b) ∧ ∀ φ : Int → Int, pu_tot φ (rI I' w) (n + 1) = pu_tot φ (rI I w) n + φ v.toInt := by
  have hne := hr.ne
  obtain ⟨p, hp, e, f⟩ := F_below (J := J) hr v.toInt64
  obtain ⟨h1, h2, h3, h4, hc, hn, hle, hs⟩ := hr
  rw [Int32.toInt_toInt64] at e
  have hI8 : (va_up I w (va_cpy (I w) (I w) p (p + 1) (n - p))) a = I a := va_up_ne _ _ hne
  obtain ⟨G, hG⟩ : ∃ G : gMI, G = upI (upI (va_up I w (va_cpy (I w) (I w) p (p + 1) (n - p))) w p v) a 1 (nI (n + 1)) := ⟨_, rfl⟩
  have hw : ∀ i, G w i = upd (va_cpy (I w) (I w) p (p + 1) (n - p)) p v i := fun i => by
    rw [hG, upI_ne (Ne.symm hne), upI_at, va_up_self]
  have k1 : ∀ i, i < p → rI G w i = rI I w i := fun i hi => by
    show (G w i).toInt = (I w i).toInt
    rw [hw, pk_un (by omega), pk_cpy_out (Or.inl (by omega))]
  have k2 : rI G w p = v.toInt := by
    show (G w p).toInt = v.toInt
    rw [hw, pk_us]
  have k3 : ∀ i, p ≤ i → i < n → rI G w (i + 1) = rI I w i := fun i g1 g2 => by
    show (G w (i + 1)).toInt = (I w i).toInt
    rw [hw, pk_un (by omega), pk_cpy_in (by omega) (by omega), show p + (i + 1 - (p + 1)) = i by omega]
  refine ⟨G, ?_, ?_, ?_, ?_⟩
  · rw [f_SortedRow_insert, gd_in h1, h2, Option.bind_some, gd_in h3, hn, h4, if_pos (nI_sz hn1 (by omega)), f, Option.bind_some, nI_1, pk_sub hp]
    rw [nI_clamp (by omega), nI_clamp (by omega), nI_clamp (by omega), gd_in ⟨nI_pos (by omega), nI_pos (by omega), nI_pos (by omega), by omega, by omega⟩, bnd, gd_in (by
      have := nI_in (c := p) (N := cap) (by omega) (by omega)
      rwa [nI_clamp (by omega)] at this), bnd, bnd]
    rw [show (upI (va_up I w (va_cpy (I w) (I w) p (p + 1) (n - p))) w p v) a 1 = nI n by rw [upI_ne hne, hI8, hn], nI_1, hG]
  · have hlt : ∀ i, i < p → rI I w i < v.toInt := fun i hi => (pu_low_iff hs (by omega)).mpr (by omega)
    have hge : ∀ i, p ≤ i → i < n → v.toInt ≤ rI I w i := fun i g1 g2 => by
      have := mt (pu_low_iff (b := v.toInt) hs g2).mp (by omega)
      omega
    exact ⟨h1, h2, h3, h4, hc, by rw [hG, upI_at, pk_us], hn1, pu_srt_ins hs hp hlt hge k1 k2 k3⟩
  · intro b hb1 hb2
    rw [hG, upI_ne hb1, upI_ne hb2, va_up_ne _ _ hb2]
  · intro φ
    exact pu_tot_ins hp k1 k2 k3
theorem F_insert_full (hr : RowOk S I a w cap n) (hn1 : n = cap) (v : Int32) : f_SortedRow_insert S I J a v = some I := by
  obtain ⟨h1, h2, h3, h4, hc, hn, hle, hs⟩ := hr
  rw [f_SortedRow_insert, gd_in h1, h2, Option.bind_some, gd_in h3, hn, h4, if_neg (by rw [hn1]; exact nI_nlt (Nat.le_refl cap) (by omega))]
/-- a copy of another row -/
theorem F_copy {a2 w2 cap2 n2 : Nat} (h1 : S.1 a = 7) (h2 : S.2.2 a 0 = some w) (h3 : S.1 w = 21) (h4 : S.2.1 w = cap) (hc : cap < 512) (hr : RowOk S I a2 w2 cap2 n2) (hn2 : n2 ≤ cap) (ha : a ≠ a2) (hw : w ≠ w2) : ∃ I' : gMI, f_SortedRow_copy S I J a a2 = some I' ∧ RowOk S I' a w cap n2 ∧ (∀ b, b ≠ a → b ≠ w → I' b = I b) ∧ ∀ i, i < n2 → I' w i = I w2 i := by
  have hne : a ≠ w := fun h => by rw [h, h3] at h1; exact absurd h1 (by decide)
  obtain ⟨g1, g2, g3, g4, gc, gn, gle, gs⟩ := hr
  have hn2w : a ≠ w2 := fun h => by rw [h, g3] at h1; exact absurd h1 (by decide)
  have hmin : (if Int32.ofNat cap < nI n2 then Int32.ofNat cap else nI n2) = nI n2 := if_neg (nI_nlt hn2 (by omega))
  obtain ⟨G, hG⟩ : ∃ G : gMI, G = va_up (upI I a 1 (nI n2)) w (va_cpy (I w2) (I w) 0 0 n2) := ⟨_, rfl⟩
  have kw : ∀ i, i < n2 → G w i = I w2 i := fun i hi => by
    rw [hG, va_up_self, pk_cpy_in (by omega) (by omega)]
    congr 1
    omega
  refine ⟨G, ?_, ?_, ?_, kw⟩
  · rw [f_SortedRow_copy, gd_in g1, gd_in h1, h2, Option.bind_some, gd_in h3, bnd, g2, Option.bind_some, gd_in g3, gn, h4, hmin]
    rw [show upI I a 1 (nI n2) a 1 = nI n2 by rw [upI_at, pk_us], nI_clamp (by omega), show (0 : Int32).toNatClampNeg = 0 from rfl, gd_in ⟨by decide, by decide, nI_pos (by omega), by omega, by omega⟩, bnd, upI_ne (Ne.symm hn2w), upI_ne (Ne.symm hne), hG]
  · refine ⟨h1, h2, h3, h4, hc, by rw [hG, va_up_ne _ _ hne, upI_at, pk_us], hn2, fun i j hij hj => ?_⟩
    show (G w i).toInt ≤ (G w j).toInt
    rw [kw i (by omega), kw j hj]
    exact gs i j hij hj
  · intro b hb1 hb2
    rw [hG, va_up_ne _ _ hb2, upI_ne hb1]
end ROW2
