-- SortedRow: what its functions answer
def rI (M : gMI) (c : Nat) : Nat → Int := fun i => (M c i).toInt
/-- a row of the class: the object a, its values w, room for cap, n in it, sorted -/
def RowOk (S : gS) (I : gMI) (a w cap n : Nat) : Prop := S.1 a = 7 ∧ S.2.2 a 0 = some w ∧ S.1 w = 21 ∧ S.2.1 w = cap ∧ cap < 512 ∧ I a 1 = nI n ∧ n ≤ cap ∧ pu_srt (rI I w) n
section ROW
variable {S : gS} {I : gMI} {J : gMJ} {a w cap n : Nat}
theorem F_below_0 (b : Int64) (m : Nat) (x : Int32) : f_SortedRow_below_b7 S I J (m + 1) a b x 0 = some x := by
  rw [f_SortedRow_below_b7, if_pos (by decide)]
theorem F_below_loop (hr : RowOk S I a w cap n) {b : Int64} {p : Nat} (hp : pu_low b.toInt (rI I w) n = p) : ∀ (e m count : Nat), e + 1 < m → e < 9 → count ≤ p → p < count + 2 ^ (e + 1) → f_SortedRow_below_b7 S I J m a b (nI count) (nI (2 ^ e)) = some (nI p) := by
  obtain ⟨h1, h2, h3, h4, hc, hn, hle, hs⟩ := hr
  have hpn := (pu_low_nn b.toInt (rI I w) n).2
  rw [hp] at hpn
  intro e
  induction e with
  | zero =>
    intro m count hm _ hc1 hc2
    obtain ⟨m, rfl⟩ : ∃ k, m = k + 2 := ⟨m - 2, by omega⟩
    have tail : ∀ c', c' = p → f_SortedRow_below_b45 S I J (f_SortedRow_below_b7 S I J (m + 1)) a b (nI c') (nI (2 ^ 0)) = some (nI p) := fun c' hc' => by
      rw [f_SortedRow_below_b45, bnd, show nI (2 ^ 0) / (2 : Int32) = 0 by decide, F_below_0, hc']
    rw [f_SortedRow_below_b7, if_neg (nI_nle (by decide) (by decide)), bnd, nI_add, gd_in h1, hn]
    by_cases h : n < count + 2 ^ 0
    · rw [if_pos (nI_lt h (by omega))]
      exact tail count (by omega)
    · rw [if_neg (nI_nlt (by omega) (by omega)), h2, Option.bind_some, gd_in h3]
      have e1 : nI (count + 2 ^ 0) - 1 = nI count := nI_pred count
      have hi : (count : Nat) < n := by omega
      rw [e1, gd_in (by rw [h4]; exact nI_in (by omega) (by omega)), nI_clamp (by omega)]
      have hl := pu_low_iff (b := b.toInt) hs hi
      rw [hp] at hl
      by_cases hx : 0 ≤ lg_cmp ((I w count).toInt64) b
      · rw [if_pos hx]
        have h5 : b.toInt ≤ rI I w count := by
          have := (lgc_ge _ _).mp hx
          rwa [Int32.toInt_toInt64] at this
        exact tail count (by omega)
      · rw [if_neg hx]
        have h5 : rI I w count < b.toInt := by
          have := mt (lgc_ge ((I w count).toInt64) b).mpr hx
          rw [Int32.toInt_toInt64] at this
          show (I w count).toInt < b.toInt
          omega
        exact tail (count + 2 ^ 0) (by omega)
  | succ e ih =>
    intro m count hm he hc1 hc2
    obtain ⟨m, rfl⟩ : ∃ k, m = k + 1 := ⟨m - 1, by omega⟩
    have hpow : 2 ^ (e + 1) < 512 := by
      have : 2 ^ (e + 1) ≤ 2 ^ 8 := Nat.pow_le_pow_right (by decide) (by omega)
      omega
    have hpos : 0 < 2 ^ (e + 1) := Nat.pow_pos (by decide)
    have h22 : 2 ^ (e + 1 + 1) = 2 ^ (e + 1) + 2 ^ (e + 1) := by rw [Nat.pow_succ]; omega
    have tail : ∀ c', c' ≤ p → p < c' + 2 ^ (e + 1) → f_SortedRow_below_b45 S I J (f_SortedRow_below_b7 S I J m) a b (nI c') (nI (2 ^ (e + 1))) = some (nI p) := fun c' g1 g2 => by
      rw [f_SortedRow_below_b45, bnd, show nI (2 ^ (e + 1)) / (2 : Int32) = nI (2 ^ e) by
        rw [show (2 : Int32) = nI 2 from rfl, pk_div (by omega) (by decide) (by decide), Nat.pow_succ, Nat.mul_div_cancel _ (by decide)]]
      exact ih m c' (by omega) (by omega) g1 g2
    rw [f_SortedRow_below_b7, if_neg (nI_nle hpos (by omega)), bnd, nI_add, gd_in h1, hn]
    by_cases h : n < count + 2 ^ (e + 1)
    · rw [if_pos (nI_lt h (by omega))]
      exact tail count hc1 (by omega)
    · rw [if_neg (nI_nlt (by omega) (by omega)), h2, Option.bind_some, gd_in h3]
      obtain ⟨k, hk⟩ : ∃ k, count + 2 ^ (e + 1) = k + 1 := ⟨count + 2 ^ (e + 1) - 1, by omega⟩
      have e1 : nI (count + 2 ^ (e + 1)) - 1 = nI k := by rw [hk]; exact nI_pred k
      have hi : k < n := by omega
      rw [e1, gd_in (by rw [h4]; exact nI_in (by omega) (by omega)), nI_clamp (by omega)]
      have hl := pu_low_iff (b := b.toInt) hs hi
      rw [hp] at hl
      by_cases hx : 0 ≤ lg_cmp ((I w k).toInt64) b
      · rw [if_pos hx]
        have h5 : b.toInt ≤ rI I w k := by
          have := (lgc_ge _ _).mp hx
          rwa [Int32.toInt_toInt64] at this
        exact tail count hc1 (by omega)
      · rw [if_neg hx]
        have h5 : rI I w k < b.toInt := by
          have := mt (lgc_ge ((I w k).toInt64) b).mpr hx
          rw [Int32.toInt_toInt64] at this
          show (I w k).toInt < b.toInt
          omega
        exact tail (count + 2 ^ (e + 1)) (by omega) (by omega)
theorem F_below (hr : RowOk S I a w cap n) (b : Int64) : ∃ p : Nat, p ≤ n ∧ pu_low b.toInt (rI I w) n = p ∧ f_SortedRow_below S I J a b = some (nI p) := by
  have hnn := pu_low_nn b.toInt (rI I w) n
  obtain ⟨p, hp⟩ : ∃ p : Nat, pu_low b.toInt (rI I w) n = p := ⟨(pu_low b.toInt (rI I w) n).toNat, by omega⟩
  have hc := hr.2.2.2.2.1
  have hle := hr.2.2.2.2.2.2.1
  refine ⟨p, by omega, hp, ?_⟩
  have := F_below_loop (J := J) hr hp 8 gFuel 0 (by decide) (by decide) (by omega) (by omega)
  exact this
end ROW
