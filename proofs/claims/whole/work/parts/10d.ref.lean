-- The reference's object m, its arrays R f by the fields' places f
def rT (f : Nat) : Nat := if f = 1 ∨ f = 22 ∨ f = 27 then 22 else if f = 26 ∨ f = 29 ∨ f = 35 then 23 else 21
def rN (f : Nat) : Nat := if f = 3 then 4000 else if f = 17 ∨ f = 27 ∨ f = 29 ∨ f = 30 ∨ f = 36 then 64 else if f = 28 then 256 else if f = 31 then 4096 else if f = 33 then 672 else if f = 34 then 6144 else if f = 35 then 96 else 8
def rA (f : Nat) : Prop := f < 37 ∧ f ≠ 0 ∧ f ≠ 4 ∧ f ≠ 32
def RefL (S : gS) (m : Nat) (R : Nat → Nat) : Prop := S.1 m = 9 ∧ (∀ f, rA f → S.2.2 m f = some (R f) ∧ S.1 (R f) = rT f ∧ S.2.1 (R f) = rN f) ∧ ∀ f g, rA f → rA g → R f = R g → f = g
/-- what logger l's readings are -/
def rd (I : gMI) (R : Nat → Nat) (l : Nat) : Nat → Int := fun i => (I (R 3) (500 * l + i)).toInt
theorem nx2 (c q l : Nat) : nI c * nI q + nI l = nI (c * q + l) := by rw [pk_mul, nI_add]
theorem nI_inx {c N : Nat} (h : c < N) (hN : N < 2 ^ 31) : ¬ (nI c < 0 ∨ N ≤ (nI c).toNatClampNeg) := nI_in h hN
section REF
variable {S : gS} {I : gMI} {J : gMJ} {m : Nat} {R : Nat → Nat}
theorem RefL.r (hR : RefL S m R) (f : Nat) (h : rA f := by unfold rA; decide) : S.2.2 m f = some (R f) := (hR.2.1 f h).1
theorem RefL.t (hR : RefL S m R) (f : Nat) {t : Nat} (h : rA f := by unfold rA; decide) (ht : rT f = t := by decide) : S.1 (R f) = t := ht ▸ (hR.2.1 f h).2.1
theorem RefL.n (hR : RefL S m R) (f : Nat) {t : Nat} (h : rA f := by unfold rA; decide) (ht : rN f = t := by decide) : S.2.1 (R f) = t := ht ▸ (hR.2.1 f h).2.2
theorem M_count_loop (hR : RefL S m R) {l q M : Nat} (hl : l < 8) (hq : q < 8) (hM : M ≤ 500) (hm : I (R 17) (8 * q + l) = nI M) (lo hi : Int64) : ∀ (k i n c : Nat), i + k = M → k < n → pu_cnt lo.toInt hi.toInt (rd I R l) i = c → ∃ c' : Nat, pu_cnt lo.toInt hi.toInt (rd I R l) M = c' ∧ f_M_countOf_b6 S I J n m (nI l) (nI q) lo hi (nI c) (nI i) = some (nI c') := by
  intro k
  induction k with
  | zero =>
    intro i n c hi' hn hc
    obtain ⟨n, rfl⟩ : ∃ k, n = k + 1 := ⟨n - 1, by omega⟩
    refine ⟨c, by rw [← hc, ← hi']; rfl, ?_⟩
    rw [f_M_countOf_b6, gd_in hR.1, hR.r 17, Option.bind_some, gd_in (hR.t 17), show (8 : Int32) * nI q + nI l = nI (8 * q + l) from nx2 8 q l, gd_in (by rw [hR.n 17 (t := 64)]; exact nI_in (by omega) (by omega)), nI_clamp (by omega), hm, if_pos (nI_le (by omega) (by omega))]
  | succ k ih =>
    intro i n c hi' hn hc
    obtain ⟨n, rfl⟩ : ∃ k, n = k + 1 := ⟨n - 1, by omega⟩
    have tail : ∀ x : Nat, pu_cnt lo.toInt hi.toInt (rd I R l) (i + 1) = (c + x : Nat) → ∃ c' : Nat, pu_cnt lo.toInt hi.toInt (rd I R l) M = c' ∧ f_M_countOf_b61 S I J (f_M_countOf_b6 S I J n) (nI x) (nI c) m (nI l) (nI q) lo hi (nI i) = some (nI c') := fun x hx => by
      rw [f_M_countOf_b61, bnd, bnd, nI_add, nI_1]
      exact ih (i + 1) n (c + x) (by omega) (by omega) hx
    have step : pu_cnt lo.toInt hi.toInt (rd I R l) (i + 1) = c + pu_in lo.toInt hi.toInt (rd I R l i) := by
      rw [← hc]; rfl
    rw [f_M_countOf_b6, gd_in hR.1, hR.r 17, Option.bind_some, gd_in (hR.t 17), show (8 : Int32) * nI q + nI l = nI (8 * q + l) from nx2 8 q l, gd_in (by rw [hR.n 17 (t := 64)]; exact nI_in (by omega) (by omega)), nI_clamp (by omega), hm, if_neg (nI_ge (by omega) (by omega)), hR.r 3, Option.bind_some, gd_in (hR.t 3), show (500 : Int32) * nI l + nI i = nI (500 * l + i) from nx2 500 l i, gd_in (by rw [hR.n 3 (t := 4000)]; exact nI_in (by omega) (by omega)), nI_clamp (by omega), bnd]
    have hv : (I (R 3) (500 * l + i)).toInt64.toInt = rd I R l i := Int32.toInt_toInt64 _
    by_cases h1 : lg_cmp (I (R 3) (500 * l + i)).toInt64 lo < 0
    · have h2 := (lgc_lt _ _).mp h1
      rw [hv] at h2
      rw [if_pos h1, f_M_countOf_b60]
      exact tail 0 (by rw [step]; unfold pu_in; rw [if_neg (by omega)]; omega)
    · have h2 := mt (lgc_lt (I (R 3) (500 * l + i)).toInt64 lo).mpr h1
      rw [hv] at h2
      rw [if_neg h1]
      by_cases h3 : 0 < lg_cmp (I (R 3) (500 * l + i)).toInt64 hi
      · have h4 := (lgc_gt _ _).mp h3
        rw [hv] at h4
        rw [if_pos h3, f_M_countOf_b60]
        exact tail 0 (by rw [step]; unfold pu_in; rw [if_neg (by omega)]; omega)
      · have h4 := mt (lgc_gt (I (R 3) (500 * l + i)).toInt64 hi).mpr h3
        rw [hv] at h4
        rw [if_neg h3]
        exact tail 1 (by rw [step]; unfold pu_in; rw [if_pos (by omega)]; omega)
theorem M_count (hR : RefL S m R) {l q M : Nat} (hl : l < 8) (hq : q < 8) (hM : M ≤ 500) (hm : I (R 17) (8 * q + l) = nI M) (lo hi : Int64) : ∃ c : Nat, c ≤ M ∧ pu_cnt lo.toInt hi.toInt (rd I R l) M = c ∧ f_M_countOf S I J m (nI l) (nI q) lo hi = some (nI c) := by
  obtain ⟨c, h1, h2⟩ := M_count_loop (J := J) hR hl hq hM hm lo hi M 0 gFuel 0 (by omega) (by unfold gFuel; omega) rfl
  have := (pu_cnt_nn lo.toInt hi.toInt (rd I R l) M).2
  exact ⟨c, by omega, h1, h2⟩
theorem M_sum_loop (hR : RefL S m R) {l q M : Nat} (hl : l < 8) (hq : q < 8) (hM : M ≤ 500) (hm : I (R 17) (8 * q + l) = nI M) (lo hi : Int64) : ∀ (k i n : Nat), i + k = M → k < n → f_M_sumOf_b6 S I J n m (nI l) (nI q) lo hi (Int64.ofInt (pu_tot (pu_iv lo.toInt hi.toInt) (rd I R l) i)) (nI i) = some (Int64.ofInt (pu_tot (pu_iv lo.toInt hi.toInt) (rd I R l) M)) := by
  intro k
  induction k with
  | zero =>
    intro i n hi' hn
    obtain ⟨n, rfl⟩ : ∃ k, n = k + 1 := ⟨n - 1, by omega⟩
    rw [f_M_sumOf_b6, gd_in hR.1, hR.r 17, Option.bind_some, gd_in (hR.t 17), show (8 : Int32) * nI q + nI l = nI (8 * q + l) from nx2 8 q l, gd_in (by rw [hR.n 17 (t := 64)]; exact nI_in (by omega) (by omega)), nI_clamp (by omega), hm, if_pos (nI_le (by omega) (by omega)), show i = M by omega]
  | succ k ih =>
    intro i n hi' hn
    obtain ⟨n, rfl⟩ : ∃ k, n = k + 1 := ⟨n - 1, by omega⟩
    have tail : ∀ x : Int, x = pu_iv lo.toInt hi.toInt (rd I R l i) → f_M_sumOf_b63 S I J (f_M_sumOf_b6 S I J n) (Int64.ofInt x) (Int64.ofInt (pu_tot (pu_iv lo.toInt hi.toInt) (rd I R l) i)) m (nI l) (nI q) lo hi (nI i) = some (Int64.ofInt (pu_tot (pu_iv lo.toInt hi.toInt) (rd I R l) M)) := fun x hx => by
      rw [f_M_sumOf_b63, bnd, bnd, ← Int64.ofInt_add, nI_1, hx]
      exact ih (i + 1) n (by omega) (by omega)
    rw [f_M_sumOf_b6, gd_in hR.1, hR.r 17, Option.bind_some, gd_in (hR.t 17), show (8 : Int32) * nI q + nI l = nI (8 * q + l) from nx2 8 q l, gd_in (by rw [hR.n 17 (t := 64)]; exact nI_in (by omega) (by omega)), nI_clamp (by omega), hm, if_neg (nI_ge (by omega) (by omega)), hR.r 3, Option.bind_some, gd_in (hR.t 3), show (500 : Int32) * nI l + nI i = nI (500 * l + i) from nx2 500 l i, gd_in (by rw [hR.n 3 (t := 4000)]; exact nI_in (by omega) (by omega)), nI_clamp (by omega), bnd]
    have hv : (I (R 3) (500 * l + i)).toInt64.toInt = rd I R l i := Int32.toInt_toInt64 _
    by_cases h1 : lg_cmp (I (R 3) (500 * l + i)).toInt64 lo < 0
    · have h2 := (lgc_lt _ _).mp h1
      rw [hv] at h2
      rw [if_pos h1, f_M_sumOf_b62]
      exact tail 0 (by unfold pu_iv; rw [if_neg (by omega)])
    · have h2 := mt (lgc_lt (I (R 3) (500 * l + i)).toInt64 lo).mpr h1
      rw [hv] at h2
      rw [if_neg h1]
      by_cases h3 : 0 < lg_cmp (I (R 3) (500 * l + i)).toInt64 hi
      · have h4 := (lgc_gt _ _).mp h3
        rw [hv] at h4
        rw [if_pos h3, f_M_sumOf_b62]
        exact tail 0 (by unfold pu_iv; rw [if_neg (by omega)])
      · have h4 := mt (lgc_gt (I (R 3) (500 * l + i)).toInt64 hi).mpr h3
        rw [hv] at h4
        rw [if_neg h3]
        exact tail (rd I R l i) (by unfold pu_iv; rw [if_pos (by omega)])
theorem M_sum (hR : RefL S m R) {l q M : Nat} (hl : l < 8) (hq : q < 8) (hM : M ≤ 500) (hm : I (R 17) (8 * q + l) = nI M) (lo hi : Int64) : f_M_sumOf S I J m (nI l) (nI q) lo hi = some (Int64.ofInt (pu_tot (pu_iv lo.toInt hi.toInt) (rd I R l) M)) :=
  M_sum_loop hR hl hq hM hm lo hi M 0 gFuel (by omega) (by unfold gFuel; omega)
theorem M_least_loop (hR : RefL S m R) {l q M k j0 : Nat} (hl : l < 8) (hq : q < 8) (hM : M ≤ 500) (hm : I (R 17) (8 * q + l) = nI M) {x y : Int32} (hk : k < 2 ^ 31) (hj0 : j0 < M) (hj1 : x.toInt ≤ rd I R l j0) (hj2 : rd I R l j0 ≤ y.toInt) (hj3 : pu_cnt x.toInt (rd I R l j0 - 1) (rd I R l) M < k) (hj4 : (k : Int) ≤ pu_cnt x.toInt (rd I R l j0) (rd I R l) M) :
    ∀ (g i n : Nat) (it : Int32), i + g = M → g < n → (i ≤ j0 ∨ it = I (R 3) (500 * l + j0)) → f_M_leastOf_b6 S I J n m (nI l) (nI q) x y (nI k) it (nI i) = some (I (R 3) (500 * l + j0)) := by
  intro g
  induction g with
  | zero =>
    intro i n it hi' hn hit
    obtain ⟨n, rfl⟩ : ∃ k, n = k + 1 := ⟨n - 1, by omega⟩
    rw [f_M_leastOf_b6, gd_in hR.1, hR.r 17, Option.bind_some, gd_in (hR.t 17), show (8 : Int32) * nI q + nI l = nI (8 * q + l) from nx2 8 q l, gd_in (by rw [hR.n 17 (t := 64)]; exact nI_in (by omega) (by omega)), nI_clamp (by omega), hm, if_pos (nI_le (by omega) (by omega)), hit.resolve_left (by omega)]
  | succ g ih =>
    intro i n it hi' hn hit
    obtain ⟨n, rfl⟩ : ∃ k, n = k + 1 := ⟨n - 1, by omega⟩
    have tail : ∀ it' : Int32, (i + 1 ≤ j0 ∨ it' = I (R 3) (500 * l + j0)) → f_M_leastOf_b88 S I J (f_M_leastOf_b6 S I J n) m (nI l) (nI q) x y (nI k) it' (nI i) = some (I (R 3) (500 * l + j0)) := fun it' h => by
      rw [f_M_leastOf_b88, bnd, nI_1]
      exact ih (i + 1) n it' (by omega) (by omega) h
    rw [f_M_leastOf_b6, gd_in hR.1, hR.r 17, Option.bind_some, gd_in (hR.t 17), show (8 : Int32) * nI q + nI l = nI (8 * q + l) from nx2 8 q l, gd_in (by rw [hR.n 17 (t := 64)]; exact nI_in (by omega) (by omega)), nI_clamp (by omega), hm, if_neg (nI_ge (by omega) (by omega)), hR.r 3, Option.bind_some, gd_in (hR.t 3), show (500 : Int32) * nI l + nI i = nI (500 * l + i) from nx2 500 l i, gd_in (by rw [hR.n 3 (t := 4000)]; exact nI_in (by omega) (by omega)), nI_clamp (by omega), bnd]
    -- a reading that isn't the k-th isn't the one sought
    have keep : ¬ (x.toInt ≤ rd I R l i ∧ rd I R l i ≤ y.toInt ∧ pu_cnt x.toInt (rd I R l i - 1) (rd I R l) M < k ∧ (k : Int) ≤ pu_cnt x.toInt (rd I R l i) (rd I R l) M) → (i + 1 ≤ j0 ∨ it = I (R 3) (500 * l + j0)) := fun h => by
      rcases hit with h1 | h1
      · by_cases e : i = j0
        · subst e; exact absurd ⟨hj1, hj2, hj3, hj4⟩ h
        · exact Or.inl (by omega)
      · exact Or.inr h1
    by_cases h1 : I (R 3) (500 * l + i) < x
    · rw [if_pos h1]
      have h2 : rd I R l i < x.toInt := Int32.lt_iff_toInt_lt.mp h1
      exact tail it (keep (by omega))
    · rw [if_neg h1]
      have h2 : ¬ rd I R l i < x.toInt := fun q => h1 (Int32.lt_iff_toInt_lt.mpr q)
      by_cases h3 : y < I (R 3) (500 * l + i)
      · rw [if_pos h3]
        have h4 : y.toInt < rd I R l i := Int32.lt_iff_toInt_lt.mp h3
        exact tail it (keep (by omega))
      · rw [if_neg h3]
        have h4 : ¬ y.toInt < rd I R l i := fun q => h3 (Int32.lt_iff_toInt_lt.mpr q)
        have hv : (I (R 3) (500 * l + i)).toInt64.toInt = rd I R l i := Int32.toInt_toInt64 _
        have hlow := (I (R 3) (500 * l + i)).le_toInt
        have hv1 : ((I (R 3) (500 * l + i)).toInt64 - 1).toInt = rd I R l i - 1 := by
          rw [lo_sub1 (by rw [hv]; show _ < (I (R 3) (500 * l + i)).toInt; omega), hv]
        obtain ⟨c1, b1, e1, f1⟩ := M_count (J := J) hR hl hq hM hm x.toInt64 ((I (R 3) (500 * l + i)).toInt64 - 1)
        obtain ⟨c2, b2, e2, f2⟩ := M_count (J := J) hR hl hq hM hm x.toInt64 (I (R 3) (500 * l + i)).toInt64
        rw [Int32.toInt_toInt64, hv1] at e1
        rw [Int32.toInt_toInt64, hv] at e2
        rw [f1, Option.bind_some]
        by_cases h5 : k ≤ c1
        · rw [if_pos (nI_le h5 (by omega))]
          exact tail it (keep (by omega))
        · rw [if_neg (nI_ge (by omega) hk), f2, Option.bind_some]
          by_cases h6 : c2 < k
          · rw [if_pos (nI_lt h6 hk)]
            exact tail it (keep (by omega))
          · rw [if_neg (nI_nlt (by omega) (by omega))]
            refine tail _ (Or.inr (Int32.toInt_inj.mp ?_))
            exact pu_kth_one (f := rd I R l) (n := M) (k := k) (a := x.toInt) (by rw [show (I (R 3) (500 * l + i)).toInt = rd I R l i from rfl]; omega) (by rw [show (I (R 3) (500 * l + i)).toInt = rd I R l i from rfl]; omega) hj3 hj4
theorem M_least (hR : RefL S m R) {l q M k j0 : Nat} (hl : l < 8) (hq : q < 8) (hM : M ≤ 500) (hm : I (R 17) (8 * q + l) = nI M) {x y : Int32} (hk : k < 2 ^ 31) (hj0 : j0 < M) (hj1 : x.toInt ≤ rd I R l j0) (hj2 : rd I R l j0 ≤ y.toInt) (hj3 : pu_cnt x.toInt (rd I R l j0 - 1) (rd I R l) M < k) (hj4 : (k : Int) ≤ pu_cnt x.toInt (rd I R l j0) (rd I R l) M) : f_M_leastOf S I J m (nI l) (nI q) x y (nI k) = some (I (R 3) (500 * l + j0)) :=
  M_least_loop hR hl hq hM hm hk hj0 hj1 hj2 hj3 hj4 M 0 gFuel 0 (by omega) (by unfold gFuel; omega) (Or.inl (by omega))
end REF
