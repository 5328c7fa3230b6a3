-- Frozen readings: what class and reference count, find and add is the same
section FRB
variable {S : gS} {A : Nat → Nat} {ex : Nat → Bool} {Ic Ic' Ir Ir' : gMI} {J J' : gMJ} {q t n : Nat}
/-- of logger t question q has frozen n readings: the class's sorted row, the reference's mark -/
def FB (S : gS) (A : Nat → Nat) (Ic Ir : gMI) (q t n : Nat) : Prop := RowOk S Ic (A (300 + 40 * q + 18 + t)) (A (300 + 40 * q + 26 + t)) 500 n ∧ Ir (A 243) (8 * q + t) = nI n ∧ pu_same (rI Ic (A (300 + 40 * q + 26 + t))) (rd Ir (fun f => A (226 + f)) t) n
theorem FB.frame (h : FB S A Ic Ir q t n) (hc : ∀ k, Ic' (A (300 + 40 * q + 18 + t)) k = Ic (A (300 + 40 * q + 18 + t)) k) (hw : ∀ k, Ic' (A (300 + 40 * q + 26 + t)) k = Ic (A (300 + 40 * q + 26 + t)) k) (hr : ∀ k, Ir' (A 243) k = Ir (A 243) k) (hd : ∀ k, Ir' (A 229) k = Ir (A 229) k) : FB S A Ic' Ir' q t n := by
  obtain ⟨⟨r1, r2, r3, r4, r5, r6, r7, r8⟩, h2, h3⟩ := h
  have e1 : rI Ic' (A (300 + 40 * q + 26 + t)) = rI Ic (A (300 + 40 * q + 26 + t)) := by
    funext i; unfold rI; rw [hw]
  have e2 : rd Ir' (fun f => A (226 + f)) t = rd Ir (fun f => A (226 + f)) t := by
    funext i
    show (Ir' (A 229) _).toInt = (Ir (A 229) _).toInt
    rw [hd]
  exact ⟨⟨r1, r2, r3, r4, r5, by rw [hc]; exact r6, r7, by rw [e1]; exact r8⟩, by rw [hr]; exact h2, by rw [e1, e2]; exact h3⟩
theorem FB.of {b c N : Nat} {sz pi am nu : Nat → Nat} {fz : Nat → Nat → Option Nat} {cm : Nat → Nat → Bool} {gc : Nat → Nat → Nat} {Jc Jr : gMJ} (hL : Lay S A ex) (h : R4 (mI A Ic Ir) (mJ A Jc Jr) ex b sz c pi am fz cm gc nu N) (hq : q < 8) (he : ex q = true) (ht : t < 8) (hz : fz q t = some n) : FB S A Ic Ir q t n := by
  have hs := (h.2.1 t ht).2.1
  obtain ⟨-, h2⟩ := ((h.2.2.2.1.2.2.2.2.2 q hq).1 he).2.1 t ht
  rw [hz] at h2
  dsimp only at h2
  obtain ⟨a1, a2, a3, a4, a5⟩ := h2
  simp (disch := omega) only [mI_c, mI_r, mJ_c, mJ_r] at a2 a3
  have e1 : rI (mI A Ic Ir) (300 + 40 * q + 26 + t) = rI Ic (A (300 + 40 * q + 26 + t)) := by
    funext i; unfold rI; simp (disch := omega) only [mI_c, mI_r, mJ_c, mJ_r]
  have e2 : rdM (mI A Ic Ir) t = rd Ir (fun f => A (226 + f)) t := by
    funext i; unfold rdM rd; simp (disch := omega) only [mI_c, mI_r, mJ_c, mJ_r]
  rw [e1] at a4 a5
  rw [e2] at a5
  obtain ⟨-, z2, z3, z4, z5⟩ := (hL.qy hq he).2.2.2.2.1 t ht
  exact ⟨⟨z2, z3, z4, z5, by omega, a3, by omega, a4⟩, a2, a5⟩
theorem FB.le (h : FB S A Ic Ir q t n) : n ≤ 500 := h.1.2.2.2.2.2.2.1
/-- both count the same -/
theorem FB.cnt (hL : Lay S A ex) (h : FB S A Ic Ir q t n) (hq : q < 8) (ht : t < 8) (lo hi : Int64) (hh : hi.toInt < 2 ^ 62) : ∃ m : Nat, m ≤ n ∧ pu_cnt lo.toInt hi.toInt (rI Ic (A (300 + 40 * q + 26 + t))) n = m ∧ (∀ J, f_SortedRow_within S Ic J (A (300 + 40 * q + 18 + t)) lo hi = some (nI m)) ∧ ∀ J, f_M_countOf S Ir J (A 6) (nI t) (nI q) lo hi = some (nI m) := by
  obtain ⟨h1, h2, h3⟩ := h
  have hn : n ≤ 500 := h1.2.2.2.2.2.2.1
  obtain ⟨m, m1, m2, -⟩ := F_within (J := fun _ _ => 0) h1 (lo := lo) hh
  refine ⟨m, m1, m2, fun J => ?_, fun J => ?_⟩
  · obtain ⟨m', m1', m2', m3'⟩ := F_within (J := J) h1 (lo := lo) hh
    rw [m3', show m' = m by omega]
  · obtain ⟨m', m1', m2', m3'⟩ := M_count (J := J) hL.ref ht hq hn h2 lo hi
    rw [← h3.cnt] at m2'
    rw [m3', show m' = m by omega]
/-- what lies below, and the reference's count up to it -/
theorem FB.low (hL : Lay S A ex) (h : FB S A Ic Ir q t n) (hq : q < 8) (ht : t < 8) (x : Int32) : ∃ m : Nat, m ≤ n ∧ pu_low x.toInt (rI Ic (A (300 + 40 * q + 26 + t))) n = m ∧ (∀ J, f_SortedRow_below S Ic J (A (300 + 40 * q + 18 + t)) x.toInt64 = some (nI m)) ∧ ∀ J, f_M_countOf S Ir J (A 6) (nI t) (nI q) (-2147483648) (x.toInt64 - 1) = some (nI m) := by
  have hh := h
  obtain ⟨h1, h2, h3⟩ := hh
  have hn : n ≤ 500 := h1.2.2.2.2.2.2.1
  obtain ⟨m, m1, m2, -⟩ := F_below (J := fun _ _ => 0) h1 x.toInt64
  rw [Int32.toInt_toInt64] at m2
  refine ⟨m, m1, m2, fun J => ?_, fun J => ?_⟩
  · obtain ⟨m', m1', m2', m3'⟩ := F_below (J := J) h1 x.toInt64
    rw [Int32.toInt_toInt64] at m2'
    rw [m3', show m' = m by omega]
  · obtain ⟨m', m1', m2', m3'⟩ := M_count (J := J) hL.ref ht hq hn h2 (-2147483648) (x.toInt64 - 1)
    have hx := Int32.minValue_le_toInt x
    have hx1 : (x.toInt64 - 1).toInt = x.toInt - 1 := by
      rw [lo_sub1 (by rw [Int32.toInt_toInt64]; have := x.le_toInt; omega), Int32.toInt_toInt64]
    have hm : (-2147483648 : Int64).toInt = -2147483648 := by decide
    rw [← h3.cnt, hx1, hm] at m2'
    have hsp := pu_cnt_low (-2147483648) (x.toInt - 1) (by have := x.le_toInt; omega) (rI Ic (A (300 + 40 * q + 26 + t))) n
    have h0 : pu_low (-2147483648) (rI Ic (A (300 + 40 * q + 26 + t))) n = (0 : Nat) := pu_low_of (Nat.zero_le n) (fun i hi => by omega) (fun i _ _ => by
      have := (Ic (A (300 + 40 * q + 26 + t)) i).le_toInt
      unfold rI
      omega)
    rw [show x.toInt - 1 + 1 = x.toInt by omega, h0, m2, m2'] at hsp
    rw [m3', show m' = m by omega]
theorem nI_half {a : Nat} (h : a < 2 ^ 31) : nI a / 2 = nI (a / 2) := by
  apply Int32.toInt_inj.mp
  have e2 : (2 : Int32).toInt = 2 := by decide
  rw [Int32.toInt_div, nI_toInt h, nI_toInt (show a / 2 < 2 ^ 31 by omega), e2]
  have : (a : Int).tdiv 2 = ((a / 2 : Nat) : Int) := by rw [Int.tdiv_eq_ediv_of_nonneg (by omega)]; omega
  rw [this]
  exact Int.bmod_eq_of_le (by omega) (by omega)
/-- the k-th least of those within x .. y -/
theorem FB.kth (hL : Lay S A ex) (h : FB S A Ic Ir q t n) (hq : q < 8) (ht : t < 8) {x y : Int32} {p k : Nat} (hp : pu_low x.toInt (rI Ic (A (300 + 40 * q + 26 + t))) n = p) (hk1 : 1 ≤ k) (hk2 : (k : Int) ≤ pu_cnt x.toInt y.toInt (rI Ic (A (300 + 40 * q + 26 + t))) n) : p + k - 1 < n ∧ (∀ J, f_SortedRow_at S Ic J (A (300 + 40 * q + 18 + t)) (nI (p + k - 1)) = some (Ic (A (300 + 40 * q + 26 + t)) (p + k - 1))) ∧ ∀ J, f_M_leastOf S Ir J (A 6) (nI t) (nI q) x y (nI k) = some (Ic (A (300 + 40 * q + 26 + t)) (p + k - 1)) := by
  have hh := h
  obtain ⟨h1, h2, h3⟩ := hh
  have hn : n ≤ 500 := h1.2.2.2.2.2.2.1
  have hs := h1.2.2.2.2.2.2.2
  have hab : x.toInt ≤ y.toInt := by
    obtain ⟨i, -, i1, i2⟩ := pu_cnt_pos (show 0 < pu_cnt x.toInt y.toInt (rI Ic (A (300 + 40 * q + 26 + t))) n by omega)
    omega
  obtain ⟨k1, k2, k3, k4, k5⟩ := pu_kth hs (by omega) hp hk1 hk2
  refine ⟨k1, fun J => F_at_in h1 k1, fun J => ?_⟩
  obtain ⟨j, hj, ej⟩ := h3.mem k1
  have hkn : k ≤ n := by
    have := (pu_cnt_nn x.toInt y.toInt (rI Ic (A (300 + 40 * q + 26 + t))) n).2
    omega
  rw [M_least (J := J) hL.ref ht hq hn h2 (x := x) (y := y) (k := k) (j0 := j) (by omega) hj (by rw [ej]; exact k2) (by rw [ej]; exact k3) (by rw [ej, ← h3.cnt]; exact k4) (by rw [ej, ← h3.cnt]; exact k5)]
  congr 1
  exact Int32.toInt_inj.mp ej
end FRB
