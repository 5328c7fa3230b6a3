-- goOn: the pivot
section PIVOT
variable {S : gS} {A : Nat → Nat} {ex : Nat → Bool} {I : gMI} {J : gMJ} {q o : Nat} {t : Nat → Nat} {m : Nat → Int32}
/-- how many readings lie with loggers whose middle is at most x -/
def pcn (t : Nat → Nat) (m : Nat → Int32) (x : Int32) : Nat → Nat
  | 0 => 0
  | n + 1 => pcn t m x n + if m n ≤ x then t n else 0
def tn (t : Nat → Nat) : Nat → Nat
  | 0 => 0
  | n + 1 => tn t n + t n
def pa (t : Nat → Nat) (m : Nat → Int32) (o : Nat) : Nat → Int32
  | 0 => 2147483647
  | i + 1 => if m i < pa t m o i ∧ o ≤ 2 * pcn t m (m i) 8 then m i else pa t m o i
def pb (t : Nat → Nat) (m : Nat → Int32) (o : Nat) : Nat → Option Int32
  | 0 => none
  | i + 1 => match pb t m o i with
    | none => if 0 < t i ∧ o ≤ 2 * pcn t m (m i) 8 then some (m i) else none
    | some b => if (0 < t i ∧ o ≤ 2 * pcn t m (m i) 8) ∧ m i < b then some (m i) else some b
theorem pcn_c (x : Int32) : ∀ n, (pcn t m x n : Int) = pv_c (fun l => (t l : Int)) (fun l => (m l).toInt) x.toInt n
  | 0 => rfl
  | n + 1 => by
    have ih := pcn_c x n
    show ((pcn t m x n + if m n ≤ x then t n else 0 : Nat) : Int) = pv_c _ _ _ n + (if (m n).toInt ≤ x.toInt then (t n : Int) else 0)
    rw [← ih]
    by_cases e : m n ≤ x
    · rw [if_pos e, if_pos (Int32.le_iff_toInt_le.mp e)]; omega
    · rw [if_neg e, if_neg (fun u => e (Int32.le_iff_toInt_le.mpr u))]; omega
theorem pa_a : ∀ i, (pa t m o i).toInt = pv_a (fun l => (t l : Int)) (fun l => (m l).toInt) 8 o 2147483647 i
  | 0 => rfl
  | i + 1 => by
    have ih := pa_a i
    have hc := pcn_c (t := t) (m := m) (m i) 8
    show (if m i < pa t m o i ∧ o ≤ 2 * pcn t m (m i) 8 then m i else pa t m o i).toInt = if (m i).toInt < pv_a _ _ 8 _ _ i ∧ (o : Int) ≤ 2 * pv_c _ _ _ 8 then (m i).toInt else pv_a _ _ 8 _ _ i
    rw [← ih, ← hc]
    by_cases e : m i < pa t m o i ∧ o ≤ 2 * pcn t m (m i) 8
    · rw [if_pos e, if_pos ⟨Int32.lt_iff_toInt_lt.mp e.1, by omega⟩]
    · rw [if_neg e, if_neg (fun u => e ⟨Int32.lt_iff_toInt_lt.mpr u.1, by omega⟩)]
theorem pb_b : ∀ i, (pb t m o i).map Int32.toInt = pv_b (fun l => (t l : Int)) (fun l => (m l).toInt) 8 o i
  | 0 => rfl
  | i + 1 => by
    have ih := pb_b i
    have hc := pcn_c (t := t) (m := m) (m i) 8
    show (match pb t m o i with
      | none => if 0 < t i ∧ o ≤ 2 * pcn t m (m i) 8 then some (m i) else none
      | some b => if (0 < t i ∧ o ≤ 2 * pcn t m (m i) 8) ∧ m i < b then some (m i) else some b).map Int32.toInt = match pv_b _ _ 8 _ i with
      | none => if 0 < (t i : Int) ∧ (o : Int) ≤ 2 * pv_c _ _ _ 8 then some (m i).toInt else none
      | some b => if (0 < (t i : Int) ∧ (o : Int) ≤ 2 * pv_c _ _ _ 8) ∧ (m i).toInt < b then some (m i).toInt else some b
    rw [← ih, ← hc]
    cases hb : pb t m o i with
    | none =>
      simp only [Option.map_none]
      by_cases e : 0 < t i ∧ o ≤ 2 * pcn t m (m i) 8
      · rw [if_pos e, if_pos ⟨by omega, by omega⟩]; rfl
      · rw [if_neg e, if_neg (fun u => e ⟨by omega, by omega⟩)]; rfl
    | some b =>
      simp only [Option.map_some]
      by_cases e : (0 < t i ∧ o ≤ 2 * pcn t m (m i) 8) ∧ m i < b
      · rw [if_pos e, if_pos ⟨⟨by omega, by omega⟩, Int32.lt_iff_toInt_lt.mp e.2⟩]; rfl
      · rw [if_neg e, if_neg (fun u => e ⟨⟨by omega, by omega⟩, Int32.lt_iff_toInt_lt.mpr u.2⟩)]; rfl
theorem pcn_max : ∀ n, pcn t m 2147483647 n = tn t n
  | 0 => rfl
  | n + 1 => by
    show pcn t m 2147483647 n + (if m n ≤ 2147483647 then t n else 0) = tn t n + t n
    rw [pcn_max n, if_pos (Int32.le_iff_toInt_le.mpr (by
      have := (m n).toInt_lt
      rw [show (2147483647 : Int32).toInt = 2147483647 from rfl]
      omega))]
theorem pb_pa (ho : 0 < o) (hs : tn t 8 = o) : pb t m o 8 = some (pa t m o 8) := by
  have h := pv_same (t0 := fun l => (t l : Int)) (t1 := fun l => (m l).toInt) (N := 8) (o := o) (M := 2147483647) (fun l _ => by omega) (by omega) (fun l _ => by
    have := (m l).toInt_lt
    omega) (by
    have := pcn_c (t := t) (m := m) 2147483647 8
    rw [pcn_max, hs, show (2147483647 : Int32).toInt = 2147483647 from rfl] at this
    exact this.symm)
  rw [← pb_b, ← pa_a] at h
  cases hb : pb t m o 8 with
  | none => rw [hb] at h; cases h
  | some b =>
    rw [hb] at h
    injection h with h
    rw [Int32.toInt_inj.mp h]
theorem pcn_le (ht : ∀ l, l < 8 → t l ≤ 500) (x : Int32) : ∀ n, n ≤ 8 → pcn t m x n ≤ 500 * n
  | 0, _ => Nat.le_refl 0
  | n + 1, h => by
    have h1 := pcn_le ht x n (by omega)
    have h2 := ht n (by omega)
    show pcn t m x n + (if m n ≤ x then t n else 0) ≤ _
    split <;> omega
theorem tn_le (ht : ∀ l, l < 8 → t l ≤ 500) : ∀ n, n ≤ 8 → tn t n ≤ 500 * n
  | 0, _ => Nat.le_refl 0
  | n + 1, h => by
    have h1 := tn_le ht n (by omega)
    have h2 := ht n (by omega)
    show tn t n + t n ≤ _
    omega
theorem tsm_tn {T : Nat → Nat → Int32} {k : Nat} (hT : ∀ l, l < 8 → T l k = nI (t l)) : ∀ g i, i + g = 8 → tsm T k g i (nI (tn t i)) = nI (tn t 8)
  | 0, i, h => by rw [show i = 8 by omega]; rfl
  | g + 1, i, h => by
    show tsm T k g (i + 1) (nI (tn t i) + T i k) = _
    rw [hT i (by omega), nI_add]
    exact tsm_tn hT g (i + 1) (by omega)
/-- the class's count of those up to x -/
theorem cu_c (hL : Lay S A ex) (hq : q < 8) (he : ex q = true) (h0 : ∀ l, l < 8 → I (A (300 + 40 * q + 10 + l)) 0 = nI (t l)) (h1 : ∀ l, l < 8 → I (A (300 + 40 * q + 10 + l)) 1 = m l) (x : Int32) : ∀ g i n, i + g = 8 → g < n → f_Replies_countUpTo_b4 S I J n (A (300 + 40 * q + 3)) x (nI (pcn t m x i)) (nI i) = some (nI (pcn t m x 8)) := by
  obtain ⟨-, -, -, -, ⟨u0, u1, u2, u3⟩, -, -, -, ⟨v0, v1⟩, v2, -⟩ := (hL.qy hq he).2
  intro g
  induction g with
  | zero =>
    intro i n hi hn
    obtain ⟨n, rfl⟩ : ∃ k, n = k + 1 := ⟨n - 1, by omega⟩
    obtain rfl : i = 8 := by omega
    rw [f_Replies_countUpTo_b4, if_pos (by decide)]
  | succ g ih =>
    intro i n hi hn
    obtain ⟨n, rfl⟩ : ∃ k, n = k + 1 := ⟨n - 1, by omega⟩
    obtain ⟨v2a, v2b, v2c⟩ := v2 i (by omega)
    have e0 := h0 i (by omega)
    have e1 := h1 i (by omega)
    have hi' := ih (i + 1) n (by omega) (by omega)
    by_cases e : m i ≤ x
    · have en : ¬ x < m i := Int32.not_lt.mpr e
      have hp : pcn t m x (i + 1) = pcn t m x i + t i := by
        show pcn t m x i + (if m i ≤ x then t i else 0) = _
        rw [if_pos e]
      rw [hp] at hi'
      simp (disch := omega) only [f_Replies_countUpTo_b4, f_Replies_countUpTo_b33, u0, ↓ob_h u2, v0, v1, ↓ob_h v2a, v2b, v2c, e0, e1, en, ↓bnd_in, ↓Option.bind_some, ↓bd2_some, ↓bd3_some, ↓bd4_some, ↓ew_mr hL, ↓ew_00 hL, ↓ew_01 hL, ↓ew_02 hL, ↓ew_1r hL, ↓ew_lr hL, ↓ew_30 hL, ↓ew_31 hL, ↓ew_4r hL, ↓ew_ltr hL, ↓gd_m hL, ↓gd_0 hL, gd_t, Option.bind_some, bd2_some, bd3_some, bd4_some, gm_some, gm_none, ↓reduceIte, or_self, or_false, false_or, or_true, true_or, and_self, and_true, true_and, and_false, false_and, not_false_eq_true, not_true_eq_false, Nat.reduceAdd, Nat.reduceMul, Int32.reduceLT, Int32.reduceLE, eq_self, ev_lit, ev_10, Int32.reduceToNatClampNeg, Nat.reduceLeDiff, Nat.reduceEqDiff, Nat.reduceLT, nI_clamp, ev_ng, ev_L1, ev_L2, ev_L3, ev_K1, ev_K2, ev_K3, ev_K4, ev_K5, ev_a1, ev_m1, ev_s1, ev_s2, nI_add, ev_nle, ev_le, ev_lt, ev_nlt, ev_ne, ev_eq, ev_uI hL, ev_uJ hL, ev_m hL, ev_mr hL, ev_mt hL, ev_mz hL, ev_mj hL, ev_n8 hL, ev_n64 hL, ev_n229 hL, ev_n254 hL, ev_n257 hL, ev_n259 hL, ev_n260 hL, ev_n261 hL, ev_0 hL, ev_00 hL, ev_01 hL, ev_02 hL, ev_1 hL, ev_1n hL, ev_1r hL, ev_lg hL, ev_lr hL, ev_sr hL, ev_2 hL, ev_2n hL, ev_3 hL, ev_30 hL, ev_31 hL, ev_4 hL, ev_4n hL, ev_5 hL, ev_5n hL, ev_4r hL, ev_lt1 hL, ev_ltr hL, ev_lnt hL, ev_lnn hL, ev_7 hL, ev_7n hL, ev_uE, ev_uK]
      exact hi'
    · have en : x < m i := Int32.not_le.mp e
      have hp : pcn t m x (i + 1) = pcn t m x i := by
        show pcn t m x i + (if m i ≤ x then t i else 0) = _
        rw [if_neg e, Nat.add_zero]
      rw [hp] at hi'
      simp (disch := omega) only [f_Replies_countUpTo_b4, f_Replies_countUpTo_b33, u0, ↓ob_h u2, v0, v1, ↓ob_h v2a, v2b, v2c, e0, e1, en, ↓bnd_in, ↓Option.bind_some, ↓bd2_some, ↓bd3_some, ↓bd4_some, ↓ew_mr hL, ↓ew_00 hL, ↓ew_01 hL, ↓ew_02 hL, ↓ew_1r hL, ↓ew_lr hL, ↓ew_30 hL, ↓ew_31 hL, ↓ew_4r hL, ↓ew_ltr hL, ↓gd_m hL, ↓gd_0 hL, gd_t, Option.bind_some, bd2_some, bd3_some, bd4_some, gm_some, gm_none, ↓reduceIte, or_self, or_false, false_or, or_true, true_or, and_self, and_true, true_and, and_false, false_and, not_false_eq_true, not_true_eq_false, Nat.reduceAdd, Nat.reduceMul, Int32.reduceLT, Int32.reduceLE, eq_self, ev_lit, ev_10, Int32.reduceToNatClampNeg, Nat.reduceLeDiff, Nat.reduceEqDiff, Nat.reduceLT, nI_clamp, ev_ng, ev_L1, ev_L2, ev_L3, ev_K1, ev_K2, ev_K3, ev_K4, ev_K5, ev_a1, ev_m1, ev_s1, ev_s2, nI_add, ev_nle, ev_le, ev_lt, ev_nlt, ev_ne, ev_eq, ev_uI hL, ev_uJ hL, ev_m hL, ev_mr hL, ev_mt hL, ev_mz hL, ev_mj hL, ev_n8 hL, ev_n64 hL, ev_n229 hL, ev_n254 hL, ev_n257 hL, ev_n259 hL, ev_n260 hL, ev_n261 hL, ev_0 hL, ev_00 hL, ev_01 hL, ev_02 hL, ev_1 hL, ev_1n hL, ev_1r hL, ev_lg hL, ev_lr hL, ev_sr hL, ev_2 hL, ev_2n hL, ev_3 hL, ev_30 hL, ev_31 hL, ev_4 hL, ev_4n hL, ev_5 hL, ev_5n hL, ev_4r hL, ev_lt1 hL, ev_ltr hL, ev_lnt hL, ev_lnn hL, ev_7 hL, ev_7n hL, ev_uE, ev_uK]
      exact hi'
theorem pv_cl (hL : Lay S A ex) (hq : q < 8) (he : ex q = true) (ht : ∀ l, l < 8 → t l ≤ 500) (ho : o < 2 ^ 30) (h0 : ∀ l, l < 8 → I (A (300 + 40 * q + 10 + l)) 0 = nI (t l)) (h1 : ∀ l, l < 8 → I (A (300 + 40 * q + 10 + l)) 1 = m l) : ∀ g i n, i + g = 8 → g < n → f_Replies_pivot_b5 S I J n (A (300 + 40 * q + 3)) (nI o) (pa t m o i) (nI i) = some (pa t m o 8) := by
  obtain ⟨-, -, -, -, ⟨u0, u1, u2, u3⟩, -, -, -, ⟨v0, v1⟩, v2, -⟩ := (hL.qy hq he).2
  intro g
  induction g with
  | zero =>
    intro i n hi hn
    obtain ⟨n, rfl⟩ : ∃ k, n = k + 1 := ⟨n - 1, by omega⟩
    obtain rfl : i = 8 := by omega
    rw [f_Replies_pivot_b5, if_pos (by decide)]
  | succ g ih =>
    intro i n hi hn
    obtain ⟨n, rfl⟩ : ∃ k, n = k + 1 := ⟨n - 1, by omega⟩
    obtain ⟨v2a, v2b, v2c⟩ := v2 i (by omega)
    have e1 := h1 i (by omega)
    have hi' := ih (i + 1) n (by omega) (by omega)
    have hcu : f_Replies_countUpTo S I J (A (300 + 40 * q + 3)) (m i) = some (nI (pcn t m (m i) 8)) := cu_c hL hq he h0 h1 (m i) 8 0 gFuel (by omega) (by unfold gFuel; omega)
    have hle := pcn_le (m := m) ht (m i) 8 (Nat.le_refl 8)
    by_cases e : m i < pa t m o i
    · have en : ¬ pa t m o i ≤ m i := Int32.not_le.mpr e
      by_cases e2 : o ≤ 2 * pcn t m (m i) 8
      · have hp : pa t m o (i + 1) = m i := if_pos ⟨e, e2⟩
        rw [hp] at hi'
        simp (disch := omega) only [f_Replies_pivot_b5, f_Replies_pivot_b50, u0, ↓ob_h u2, v0, v1, ↓ob_h v2a, v2b, v2c, e1, en, ↓ob_h hcu, ↓bnd_in, ↓Option.bind_some, ↓bd2_some, ↓bd3_some, ↓bd4_some, ↓ew_mr hL, ↓ew_00 hL, ↓ew_01 hL, ↓ew_02 hL, ↓ew_1r hL, ↓ew_lr hL, ↓ew_30 hL, ↓ew_31 hL, ↓ew_4r hL, ↓ew_ltr hL, ↓gd_m hL, ↓gd_0 hL, gd_t, Option.bind_some, bd2_some, bd3_some, bd4_some, gm_some, gm_none, ↓reduceIte, or_self, or_false, false_or, or_true, true_or, and_self, and_true, true_and, and_false, false_and, not_false_eq_true, not_true_eq_false, Nat.reduceAdd, Nat.reduceMul, Int32.reduceLT, Int32.reduceLE, eq_self, ev_lit, ev_10, Int32.reduceToNatClampNeg, Nat.reduceLeDiff, Nat.reduceEqDiff, Nat.reduceLT, nI_clamp, ev_ng, ev_L1, ev_L2, ev_L3, ev_K1, ev_K2, ev_K3, ev_K4, ev_K5, ev_a1, ev_m1, ev_s1, ev_s2, nI_add, ev_nle, ev_le, ev_lt, ev_nlt, ev_ne, ev_eq, ev_uI hL, ev_uJ hL, ev_m hL, ev_mr hL, ev_mt hL, ev_mz hL, ev_mj hL, ev_n8 hL, ev_n64 hL, ev_n229 hL, ev_n254 hL, ev_n257 hL, ev_n259 hL, ev_n260 hL, ev_n261 hL, ev_0 hL, ev_00 hL, ev_01 hL, ev_02 hL, ev_1 hL, ev_1n hL, ev_1r hL, ev_lg hL, ev_lr hL, ev_sr hL, ev_2 hL, ev_2n hL, ev_3 hL, ev_30 hL, ev_31 hL, ev_4 hL, ev_4n hL, ev_5 hL, ev_5n hL, ev_4r hL, ev_lt1 hL, ev_ltr hL, ev_lnt hL, ev_lnn hL, ev_7 hL, ev_7n hL, ev_uE, ev_uK]
        exact hi'
      · have hp : pa t m o (i + 1) = pa t m o i := if_neg (fun u => e2 u.2)
        rw [hp] at hi'
        simp (disch := omega) only [f_Replies_pivot_b5, f_Replies_pivot_b50, u0, ↓ob_h u2, v0, v1, ↓ob_h v2a, v2b, v2c, e1, en, ↓ob_h hcu, ↓bnd_in, ↓Option.bind_some, ↓bd2_some, ↓bd3_some, ↓bd4_some, ↓ew_mr hL, ↓ew_00 hL, ↓ew_01 hL, ↓ew_02 hL, ↓ew_1r hL, ↓ew_lr hL, ↓ew_30 hL, ↓ew_31 hL, ↓ew_4r hL, ↓ew_ltr hL, ↓gd_m hL, ↓gd_0 hL, gd_t, Option.bind_some, bd2_some, bd3_some, bd4_some, gm_some, gm_none, ↓reduceIte, or_self, or_false, false_or, or_true, true_or, and_self, and_true, true_and, and_false, false_and, not_false_eq_true, not_true_eq_false, Nat.reduceAdd, Nat.reduceMul, Int32.reduceLT, Int32.reduceLE, eq_self, ev_lit, ev_10, Int32.reduceToNatClampNeg, Nat.reduceLeDiff, Nat.reduceEqDiff, Nat.reduceLT, nI_clamp, ev_ng, ev_L1, ev_L2, ev_L3, ev_K1, ev_K2, ev_K3, ev_K4, ev_K5, ev_a1, ev_m1, ev_s1, ev_s2, nI_add, ev_nle, ev_le, ev_lt, ev_nlt, ev_ne, ev_eq, ev_uI hL, ev_uJ hL, ev_m hL, ev_mr hL, ev_mt hL, ev_mz hL, ev_mj hL, ev_n8 hL, ev_n64 hL, ev_n229 hL, ev_n254 hL, ev_n257 hL, ev_n259 hL, ev_n260 hL, ev_n261 hL, ev_0 hL, ev_00 hL, ev_01 hL, ev_02 hL, ev_1 hL, ev_1n hL, ev_1r hL, ev_lg hL, ev_lr hL, ev_sr hL, ev_2 hL, ev_2n hL, ev_3 hL, ev_30 hL, ev_31 hL, ev_4 hL, ev_4n hL, ev_5 hL, ev_5n hL, ev_4r hL, ev_lt1 hL, ev_ltr hL, ev_lnt hL, ev_lnn hL, ev_7 hL, ev_7n hL, ev_uE, ev_uK]
        exact hi'
    · have en : pa t m o i ≤ m i := Int32.not_lt.mp e
      have hp : pa t m o (i + 1) = pa t m o i := if_neg (fun u => e u.1)
      rw [hp] at hi'
      simp (disch := omega) only [f_Replies_pivot_b5, f_Replies_pivot_b50, u0, ↓ob_h u2, v0, v1, ↓ob_h v2a, v2b, v2c, e1, en, ↓bnd_in, ↓Option.bind_some, ↓bd2_some, ↓bd3_some, ↓bd4_some, ↓ew_mr hL, ↓ew_00 hL, ↓ew_01 hL, ↓ew_02 hL, ↓ew_1r hL, ↓ew_lr hL, ↓ew_30 hL, ↓ew_31 hL, ↓ew_4r hL, ↓ew_ltr hL, ↓gd_m hL, ↓gd_0 hL, gd_t, Option.bind_some, bd2_some, bd3_some, bd4_some, gm_some, gm_none, ↓reduceIte, or_self, or_false, false_or, or_true, true_or, and_self, and_true, true_and, and_false, false_and, not_false_eq_true, not_true_eq_false, Nat.reduceAdd, Nat.reduceMul, Int32.reduceLT, Int32.reduceLE, eq_self, ev_lit, ev_10, Int32.reduceToNatClampNeg, Nat.reduceLeDiff, Nat.reduceEqDiff, Nat.reduceLT, nI_clamp, ev_ng, ev_L1, ev_L2, ev_L3, ev_K1, ev_K2, ev_K3, ev_K4, ev_K5, ev_a1, ev_m1, ev_s1, ev_s2, nI_add, ev_nle, ev_le, ev_lt, ev_nlt, ev_ne, ev_eq, ev_uI hL, ev_uJ hL, ev_m hL, ev_mr hL, ev_mt hL, ev_mz hL, ev_mj hL, ev_n8 hL, ev_n64 hL, ev_n229 hL, ev_n254 hL, ev_n257 hL, ev_n259 hL, ev_n260 hL, ev_n261 hL, ev_0 hL, ev_00 hL, ev_01 hL, ev_02 hL, ev_1 hL, ev_1n hL, ev_1r hL, ev_lg hL, ev_lr hL, ev_sr hL, ev_2 hL, ev_2n hL, ev_3 hL, ev_30 hL, ev_31 hL, ev_4 hL, ev_4n hL, ev_5 hL, ev_5n hL, ev_4r hL, ev_lt1 hL, ev_ltr hL, ev_lnt hL, ev_lnn hL, ev_7 hL, ev_7n hL, ev_uE, ev_uK]
      exact hi'
/-- the reference's inner loop -/
theorem pv_in (hL : Lay S A ex) (hq : q < 8) (ht : ∀ l, l < 8 → t l ≤ 500) (ho : o < 2 ^ 30) (h0 : ∀ l, l < 8 → I (A 254) (4 * (8 * q + l)) = nI (t l)) (h1 : ∀ l, l < 8 → I (A 254) (4 * (8 * q + l) + 1) = m l) (h41 : I (A 241) q = nI o) {k7 : Nat → Int32 → Int32 → Int32 → Int32 → Option Int32} {l4 : Nat} (hl4 : l4 < 8) (l2 l3 x : Int32) : ∀ g i n, i + g = 8 → g < n → f_M_pivotOf_b38 S I J k7 n (A 6) (nI q) l2 l3 (nI l4) x (nI (pcn t m x i)) (nI i) = if 0 < t l4 ∧ o ≤ 2 * pcn t m x 8 then f_M_pivotOf_b130 S I J k7 1 (A 6) (nI q) l2 l3 (nI l4) x else f_M_pivotOf_b152 S I J k7 (A 6) (nI q) l2 l3 (nI l4) := by
  intro g
  induction g with
  | zero =>
    intro i n hi hn
    obtain ⟨n, rfl⟩ : ∃ k, n = k + 1 := ⟨n - 1, by omega⟩
    obtain rfl : i = 8 := by omega
    have e0 := h0 l4 hl4
    have hle := pcn_le (m := m) ht x 8 (Nat.le_refl 8)
    have ht4 := ht l4 hl4
    have hb : f_M_pivotOf_b129 S I J k7 (A 6) (nI q) l2 l3 (nI l4) x = f_M_pivotOf_b152 S I J k7 (A 6) (nI q) l2 l3 (nI l4) := by
      rw [f_M_pivotOf_b129, f_M_pivotOf_b130, if_pos rfl]
    by_cases e : 0 < t l4
    · have e' : ¬ nI (t l4) ≤ 0 := fun u => by
        have := (nI_leI (a := t l4) (b := 0) (by omega) (by omega)).mp u
        omega
      by_cases e2 : o ≤ 2 * pcn t m x 8
      · rw [if_pos ⟨e, e2⟩]
        simp (disch := omega) only [f_M_pivotOf_b38, e0, e', h41, ↓bnd_in, ↓Option.bind_some, ↓bd2_some, ↓bd3_some, ↓bd4_some, ↓ew_mr hL, ↓ew_00 hL, ↓ew_01 hL, ↓ew_02 hL, ↓ew_1r hL, ↓ew_lr hL, ↓ew_30 hL, ↓ew_31 hL, ↓ew_4r hL, ↓ew_ltr hL, ↓gd_m hL, ↓gd_0 hL, gd_t, Option.bind_some, bd2_some, bd3_some, bd4_some, gm_some, gm_none, ↓reduceIte, or_self, or_false, false_or, or_true, true_or, and_self, and_true, true_and, and_false, false_and, not_false_eq_true, not_true_eq_false, Nat.reduceAdd, Nat.reduceMul, Int32.reduceLT, Int32.reduceLE, eq_self, ev_lit, ev_10, Int32.reduceToNatClampNeg, Nat.reduceLeDiff, Nat.reduceEqDiff, Nat.reduceLT, nI_clamp, ev_ng, ev_L1, ev_L2, ev_L3, ev_K1, ev_K2, ev_K3, ev_K4, ev_K5, ev_a1, ev_m1, ev_s1, ev_s2, nI_add, ev_nle, ev_le, ev_lt, ev_nlt, ev_ne, ev_eq, ev_uI hL, ev_uJ hL, ev_m hL, ev_mr hL, ev_mt hL, ev_mz hL, ev_mj hL, ev_n8 hL, ev_n64 hL, ev_n229 hL, ev_n254 hL, ev_n257 hL, ev_n259 hL, ev_n260 hL, ev_n261 hL, ev_0 hL, ev_00 hL, ev_01 hL, ev_02 hL, ev_1 hL, ev_1n hL, ev_1r hL, ev_lg hL, ev_lr hL, ev_sr hL, ev_2 hL, ev_2n hL, ev_3 hL, ev_30 hL, ev_31 hL, ev_4 hL, ev_4n hL, ev_5 hL, ev_5n hL, ev_4r hL, ev_lt1 hL, ev_ltr hL, ev_lnt hL, ev_lnn hL, ev_7 hL, ev_7n hL, ev_uE, ev_uK]
      · rw [if_neg (fun u => e2 u.2)]
        simp (disch := omega) only [f_M_pivotOf_b38, e0, e', h41, ↓bnd_in, ↓Option.bind_some, ↓bd2_some, ↓bd3_some, ↓bd4_some, ↓ew_mr hL, ↓ew_00 hL, ↓ew_01 hL, ↓ew_02 hL, ↓ew_1r hL, ↓ew_lr hL, ↓ew_30 hL, ↓ew_31 hL, ↓ew_4r hL, ↓ew_ltr hL, ↓gd_m hL, ↓gd_0 hL, gd_t, Option.bind_some, bd2_some, bd3_some, bd4_some, gm_some, gm_none, ↓reduceIte, or_self, or_false, false_or, or_true, true_or, and_self, and_true, true_and, and_false, false_and, not_false_eq_true, not_true_eq_false, Nat.reduceAdd, Nat.reduceMul, Int32.reduceLT, Int32.reduceLE, eq_self, ev_lit, ev_10, Int32.reduceToNatClampNeg, Nat.reduceLeDiff, Nat.reduceEqDiff, Nat.reduceLT, nI_clamp, ev_ng, ev_L1, ev_L2, ev_L3, ev_K1, ev_K2, ev_K3, ev_K4, ev_K5, ev_a1, ev_m1, ev_s1, ev_s2, nI_add, ev_nle, ev_le, ev_lt, ev_nlt, ev_ne, ev_eq, ev_uI hL, ev_uJ hL, ev_m hL, ev_mr hL, ev_mt hL, ev_mz hL, ev_mj hL, ev_n8 hL, ev_n64 hL, ev_n229 hL, ev_n254 hL, ev_n257 hL, ev_n259 hL, ev_n260 hL, ev_n261 hL, ev_0 hL, ev_00 hL, ev_01 hL, ev_02 hL, ev_1 hL, ev_1n hL, ev_1r hL, ev_lg hL, ev_lr hL, ev_sr hL, ev_2 hL, ev_2n hL, ev_3 hL, ev_30 hL, ev_31 hL, ev_4 hL, ev_4n hL, ev_5 hL, ev_5n hL, ev_4r hL, ev_lt1 hL, ev_ltr hL, ev_lnt hL, ev_lnn hL, ev_7 hL, ev_7n hL, ev_uE, ev_uK]
        exact hb
    · rw [if_neg (fun u => e u.1)]
      have e' : nI (t l4) ≤ 0 := (nI_leI (a := t l4) (b := 0) (by omega) (by omega)).mpr (by omega)
      simp (disch := omega) only [f_M_pivotOf_b38, e0, e', h41, ↓bnd_in, ↓Option.bind_some, ↓bd2_some, ↓bd3_some, ↓bd4_some, ↓ew_mr hL, ↓ew_00 hL, ↓ew_01 hL, ↓ew_02 hL, ↓ew_1r hL, ↓ew_lr hL, ↓ew_30 hL, ↓ew_31 hL, ↓ew_4r hL, ↓ew_ltr hL, ↓gd_m hL, ↓gd_0 hL, gd_t, Option.bind_some, bd2_some, bd3_some, bd4_some, gm_some, gm_none, ↓reduceIte, or_self, or_false, false_or, or_true, true_or, and_self, and_true, true_and, and_false, false_and, not_false_eq_true, not_true_eq_false, Nat.reduceAdd, Nat.reduceMul, Int32.reduceLT, Int32.reduceLE, eq_self, ev_lit, ev_10, Int32.reduceToNatClampNeg, Nat.reduceLeDiff, Nat.reduceEqDiff, Nat.reduceLT, nI_clamp, ev_ng, ev_L1, ev_L2, ev_L3, ev_K1, ev_K2, ev_K3, ev_K4, ev_K5, ev_a1, ev_m1, ev_s1, ev_s2, nI_add, ev_nle, ev_le, ev_lt, ev_nlt, ev_ne, ev_eq, ev_uI hL, ev_uJ hL, ev_m hL, ev_mr hL, ev_mt hL, ev_mz hL, ev_mj hL, ev_n8 hL, ev_n64 hL, ev_n229 hL, ev_n254 hL, ev_n257 hL, ev_n259 hL, ev_n260 hL, ev_n261 hL, ev_0 hL, ev_00 hL, ev_01 hL, ev_02 hL, ev_1 hL, ev_1n hL, ev_1r hL, ev_lg hL, ev_lr hL, ev_sr hL, ev_2 hL, ev_2n hL, ev_3 hL, ev_30 hL, ev_31 hL, ev_4 hL, ev_4n hL, ev_5 hL, ev_5n hL, ev_4r hL, ev_lt1 hL, ev_ltr hL, ev_lnt hL, ev_lnn hL, ev_7 hL, ev_7n hL, ev_uE, ev_uK]
      exact hb
  | succ g ih =>
    intro i n hi hn
    obtain ⟨n, rfl⟩ : ∃ k, n = k + 1 := ⟨n - 1, by omega⟩
    have e0 := h0 i (by omega)
    have e1 := h1 i (by omega)
    rw [← ih (i + 1) n (by omega) (by omega)]
    by_cases e : m i ≤ x
    · have en : ¬ x < m i := Int32.not_lt.mpr e
      have hp : pcn t m x (i + 1) = pcn t m x i + t i := by
        show pcn t m x i + (if m i ≤ x then t i else 0) = _
        rw [if_pos e]
      rw [hp]
      simp (disch := omega) only [f_M_pivotOf_b38, f_M_pivotOf_b86, e0, e1, en, ↓bnd_in, ↓Option.bind_some, ↓bd2_some, ↓bd3_some, ↓bd4_some, ↓ew_mr hL, ↓ew_00 hL, ↓ew_01 hL, ↓ew_02 hL, ↓ew_1r hL, ↓ew_lr hL, ↓ew_30 hL, ↓ew_31 hL, ↓ew_4r hL, ↓ew_ltr hL, ↓gd_m hL, ↓gd_0 hL, gd_t, Option.bind_some, bd2_some, bd3_some, bd4_some, gm_some, gm_none, ↓reduceIte, or_self, or_false, false_or, or_true, true_or, and_self, and_true, true_and, and_false, false_and, not_false_eq_true, not_true_eq_false, Nat.reduceAdd, Nat.reduceMul, Int32.reduceLT, Int32.reduceLE, eq_self, ev_lit, ev_10, Int32.reduceToNatClampNeg, Nat.reduceLeDiff, Nat.reduceEqDiff, Nat.reduceLT, nI_clamp, ev_ng, ev_L1, ev_L2, ev_L3, ev_K1, ev_K2, ev_K3, ev_K4, ev_K5, ev_a1, ev_m1, ev_s1, ev_s2, nI_add, ev_nle, ev_le, ev_lt, ev_nlt, ev_ne, ev_eq, ev_uI hL, ev_uJ hL, ev_m hL, ev_mr hL, ev_mt hL, ev_mz hL, ev_mj hL, ev_n8 hL, ev_n64 hL, ev_n229 hL, ev_n254 hL, ev_n257 hL, ev_n259 hL, ev_n260 hL, ev_n261 hL, ev_0 hL, ev_00 hL, ev_01 hL, ev_02 hL, ev_1 hL, ev_1n hL, ev_1r hL, ev_lg hL, ev_lr hL, ev_sr hL, ev_2 hL, ev_2n hL, ev_3 hL, ev_30 hL, ev_31 hL, ev_4 hL, ev_4n hL, ev_5 hL, ev_5n hL, ev_4r hL, ev_lt1 hL, ev_ltr hL, ev_lnt hL, ev_lnn hL, ev_7 hL, ev_7n hL, ev_uE, ev_uK]
    · have en : x < m i := Int32.not_le.mp e
      have hp : pcn t m x (i + 1) = pcn t m x i := by
        show pcn t m x i + (if m i ≤ x then t i else 0) = _
        rw [if_neg e, Nat.add_zero]
      rw [hp, f_M_pivotOf_b38]
      simp (disch := omega) only [f_M_pivotOf_b86, e0, e1, en, Int32.add_zero, ↓bnd_in, ↓Option.bind_some, ↓bd2_some, ↓bd3_some, ↓bd4_some, ↓ew_mr hL, ↓ew_00 hL, ↓ew_01 hL, ↓ew_02 hL, ↓ew_1r hL, ↓ew_lr hL, ↓ew_30 hL, ↓ew_31 hL, ↓ew_4r hL, ↓ew_ltr hL, ↓gd_m hL, ↓gd_0 hL, gd_t, Option.bind_some, bd2_some, bd3_some, bd4_some, gm_some, gm_none, ↓reduceIte, or_self, or_false, false_or, or_true, true_or, and_self, and_true, true_and, and_false, false_and, not_false_eq_true, not_true_eq_false, Nat.reduceAdd, Nat.reduceMul, Int32.reduceLT, Int32.reduceLE, eq_self, ev_lit, ev_10, Int32.reduceToNatClampNeg, Nat.reduceLeDiff, Nat.reduceEqDiff, Nat.reduceLT, nI_clamp, ev_ng, ev_L1, ev_L2, ev_L3, ev_K1, ev_K2, ev_K3, ev_K4, ev_K5, ev_a1, ev_m1, ev_s1, ev_s2, nI_add, ev_nle, ev_le, ev_lt, ev_nlt, ev_ne, ev_eq, ev_uI hL, ev_uJ hL, ev_m hL, ev_mr hL, ev_mt hL, ev_mz hL, ev_mj hL, ev_n8 hL, ev_n64 hL, ev_n229 hL, ev_n254 hL, ev_n257 hL, ev_n259 hL, ev_n260 hL, ev_n261 hL, ev_0 hL, ev_00 hL, ev_01 hL, ev_02 hL, ev_1 hL, ev_1n hL, ev_1r hL, ev_lg hL, ev_lr hL, ev_sr hL, ev_2 hL, ev_2n hL, ev_3 hL, ev_30 hL, ev_31 hL, ev_4 hL, ev_4n hL, ev_5 hL, ev_5n hL, ev_4r hL, ev_lt1 hL, ev_ltr hL, ev_lnt hL, ev_lnn hL, ev_7 hL, ev_7n hL, ev_uE, ev_uK]
theorem pv_rf (hL : Lay S A ex) (hq : q < 8) (ht : ∀ l, l < 8 → t l ≤ 500) (ho : o < 2 ^ 30) (h0 : ∀ l, l < 8 → I (A 254) (4 * (8 * q + l)) = nI (t l)) (h1 : ∀ l, l < 8 → I (A 254) (4 * (8 * q + l) + 1) = m l) (h41 : I (A 241) q = nI o) : ∀ g i n, i + g = 8 → g < n → f_M_pivotOf_b7 S I J n (A 6) (nI q) ((pb t m o i).getD 0) (if (pb t m o i).isSome then 1 else 0) (nI i) = some ((pb t m o 8).getD 0) := by
  intro g
  induction g with
  | zero =>
    intro i n hi hn
    obtain ⟨n, rfl⟩ : ∃ k, n = k + 1 := ⟨n - 1, by omega⟩
    obtain rfl : i = 8 := by omega
    rw [f_M_pivotOf_b7, if_pos (by decide)]
  | succ g ih =>
    intro i n hi hn
    obtain ⟨n, rfl⟩ : ∃ k, n = k + 1 := ⟨n - 1, by omega⟩
    have e1 := h1 i (by omega)
    have hi' := ih (i + 1) n (by omega) (by omega)
    have hin : ∀ l2 l3, f_M_pivotOf_b38 S I J (f_M_pivotOf_b7 S I J n) gFuel (A 6) (nI q) l2 l3 (nI i) (m i) 0 0 = if 0 < t i ∧ o ≤ 2 * pcn t m (m i) 8 then f_M_pivotOf_b130 S I J (f_M_pivotOf_b7 S I J n) 1 (A 6) (nI q) l2 l3 (nI i) (m i) else f_M_pivotOf_b152 S I J (f_M_pivotOf_b7 S I J n) (A 6) (nI q) l2 l3 (nI i) := fun l2 l3 => pv_in hL hq ht ho h0 h1 h41 (show i < 8 by omega) l2 l3 (m i) 8 0 gFuel (by omega) (by unfold gFuel; omega)
    have hst : ∀ l2 l3, f_M_pivotOf_b7 S I J (n + 1) (A 6) (nI q) l2 l3 (nI i) = f_M_pivotOf_b38 S I J (f_M_pivotOf_b7 S I J n) gFuel (A 6) (nI q) l2 l3 (nI i) (m i) 0 0 := fun l2 l3 => by
      simp (disch := omega) only [f_M_pivotOf_b7, e1, ↓bnd_in, ↓Option.bind_some, ↓bd2_some, ↓bd3_some, ↓bd4_some, ↓ew_mr hL, ↓ew_00 hL, ↓ew_01 hL, ↓ew_02 hL, ↓ew_1r hL, ↓ew_lr hL, ↓ew_30 hL, ↓ew_31 hL, ↓ew_4r hL, ↓ew_ltr hL, ↓gd_m hL, ↓gd_0 hL, gd_t, Option.bind_some, bd2_some, bd3_some, bd4_some, gm_some, gm_none, ↓reduceIte, or_self, or_false, false_or, or_true, true_or, and_self, and_true, true_and, and_false, false_and, not_false_eq_true, not_true_eq_false, Nat.reduceAdd, Nat.reduceMul, Int32.reduceLT, Int32.reduceLE, eq_self, ev_lit, ev_10, Int32.reduceToNatClampNeg, Nat.reduceLeDiff, Nat.reduceEqDiff, Nat.reduceLT, nI_clamp, ev_ng, ev_L1, ev_L2, ev_L3, ev_K1, ev_K2, ev_K3, ev_K4, ev_K5, ev_a1, ev_m1, ev_s1, ev_s2, nI_add, ev_nle, ev_le, ev_lt, ev_nlt, ev_ne, ev_eq, ev_uI hL, ev_uJ hL, ev_m hL, ev_mr hL, ev_mt hL, ev_mz hL, ev_mj hL, ev_n8 hL, ev_n64 hL, ev_n229 hL, ev_n254 hL, ev_n257 hL, ev_n259 hL, ev_n260 hL, ev_n261 hL, ev_0 hL, ev_00 hL, ev_01 hL, ev_02 hL, ev_1 hL, ev_1n hL, ev_1r hL, ev_lg hL, ev_lr hL, ev_sr hL, ev_2 hL, ev_2n hL, ev_3 hL, ev_30 hL, ev_31 hL, ev_4 hL, ev_4n hL, ev_5 hL, ev_5n hL, ev_4r hL, ev_lt1 hL, ev_ltr hL, ev_lnt hL, ev_lnn hL, ev_7 hL, ev_7n hL, ev_uE, ev_uK]
    have hb7 : ∀ l2 l3, f_M_pivotOf_b152 S I J (f_M_pivotOf_b7 S I J n) (A 6) (nI q) l2 l3 (nI i) = f_M_pivotOf_b7 S I J n (A 6) (nI q) l2 l3 (nI (i + 1)) := fun l2 l3 => by
      rw [f_M_pivotOf_b152, bnd_in, ev_a1]
    have hpb : pb t m o (i + 1) = match pb t m o i with
      | none => if 0 < t i ∧ o ≤ 2 * pcn t m (m i) 8 then some (m i) else none
      | some b => if (0 < t i ∧ o ≤ 2 * pcn t m (m i) 8) ∧ m i < b then some (m i) else some b := rfl
    have k0 : (if (none : Option Int32).isSome = true then (1 : Int32) else 0) = 0 := rfl
    have k1 : ∀ b : Int32, (if (some b).isSome = true then (1 : Int32) else 0) = 1 := fun _ => rfl
    have k2 : (none : Option Int32).getD 0 = 0 := rfl
    have k3 : ∀ b : Int32, (some b).getD 0 = b := fun _ => rfl
    rw [hst, hin, ← hi']
    cases hb : pb t m o i with
    | none =>
      rw [hb] at hpb
      dsimp only at hpb
      rw [k0, k2]
      by_cases e : 0 < t i ∧ o ≤ 2 * pcn t m (m i) 8
      · rw [if_pos e] at hpb
        rw [if_pos e, hpb, k1, k3, f_M_pivotOf_b130, if_neg (by decide), if_pos rfl, f_M_pivotOf_b147, hb7]
      · rw [if_neg e] at hpb
        rw [if_neg e, hpb, k0, k2, hb7]
    | some b =>
      rw [hb] at hpb
      dsimp only at hpb
      rw [k1, k3]
      by_cases e : 0 < t i ∧ o ≤ 2 * pcn t m (m i) 8
      · rw [if_pos e, f_M_pivotOf_b130, if_neg (by decide), if_neg (by decide)]
        by_cases e3 : m i < b
        · rw [if_pos ⟨e, e3⟩] at hpb
          rw [if_neg (Int32.not_le.mpr e3), hpb, k1, k3, f_M_pivotOf_b147, hb7]
        · rw [if_neg (fun u => e3 u.2)] at hpb
          rw [if_pos (Int32.not_lt.mp e3), hpb, k1, k3, hb7]
      · rw [if_neg (fun u => e u.1)] at hpb
        rw [if_neg e, hpb, k1, k3, hb7]
theorem pv_cls (hL : Lay S A ex) (hq : q < 8) (he : ex q = true) (ht : ∀ l, l < 8 → t l ≤ 500) (ho : o < 2 ^ 30) (h0 : ∀ l, l < 8 → I (A (300 + 40 * q + 10 + l)) 0 = nI (t l)) (h1 : ∀ l, l < 8 → I (A (300 + 40 * q + 10 + l)) 1 = m l) : f_Replies_pivot S I J (A (300 + 40 * q + 3)) (nI o) = some (pa t m o 8) := pv_cl hL hq he ht ho h0 h1 8 0 gFuel (by omega) (by unfold gFuel; omega)
theorem pv_ref (hL : Lay S A ex) (hq : q < 8) (ht : ∀ l, l < 8 → t l ≤ 500) (ho : o < 2 ^ 30) (h0 : ∀ l, l < 8 → I (A 254) (4 * (8 * q + l)) = nI (t l)) (h1 : ∀ l, l < 8 → I (A 254) (4 * (8 * q + l) + 1) = m l) (h41 : I (A 241) q = nI o) : f_M_pivotOf S I J (A 6) (nI q) = some ((pb t m o 8).getD 0) := by
  rw [f_M_pivotOf]
  exact pv_rf hL hq ht ho h0 h1 h41 8 0 gFuel (by omega) (by unfold gFuel; omega)
end PIVOT
