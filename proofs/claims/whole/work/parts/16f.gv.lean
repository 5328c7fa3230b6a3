-- goOn: the reading at a rank among those given
section GIVEN
variable {S : gS} {A : Nat → Nat} {ex : Nat → Bool} {I Ic : gMI} {J Jc : gMJ} {q : Nat} {C : Nat → Nat}
/-- the i-th reading given by logger l -/
def gvF (A : Nat → Nat) (I : gMI) (q l i : Nat) : Int := (I (A 257) (64 * (8 * q + l) + i)).toInt
def ctn (f : Nat → Int) (x : Int) : Nat → Nat
  | 0 => 0
  | n + 1 => ctn f x n + if f n ≤ x then 1 else 0
def rwn (F : Nat → Nat → Int) (C : Nat → Nat) (x : Int) : Nat → Nat
  | 0 => 0
  | l + 1 => rwn F C x l + ctn (F l) x (C l)
theorem ctn_low (f : Nat → Int) (x : Int) : ∀ n, (ctn f x n : Int) = pu_tot (pu_lt (x + 1)) f n
  | 0 => rfl
  | n + 1 => by
    have ih := ctn_low f x n
    show ((ctn f x n + if f n ≤ x then 1 else 0 : Nat) : Int) = pu_tot _ f n + pu_lt (x + 1) (f n)
    rw [← ih]
    unfold pu_lt
    by_cases e : f n ≤ x
    · rw [if_pos e, if_pos (by omega)]; omega
    · rw [if_neg e, if_neg (by omega)]; omega
theorem rwn_low (F : Nat → Nat → Int) (C : Nat → Nat) (x : Int) : ∀ n, (rwn F C x n : Int) = pu_rows (pu_lt (x + 1)) F C n
  | 0 => rfl
  | n + 1 => by
    have ih := rwn_low F C x n
    have := ctn_low (F n) x (C n)
    show ((rwn F C x n + ctn (F n) x (C n) : Nat) : Int) = pu_rows _ F C n + pu_tot _ (F n) (C n)
    omega
theorem ctn_le (f : Nat → Int) (x : Int) : ∀ n, ctn f x n ≤ n
  | 0 => Nat.le_refl 0
  | n + 1 => by
    have ih := ctn_le f x n
    show ctn f x n + (if f n ≤ x then 1 else 0) ≤ n + 1
    split <;> omega
theorem rwn_le {F : Nat → Nat → Int} {C : Nat → Nat} (hC : ∀ l, l < 8 → C l ≤ 64) (x : Int) : ∀ n, n ≤ 8 → rwn F C x n ≤ 64 * n
  | 0, _ => Nat.le_refl 0
  | n + 1, h => by
    have ih := rwn_le (F := F) hC x n (by omega)
    have h2 := ctn_le (F n) x (C n)
    have h3 := hC n (by omega)
    show rwn F C x n + ctn (F n) x (C n) ≤ _
    omega
theorem gu_in (hL : Lay S A ex) (hq : q < 8) (hC : ∀ l, l < 8 → C l ≤ 64) (hC2 : ∀ l, l < 8 → I (A 256) (8 * q + l) = nI (C l)) (v : Int64) {k6 : Nat → Int32 → Int64 → Int32 → Int32 → Option Int32} {l : Nat} (hl : l < 8) (cnt : Nat) (hcnt : cnt ≤ 512) : ∀ g i m, i + g = C l → g < m → f_M_givenUpTo_b25 S I J k6 m (A 6) (nI q) v (nI (cnt + ctn (gvF A I q l) v.toInt i)) (nI l) (nI (8 * q + l)) (nI i) = k6 (A 6) (nI q) v (nI (cnt + ctn (gvF A I q l) v.toInt (C l))) (nI (l + 1)) := by
  have h1 := hC l hl
  have h2 := hC2 l hl
  intro g
  induction g with
  | zero =>
    intro i m hi hm
    obtain ⟨m, rfl⟩ : ∃ k, m = k + 1 := ⟨m - 1, by omega⟩
    obtain rfl : i = C l := by omega
    simp (disch := omega) only [f_M_givenUpTo_b25, h2, ↓bnd_in, ↓Option.bind_some, ↓bd2_some, ↓bd3_some, ↓bd4_some, ↓ew_mr hL, ↓ew_00 hL, ↓ew_01 hL, ↓ew_02 hL, ↓ew_1r hL, ↓ew_lr hL, ↓ew_30 hL, ↓ew_31 hL, ↓ew_4r hL, ↓ew_ltr hL, ↓gd_m hL, ↓gd_0 hL, gd_t, Option.bind_some, bd2_some, bd3_some, bd4_some, gm_some, gm_none, ↓reduceIte, or_self, or_false, false_or, or_true, true_or, and_self, and_true, true_and, and_false, false_and, not_false_eq_true, not_true_eq_false, Nat.reduceAdd, Nat.reduceMul, Int32.reduceLT, Int32.reduceLE, eq_self, ev_lit, ev_10, Int32.reduceToNatClampNeg, Nat.reduceLeDiff, Nat.reduceEqDiff, Nat.reduceLT, nI_clamp, ev_ng, ev_L1, ev_L2, ev_L3, ev_K1, ev_K2, ev_K3, ev_K4, ev_K5, ev_a1, ev_m1, ev_s1, ev_s2, nI_add, ev_nle, ev_le, ev_lt, ev_nlt, ev_ne, ev_eq, ev_uI hL, ev_uJ hL, ev_m hL, ev_mr hL, ev_mt hL, ev_mz hL, ev_mj hL, ev_n8 hL, ev_n64 hL, ev_n229 hL, ev_n254 hL, ev_n257 hL, ev_n259 hL, ev_n260 hL, ev_n261 hL, ev_0 hL, ev_00 hL, ev_01 hL, ev_02 hL, ev_1 hL, ev_1n hL, ev_1r hL, ev_lg hL, ev_lr hL, ev_sr hL, ev_2 hL, ev_2n hL, ev_3 hL, ev_30 hL, ev_31 hL, ev_4 hL, ev_4n hL, ev_5 hL, ev_5n hL, ev_4r hL, ev_lt1 hL, ev_ltr hL, ev_lnt hL, ev_lnn hL, ev_7 hL, ev_7n hL, ev_uE, ev_uK]
  | succ g ih =>
    intro i m hi hm
    obtain ⟨m, rfl⟩ : ∃ k, m = k + 1 := ⟨m - 1, by omega⟩
    rw [← ih (i + 1) m (by omega) (by omega)]
    have hg := lgc_gt ((I (A 257) (64 * (8 * q + l) + i)).toInt64) v
    rw [Int32.toInt_toInt64] at hg
    by_cases e : gvF A I q l i ≤ v.toInt
    · have en : ¬ 0 < lg_cmp ((I (A 257) (64 * (8 * q + l) + i)).toInt64) v := fun u => by
        have := hg.mp u
        unfold gvF at e
        omega
      have hp : ctn (gvF A I q l) v.toInt (i + 1) = ctn (gvF A I q l) v.toInt i + 1 := by
        show ctn _ _ i + (if _ then 1 else 0) = _
        rw [if_pos e]
      rw [hp]
      simp (disch := omega) only [f_M_givenUpTo_b25, f_M_givenUpTo_b63, h2, en, ↓bnd_in, ↓Option.bind_some, ↓bd2_some, ↓bd3_some, ↓bd4_some, ↓ew_mr hL, ↓ew_00 hL, ↓ew_01 hL, ↓ew_02 hL, ↓ew_1r hL, ↓ew_lr hL, ↓ew_30 hL, ↓ew_31 hL, ↓ew_4r hL, ↓ew_ltr hL, ↓gd_m hL, ↓gd_0 hL, gd_t, Option.bind_some, bd2_some, bd3_some, bd4_some, gm_some, gm_none, ↓reduceIte, or_self, or_false, false_or, or_true, true_or, and_self, and_true, true_and, and_false, false_and, not_false_eq_true, not_true_eq_false, Nat.reduceAdd, Nat.reduceMul, Int32.reduceLT, Int32.reduceLE, eq_self, ev_lit, ev_10, Int32.reduceToNatClampNeg, Nat.reduceLeDiff, Nat.reduceEqDiff, Nat.reduceLT, nI_clamp, ev_ng, ev_L1, ev_L2, ev_L3, ev_K1, ev_K2, ev_K3, ev_K4, ev_K5, ev_a1, ev_m1, ev_s1, ev_s2, nI_add, ev_nle, ev_le, ev_lt, ev_nlt, ev_ne, ev_eq, ev_uI hL, ev_uJ hL, ev_m hL, ev_mr hL, ev_mt hL, ev_mz hL, ev_mj hL, ev_n8 hL, ev_n64 hL, ev_n229 hL, ev_n254 hL, ev_n257 hL, ev_n259 hL, ev_n260 hL, ev_n261 hL, ev_0 hL, ev_00 hL, ev_01 hL, ev_02 hL, ev_1 hL, ev_1n hL, ev_1r hL, ev_lg hL, ev_lr hL, ev_sr hL, ev_2 hL, ev_2n hL, ev_3 hL, ev_30 hL, ev_31 hL, ev_4 hL, ev_4n hL, ev_5 hL, ev_5n hL, ev_4r hL, ev_lt1 hL, ev_ltr hL, ev_lnt hL, ev_lnn hL, ev_7 hL, ev_7n hL, ev_uE, ev_uK]
      rw [Nat.add_assoc]
    · have en : 0 < lg_cmp ((I (A 257) (64 * (8 * q + l) + i)).toInt64) v := hg.mpr (by unfold gvF at e; omega)
      have hp : ctn (gvF A I q l) v.toInt (i + 1) = ctn (gvF A I q l) v.toInt i := by
        show ctn _ _ i + (if _ then 1 else 0) = _
        rw [if_neg e, Nat.add_zero]
      rw [hp, f_M_givenUpTo_b25]
      simp (disch := omega) only [f_M_givenUpTo_b63, h2, en, Int32.add_zero, ↓bnd_in, ↓Option.bind_some, ↓bd2_some, ↓bd3_some, ↓bd4_some, ↓ew_mr hL, ↓ew_00 hL, ↓ew_01 hL, ↓ew_02 hL, ↓ew_1r hL, ↓ew_lr hL, ↓ew_30 hL, ↓ew_31 hL, ↓ew_4r hL, ↓ew_ltr hL, ↓gd_m hL, ↓gd_0 hL, gd_t, Option.bind_some, bd2_some, bd3_some, bd4_some, gm_some, gm_none, ↓reduceIte, or_self, or_false, false_or, or_true, true_or, and_self, and_true, true_and, and_false, false_and, not_false_eq_true, not_true_eq_false, Nat.reduceAdd, Nat.reduceMul, Int32.reduceLT, Int32.reduceLE, eq_self, ev_lit, ev_10, Int32.reduceToNatClampNeg, Nat.reduceLeDiff, Nat.reduceEqDiff, Nat.reduceLT, nI_clamp, ev_ng, ev_L1, ev_L2, ev_L3, ev_K1, ev_K2, ev_K3, ev_K4, ev_K5, ev_a1, ev_m1, ev_s1, ev_s2, nI_add, ev_nle, ev_le, ev_lt, ev_nlt, ev_ne, ev_eq, ev_uI hL, ev_uJ hL, ev_m hL, ev_mr hL, ev_mt hL, ev_mz hL, ev_mj hL, ev_n8 hL, ev_n64 hL, ev_n229 hL, ev_n254 hL, ev_n257 hL, ev_n259 hL, ev_n260 hL, ev_n261 hL, ev_0 hL, ev_00 hL, ev_01 hL, ev_02 hL, ev_1 hL, ev_1n hL, ev_1r hL, ev_lg hL, ev_lr hL, ev_sr hL, ev_2 hL, ev_2n hL, ev_3 hL, ev_30 hL, ev_31 hL, ev_4 hL, ev_4n hL, ev_5 hL, ev_5n hL, ev_4r hL, ev_lt1 hL, ev_ltr hL, ev_lnt hL, ev_lnn hL, ev_7 hL, ev_7n hL, ev_uE, ev_uK]
theorem gu_out (hL : Lay S A ex) (hq : q < 8) (hC : ∀ l, l < 8 → C l ≤ 64) (hC2 : ∀ l, l < 8 → I (A 256) (8 * q + l) = nI (C l)) (v : Int64) : ∀ g l m, l + g = 8 → g < m → f_M_givenUpTo_b6 S I J m (A 6) (nI q) v (nI (rwn (gvF A I q) C v.toInt l)) (nI l) = some (nI (rwn (gvF A I q) C v.toInt 8)) := by
  intro g
  induction g with
  | zero =>
    intro l m hl hm
    obtain ⟨m, rfl⟩ : ∃ k, m = k + 1 := ⟨m - 1, by omega⟩
    obtain rfl : l = 8 := by omega
    rw [f_M_givenUpTo_b6, if_pos (by decide)]
  | succ g ih =>
    intro l m hl hm
    obtain ⟨m, rfl⟩ : ∃ k, m = k + 1 := ⟨m - 1, by omega⟩
    have hle := rwn_le (F := gvF A I q) hC v.toInt l (by omega)
    have h1 := gu_in (J := J) hL hq hC hC2 v (k6 := f_M_givenUpTo_b6 S I J m) (show l < 8 by omega) (rwn (gvF A I q) C v.toInt l) (by omega) (C l) 0 gFuel (by omega) (by have := hC l (by omega); unfold gFuel; omega)
    have hi := ih (l + 1) m (by omega) (by omega)
    have hst : f_M_givenUpTo_b6 S I J (m + 1) (A 6) (nI q) v (nI (rwn (gvF A I q) C v.toInt l)) (nI l) = f_M_givenUpTo_b25 S I J (f_M_givenUpTo_b6 S I J m) gFuel (A 6) (nI q) v (nI (rwn (gvF A I q) C v.toInt l)) (nI l) (nI (8 * q + l)) 0 := by
      simp (disch := omega) only [f_M_givenUpTo_b6, ↓bnd_in, ↓Option.bind_some, ↓bd2_some, ↓bd3_some, ↓bd4_some, ↓ew_mr hL, ↓ew_00 hL, ↓ew_01 hL, ↓ew_02 hL, ↓ew_1r hL, ↓ew_lr hL, ↓ew_30 hL, ↓ew_31 hL, ↓ew_4r hL, ↓ew_ltr hL, ↓gd_m hL, ↓gd_0 hL, gd_t, Option.bind_some, bd2_some, bd3_some, bd4_some, gm_some, gm_none, ↓reduceIte, or_self, or_false, false_or, or_true, true_or, and_self, and_true, true_and, and_false, false_and, not_false_eq_true, not_true_eq_false, Nat.reduceAdd, Nat.reduceMul, Int32.reduceLT, Int32.reduceLE, eq_self, ev_lit, ev_10, Int32.reduceToNatClampNeg, Nat.reduceLeDiff, Nat.reduceEqDiff, Nat.reduceLT, nI_clamp, ev_ng, ev_L1, ev_L2, ev_L3, ev_K1, ev_K2, ev_K3, ev_K4, ev_K5, ev_a1, ev_m1, ev_s1, ev_s2, nI_add, ev_nle, ev_le, ev_lt, ev_nlt, ev_ne, ev_eq, ev_uI hL, ev_uJ hL, ev_m hL, ev_mr hL, ev_mt hL, ev_mz hL, ev_mj hL, ev_n8 hL, ev_n64 hL, ev_n229 hL, ev_n254 hL, ev_n257 hL, ev_n259 hL, ev_n260 hL, ev_n261 hL, ev_0 hL, ev_00 hL, ev_01 hL, ev_02 hL, ev_1 hL, ev_1n hL, ev_1r hL, ev_lg hL, ev_lr hL, ev_sr hL, ev_2 hL, ev_2n hL, ev_3 hL, ev_30 hL, ev_31 hL, ev_4 hL, ev_4n hL, ev_5 hL, ev_5n hL, ev_4r hL, ev_lt1 hL, ev_ltr hL, ev_lnt hL, ev_lnn hL, ev_7 hL, ev_7n hL, ev_uE, ev_uK]
    rw [hst]
    exact h1.trans hi
theorem gut (hL : Lay S A ex) (hq : q < 8) (hC : ∀ l, l < 8 → C l ≤ 64) (hC2 : ∀ l, l < 8 → I (A 256) (8 * q + l) = nI (C l)) (v : Int64) : f_M_givenUpTo S I J (A 6) (nI q) v = some (nI (rwn (gvF A I q) C v.toInt 8)) := gu_out hL hq hC hC2 v 8 0 gFuel (by omega) (by unfold gFuel; omega)
/-- v is the k-th least of those given -/
def gvP (F : Nat → Nat → Int) (C : Nat → Nat) (k v : Int32) : Prop := ¬ k ≤ nI (rwn F C (v.toInt - 1) 8) ∧ ¬ nI (rwn F C v.toInt 8) < k
/-- what the reference has found up to reading i of logger l -/
def gvO (A : Nat → Nat) (I : gMI) (q : Nat) (C : Nat → Nat) (k : Int32) (l i : Nat) (it : Int32) : Prop := (it = 0 ∧ ∀ l' i', l' < 8 → i' < C l' → (l' < l ∨ (l' = l ∧ i' < i)) → ¬ gvP (gvF A I q) C k (I (A 257) (64 * (8 * q + l') + i'))) ∨ ∃ l' i', l' < 8 ∧ i' < C l' ∧ it = I (A 257) (64 * (8 * q + l') + i') ∧ gvP (gvF A I q) C k it
theorem ag_in (hL : Lay S A ex) (hq : q < 8) (hC : ∀ l, l < 8 → C l ≤ 64) (hC2 : ∀ l, l < 8 → I (A 256) (8 * q + l) = nI (C l)) (k : Int32) {k19 : gMI → gMJ → Nat → Int32 → Int32 → Int32 → Int32 → Option (gMI × gMJ)} {l : Nat} (hl : l < 8) : ∀ g i m it, i + g = C l → g < m → gvO A I q C k l i it → ∃ it', f_M_afterGive_b38 S k19 m I J (A 6) (nI q) k it (nI l) (nI (8 * q + l)) (nI i) = k19 I J (A 6) (nI q) k it' (nI (l + 1)) ∧ gvO A I q C k (l + 1) 0 it' := by
  have h1 := hC l hl
  have h2 := hC2 l hl
  intro g
  induction g with
  | zero =>
    intro i m it hi hm ho
    obtain ⟨m, rfl⟩ : ∃ k, m = k + 1 := ⟨m - 1, by omega⟩
    obtain rfl : i = C l := by omega
    refine ⟨it, ?_, ?_⟩
    · simp (disch := omega) only [f_M_afterGive_b38, h2, ↓bnd_in, ↓Option.bind_some, ↓bd2_some, ↓bd3_some, ↓bd4_some, ↓ew_mr hL, ↓ew_00 hL, ↓ew_01 hL, ↓ew_02 hL, ↓ew_1r hL, ↓ew_lr hL, ↓ew_30 hL, ↓ew_31 hL, ↓ew_4r hL, ↓ew_ltr hL, ↓gd_m hL, ↓gd_0 hL, gd_t, Option.bind_some, bd2_some, bd3_some, bd4_some, gm_some, gm_none, ↓reduceIte, or_self, or_false, false_or, or_true, true_or, and_self, and_true, true_and, and_false, false_and, not_false_eq_true, not_true_eq_false, Nat.reduceAdd, Nat.reduceMul, Int32.reduceLT, Int32.reduceLE, eq_self, ev_lit, ev_10, Int32.reduceToNatClampNeg, Nat.reduceLeDiff, Nat.reduceEqDiff, Nat.reduceLT, nI_clamp, ev_ng, ev_L1, ev_L2, ev_L3, ev_K1, ev_K2, ev_K3, ev_K4, ev_K5, ev_a1, ev_m1, ev_s1, ev_s2, nI_add, ev_nle, ev_le, ev_lt, ev_nlt, ev_ne, ev_eq, ev_uI hL, ev_uJ hL, ev_m hL, ev_mr hL, ev_mt hL, ev_mz hL, ev_mj hL, ev_n8 hL, ev_n64 hL, ev_n229 hL, ev_n254 hL, ev_n257 hL, ev_n259 hL, ev_n260 hL, ev_n261 hL, ev_0 hL, ev_00 hL, ev_01 hL, ev_02 hL, ev_1 hL, ev_1n hL, ev_1r hL, ev_lg hL, ev_lr hL, ev_sr hL, ev_2 hL, ev_2n hL, ev_3 hL, ev_30 hL, ev_31 hL, ev_4 hL, ev_4n hL, ev_5 hL, ev_5n hL, ev_4r hL, ev_lt1 hL, ev_ltr hL, ev_lnt hL, ev_lnn hL, ev_7 hL, ev_7n hL, ev_uE, ev_uK]
    · refine ho.imp (fun h => ⟨h.1, fun l' i' hl' hi' hh => h.2 l' i' hl' hi' ?_⟩) id
      by_cases e : l' = l
      · subst e; exact Or.inr ⟨rfl, hi'⟩
      · exact Or.inl (by omega)
  | succ g ih =>
    intro i m it hi hm ho
    obtain ⟨m, rfl⟩ : ∃ k, m = k + 1 := ⟨m - 1, by omega⟩
    have hg1 := gut (J := J) hL hq hC hC2 ((I (A 257) (64 * (8 * q + l) + i)).toInt64 - 1)
    have hg2 := gut (J := J) hL hq hC hC2 ((I (A 257) (64 * (8 * q + l) + i)).toInt64)
    rw [lo_sub1 (by
      have := (I (A 257) (64 * (8 * q + l) + i)).le_toInt
      rw [Int32.toInt_toInt64]
      omega), Int32.toInt_toInt64] at hg1
    rw [Int32.toInt_toInt64] at hg2
    have hno : ¬ gvP (gvF A I q) C k (I (A 257) (64 * (8 * q + l) + i)) → gvO A I q C k l (i + 1) it := fun hn => by
      refine ho.imp (fun h => ⟨h.1, fun l' i' hl' hi' hh => ?_⟩) id
      by_cases e : l' = l ∧ i' = i
      · rw [e.1, e.2]; exact hn
      · exact h.2 l' i' hl' hi' (by omega)
    by_cases e1 : k ≤ nI (rwn (gvF A I q) C ((I (A 257) (64 * (8 * q + l) + i)).toInt - 1) 8)
    · obtain ⟨it', x1, x2⟩ := ih (i + 1) m it (by omega) (by omega) (hno (fun h => h.1 e1))
      refine ⟨it', ?_, x2⟩
      rw [← x1]
      simp (disch := omega) only [f_M_afterGive_b38, f_M_afterGive_b96, f_M_afterGive_b97, h2, ↓ob_h hg1, e1, ↓bnd_in, ↓Option.bind_some, ↓bd2_some, ↓bd3_some, ↓bd4_some, ↓ew_mr hL, ↓ew_00 hL, ↓ew_01 hL, ↓ew_02 hL, ↓ew_1r hL, ↓ew_lr hL, ↓ew_30 hL, ↓ew_31 hL, ↓ew_4r hL, ↓ew_ltr hL, ↓gd_m hL, ↓gd_0 hL, gd_t, Option.bind_some, bd2_some, bd3_some, bd4_some, gm_some, gm_none, ↓reduceIte, or_self, or_false, false_or, or_true, true_or, and_self, and_true, true_and, and_false, false_and, not_false_eq_true, not_true_eq_false, Nat.reduceAdd, Nat.reduceMul, Int32.reduceLT, Int32.reduceLE, eq_self, ev_lit, ev_10, Int32.reduceToNatClampNeg, Nat.reduceLeDiff, Nat.reduceEqDiff, Nat.reduceLT, nI_clamp, ev_ng, ev_L1, ev_L2, ev_L3, ev_K1, ev_K2, ev_K3, ev_K4, ev_K5, ev_a1, ev_m1, ev_s1, ev_s2, nI_add, ev_nle, ev_le, ev_lt, ev_nlt, ev_ne, ev_eq, ev_uI hL, ev_uJ hL, ev_m hL, ev_mr hL, ev_mt hL, ev_mz hL, ev_mj hL, ev_n8 hL, ev_n64 hL, ev_n229 hL, ev_n254 hL, ev_n257 hL, ev_n259 hL, ev_n260 hL, ev_n261 hL, ev_0 hL, ev_00 hL, ev_01 hL, ev_02 hL, ev_1 hL, ev_1n hL, ev_1r hL, ev_lg hL, ev_lr hL, ev_sr hL, ev_2 hL, ev_2n hL, ev_3 hL, ev_30 hL, ev_31 hL, ev_4 hL, ev_4n hL, ev_5 hL, ev_5n hL, ev_4r hL, ev_lt1 hL, ev_ltr hL, ev_lnt hL, ev_lnn hL, ev_7 hL, ev_7n hL, ev_uE, ev_uK]
    · by_cases e2 : nI (rwn (gvF A I q) C (I (A 257) (64 * (8 * q + l) + i)).toInt 8) < k
      · obtain ⟨it', x1, x2⟩ := ih (i + 1) m it (by omega) (by omega) (hno (fun h => h.2 e2))
        refine ⟨it', ?_, x2⟩
        rw [← x1]
        simp (disch := omega) only [f_M_afterGive_b38, f_M_afterGive_b96, f_M_afterGive_b97, h2, ↓ob_h hg1, ↓ob_h hg2, e1, e2, ↓bnd_in, ↓Option.bind_some, ↓bd2_some, ↓bd3_some, ↓bd4_some, ↓ew_mr hL, ↓ew_00 hL, ↓ew_01 hL, ↓ew_02 hL, ↓ew_1r hL, ↓ew_lr hL, ↓ew_30 hL, ↓ew_31 hL, ↓ew_4r hL, ↓ew_ltr hL, ↓gd_m hL, ↓gd_0 hL, gd_t, Option.bind_some, bd2_some, bd3_some, bd4_some, gm_some, gm_none, ↓reduceIte, or_self, or_false, false_or, or_true, true_or, and_self, and_true, true_and, and_false, false_and, not_false_eq_true, not_true_eq_false, Nat.reduceAdd, Nat.reduceMul, Int32.reduceLT, Int32.reduceLE, eq_self, ev_lit, ev_10, Int32.reduceToNatClampNeg, Nat.reduceLeDiff, Nat.reduceEqDiff, Nat.reduceLT, nI_clamp, ev_ng, ev_L1, ev_L2, ev_L3, ev_K1, ev_K2, ev_K3, ev_K4, ev_K5, ev_a1, ev_m1, ev_s1, ev_s2, nI_add, ev_nle, ev_le, ev_lt, ev_nlt, ev_ne, ev_eq, ev_uI hL, ev_uJ hL, ev_m hL, ev_mr hL, ev_mt hL, ev_mz hL, ev_mj hL, ev_n8 hL, ev_n64 hL, ev_n229 hL, ev_n254 hL, ev_n257 hL, ev_n259 hL, ev_n260 hL, ev_n261 hL, ev_0 hL, ev_00 hL, ev_01 hL, ev_02 hL, ev_1 hL, ev_1n hL, ev_1r hL, ev_lg hL, ev_lr hL, ev_sr hL, ev_2 hL, ev_2n hL, ev_3 hL, ev_30 hL, ev_31 hL, ev_4 hL, ev_4n hL, ev_5 hL, ev_5n hL, ev_4r hL, ev_lt1 hL, ev_ltr hL, ev_lnt hL, ev_lnn hL, ev_7 hL, ev_7n hL, ev_uE, ev_uK]
      · obtain ⟨it', x1, x2⟩ := ih (i + 1) m (I (A 257) (64 * (8 * q + l) + i)) (by omega) (by omega) (Or.inr ⟨l, i, hl, by omega, rfl, e1, e2⟩)
        refine ⟨it', ?_, x2⟩
        rw [← x1]
        simp (disch := omega) only [f_M_afterGive_b38, f_M_afterGive_b96, f_M_afterGive_b97, h2, ↓ob_h hg1, ↓ob_h hg2, e1, e2, ↓bnd_in, ↓Option.bind_some, ↓bd2_some, ↓bd3_some, ↓bd4_some, ↓ew_mr hL, ↓ew_00 hL, ↓ew_01 hL, ↓ew_02 hL, ↓ew_1r hL, ↓ew_lr hL, ↓ew_30 hL, ↓ew_31 hL, ↓ew_4r hL, ↓ew_ltr hL, ↓gd_m hL, ↓gd_0 hL, gd_t, Option.bind_some, bd2_some, bd3_some, bd4_some, gm_some, gm_none, ↓reduceIte, or_self, or_false, false_or, or_true, true_or, and_self, and_true, true_and, and_false, false_and, not_false_eq_true, not_true_eq_false, Nat.reduceAdd, Nat.reduceMul, Int32.reduceLT, Int32.reduceLE, eq_self, ev_lit, ev_10, Int32.reduceToNatClampNeg, Nat.reduceLeDiff, Nat.reduceEqDiff, Nat.reduceLT, nI_clamp, ev_ng, ev_L1, ev_L2, ev_L3, ev_K1, ev_K2, ev_K3, ev_K4, ev_K5, ev_a1, ev_m1, ev_s1, ev_s2, nI_add, ev_nle, ev_le, ev_lt, ev_nlt, ev_ne, ev_eq, ev_uI hL, ev_uJ hL, ev_m hL, ev_mr hL, ev_mt hL, ev_mz hL, ev_mj hL, ev_n8 hL, ev_n64 hL, ev_n229 hL, ev_n254 hL, ev_n257 hL, ev_n259 hL, ev_n260 hL, ev_n261 hL, ev_0 hL, ev_00 hL, ev_01 hL, ev_02 hL, ev_1 hL, ev_1n hL, ev_1r hL, ev_lg hL, ev_lr hL, ev_sr hL, ev_2 hL, ev_2n hL, ev_3 hL, ev_30 hL, ev_31 hL, ev_4 hL, ev_4n hL, ev_5 hL, ev_5n hL, ev_4r hL, ev_lt1 hL, ev_ltr hL, ev_lnt hL, ev_lnn hL, ev_7 hL, ev_7n hL, ev_uE, ev_uK]
theorem ag_out (hL : Lay S A ex) (hq : q < 8) (hC : ∀ l, l < 8 → C l ≤ 64) (hC2 : ∀ l, l < 8 → I (A 256) (8 * q + l) = nI (C l)) (k : Int32) : ∀ g l m it, l + g = 8 → g < m → gvO A I q C k l 0 it → ∃ it', (∀ I' J', f_M_isFound S I J (A 6) (nI q) it' = some (I', J') → f_M_afterGive_b19 S m I J (A 6) (nI q) k it (nI l) = some (I', J')) ∧ gvO A I q C k 8 0 it' := by
  intro g
  induction g with
  | zero =>
    intro l m it hl hm ho
    obtain ⟨m, rfl⟩ : ∃ k, m = k + 1 := ⟨m - 1, by omega⟩
    obtain rfl : l = 8 := by omega
    refine ⟨it, fun I' J' e => ?_, ho⟩
    rw [f_M_afterGive_b19, if_pos (by decide), gd_in (ev_m hL), b2_h e]
  | succ g ih =>
    intro l m it hl hm ho
    obtain ⟨m, rfl⟩ : ∃ k, m = k + 1 := ⟨m - 1, by omega⟩
    obtain ⟨it1, x1, x2⟩ := ag_in (J := J) hL hq hC hC2 k (k19 := f_M_afterGive_b19 S m) (show l < 8 by omega) (C l) 0 gFuel it (by omega) (by have := hC l (by omega); unfold gFuel; omega) ho
    obtain ⟨it', y1, y2⟩ := ih (l + 1) m it1 (by omega) (by omega) x2
    refine ⟨it', fun I' J' e => ?_, y2⟩
    rw [← y1 _ _ e, ← x1]
    simp (disch := omega) only [f_M_afterGive_b19, ↓bnd_in, ↓Option.bind_some, ↓bd2_some, ↓bd3_some, ↓bd4_some, ↓ew_mr hL, ↓ew_00 hL, ↓ew_01 hL, ↓ew_02 hL, ↓ew_1r hL, ↓ew_lr hL, ↓ew_30 hL, ↓ew_31 hL, ↓ew_4r hL, ↓ew_ltr hL, ↓gd_m hL, ↓gd_0 hL, gd_t, Option.bind_some, bd2_some, bd3_some, bd4_some, gm_some, gm_none, ↓reduceIte, or_self, or_false, false_or, or_true, true_or, and_self, and_true, true_and, and_false, false_and, not_false_eq_true, not_true_eq_false, Nat.reduceAdd, Nat.reduceMul, Int32.reduceLT, Int32.reduceLE, eq_self, ev_lit, ev_10, Int32.reduceToNatClampNeg, Nat.reduceLeDiff, Nat.reduceEqDiff, Nat.reduceLT, nI_clamp, ev_ng, ev_L1, ev_L2, ev_L3, ev_K1, ev_K2, ev_K3, ev_K4, ev_K5, ev_a1, ev_m1, ev_s1, ev_s2, nI_add, ev_nle, ev_le, ev_lt, ev_nlt, ev_ne, ev_eq, ev_uI hL, ev_uJ hL, ev_m hL, ev_mr hL, ev_mt hL, ev_mz hL, ev_mj hL, ev_n8 hL, ev_n64 hL, ev_n229 hL, ev_n254 hL, ev_n257 hL, ev_n259 hL, ev_n260 hL, ev_n261 hL, ev_0 hL, ev_00 hL, ev_01 hL, ev_02 hL, ev_1 hL, ev_1n hL, ev_1r hL, ev_lg hL, ev_lr hL, ev_sr hL, ev_2 hL, ev_2n hL, ev_3 hL, ev_30 hL, ev_31 hL, ev_4 hL, ev_4n hL, ev_5 hL, ev_5n hL, ev_4r hL, ev_lt1 hL, ev_ltr hL, ev_lnt hL, ev_lnn hL, ev_7 hL, ev_7n hL, ev_uE, ev_uK]
    rfl
/-- class and reference find the same reading -/
theorem gv_same {s : Nat → Int} {n : Nat} {F : Nat → Nat → Int} (hn : n ≤ 64) (hs : pu_srt s n) (hF : ∀ φ : Int → Int, pu_tot φ s n = pu_rows φ F C 8) {k v : Int32} (hv : gvP F C k v) : 1 ≤ k.toInt ∧ k.toInt ≤ n ∧ s (k.toInt - 1).toNat = v.toInt := by
  obtain ⟨h1, h2⟩ := hv
  have a1 := rwn_low F C (v.toInt - 1) 8
  have a2 := rwn_low F C v.toInt 8
  rw [← hF, show v.toInt - 1 + 1 = v.toInt by omega] at a1
  rw [← hF] at a2
  have b1 := pu_low_nn v.toInt s n
  have b2 := pu_low_nn (v.toInt + 1) s n
  unfold pu_low at b1 b2
  have c1 : ¬ k.toInt ≤ rwn F C (v.toInt - 1) 8 := fun u => h1 (Int32.le_iff_toInt_le.mpr (by rw [nI_toInt (by omega)]; exact u))
  have c2 : ¬ (rwn F C v.toInt 8 : Int) < k.toInt := fun u => h2 (Int32.lt_iff_toInt_lt.mpr (by rw [nI_toInt (by omega)]; exact u))
  refine ⟨by omega, by omega, ?_⟩
  obtain ⟨x1, x2⟩ := pu_kth_all (k := k.toInt.toNat) hs (by omega) (by omega)
  rw [show (k.toInt - 1).toNat = k.toInt.toNat - 1 by omega]
  obtain ⟨w, hw⟩ : ∃ w, w = s (k.toInt.toNat - 1) := ⟨_, rfl⟩
  rw [← hw] at x1 x2 ⊢
  by_cases e1 : w < v.toInt
  · have := pu_low_mono (f := s) (n := n) (a := w + 1) (b := v.toInt) (by omega)
    unfold pu_low at this x1 x2
    omega
  · by_cases e2 : v.toInt < w
    · have := pu_low_mono (f := s) (n := n) (a := v.toInt + 1) (b := w) (by omega)
      unfold pu_low at this x1 x2
      omega
    · omega
theorem gv_mem {s : Nat → Int} {n : Nat} {F : Nat → Nat → Int} (hn : n ≤ 64) (hs : pu_srt s n) (hF : ∀ φ : Int → Int, pu_tot φ s n = pu_rows φ F C 8) {k : Int32} (h1 : 1 ≤ k.toInt) (h2 : k.toInt ≤ n) : ∃ l i, l < 8 ∧ i < C l ∧ F l i = s (k.toInt - 1).toNat ∧ ∀ v : Int32, v.toInt = F l i → gvP F C k v := by
  obtain ⟨x1, x2⟩ := pu_kth_all (k := k.toInt.toNat) hs (by omega) (by omega)
  rw [show k.toInt.toNat - 1 = (k.toInt - 1).toNat by omega] at x1 x2
  obtain ⟨w, hw⟩ : ∃ w, w = s (k.toInt - 1).toNat := ⟨_, rfl⟩
  rw [← hw] at x1 x2 ⊢
  have hp : 0 < pu_rows (pu_in w w) F C 8 := by
    rw [← hF]
    exact pu_cnt_at (a := w) (b := w) (f := s) (n := n) (i := (k.toInt - 1).toNat) (by omega) (by omega) (by omega)
  obtain ⟨l, hl, i, hi, e1, e2⟩ := pu_rows_pos hp
  refine ⟨l, i, hl, hi, by omega, fun v hv => ?_⟩
  have ev : v.toInt = w := by omega
  have a1 := rwn_low F C (v.toInt - 1) 8
  have a2 := rwn_low F C v.toInt 8
  rw [← hF, show v.toInt - 1 + 1 = v.toInt by omega] at a1
  rw [← hF] at a2
  have b1 := pu_low_nn v.toInt s n
  have b2 := pu_low_nn (v.toInt + 1) s n
  unfold pu_low at b1 b2 x1 x2
  rw [← ev] at x1 x2
  constructor
  · intro u
    have := Int32.le_iff_toInt_le.mp u
    rw [nI_toInt (by omega)] at this
    omega
  · intro u
    have := Int32.lt_iff_toInt_lt.mp u
    rw [nI_toInt (by omega)] at this
    omega
/-- the reading at rank k among those given: the class's look-up, what the reference goes on with -/
theorem give_same (hL : Lay S A ex) (hq : q < 8) {a w n : Nat} (hr : RowOk S Ic a w 64 n) (hC : ∀ l, l < 8 → C l ≤ 64) (hC2 : ∀ l, l < 8 → I (A 256) (8 * q + l) = nI (C l)) (hF : ∀ φ : Int → Int, pu_tot φ (rI Ic w) n = pu_rows φ (gvF A I q) C 8) (k : Int32) : ∃ it, f_SortedRow_at S Ic Jc a (k - 1) = some it ∧ ∀ I' J', f_M_isFound S I J (A 6) (nI q) it = some (I', J') → f_M_afterGive_b19 S gFuel I J (A 6) (nI q) k 0 0 = some (I', J') := by
  obtain ⟨-, -, -, -, -, -, hn, hs⟩ := id hr
  obtain ⟨it, x1, x2⟩ := ag_out (J := J) hL hq hC hC2 k 8 0 gFuel 0 (by omega) (by unfold gFuel; omega) (Or.inl ⟨rfl, fun l' i' a1 a2 a3 => by omega⟩)
  refine ⟨it, ?_, x1⟩
  by_cases hk : 1 ≤ k.toInt ∧ k.toInt ≤ n
  · obtain ⟨j, hj, hkj⟩ : ∃ j : Nat, k = nI (j + 1) ∧ k.toInt = j + 1 := ⟨(k.toInt - 1).toNat, Int32.toInt_inj.mp (by rw [nI_toInt (by omega)]; omega), by omega⟩
    obtain ⟨l, i, hl, hi, e1, e2⟩ := gv_mem hn hs hF hk.1 hk.2
    have hat : f_SortedRow_at S Ic Jc a (k - 1) = some (Ic w j) := by
      rw [hj, ev_s1 (by omega), Nat.add_sub_cancel, F_at_in hr (by omega)]
    rw [hat]
    congr 1
    rcases x2 with ⟨-, h0⟩ | ⟨l', i', h1, h2, h3, h4⟩
    · exact absurd (e2 _ rfl) (h0 l i hl hi (Or.inl hl))
    · have := (gv_same hn hs hF h4).2.2
      rw [show (k.toInt - 1).toNat = j by omega] at this
      exact Int32.toInt_inj.mp this
  · have hout : k - 1 < 0 ∨ nI n ≤ k - 1 := by
      by_cases e : k - 1 < 0
      · exact Or.inl e
      · refine Or.inr ?_
        have a1 := Int32.not_lt.mp e
        have a2 := Int32.le_iff_toInt_le.mp a1
        have a3 := Int32.le_iff_toInt_le (x := nI n) (y := k - 1)
        rw [nI_toInt (by omega)] at a3
        rw [a3]
        rw [show (0 : Int32).toInt = 0 from rfl, Int32.toInt_sub, show (1 : Int32).toInt = 1 from rfl] at a2
        rw [Int32.toInt_sub, show (1 : Int32).toInt = 1 from rfl]
        have b1 := k.le_toInt
        have b2 := k.toInt_lt
        by_cases e3 : k.toInt = -2147483648
        · rw [e3]; show (n : Int) ≤ 2147483647; omega
        · rw [Int.bmod_eq_of_le (by omega) (by omega)] at a2 ⊢
          omega
    rw [F_at_out hr hout]
    rcases x2 with ⟨h0, -⟩ | ⟨l', i', h1, h2, h3, h4⟩
    · rw [h0]
    · have := gv_same hn hs hF h4
      exact absurd ⟨this.1, this.2.1⟩ hk
end GIVEN
