-- DRAFT. Rows of numbers as functions of a place: sums over the first n, sorted rows, what lies below a bound, the k-th least.
def pu_tot (φ : Int → Int) (f : Nat → Int) : Nat → Int
  | 0 => 0
  | n + 1 => pu_tot φ f n + φ (f n)
theorem pu_tot_congr {φ : Int → Int} {f g : Nat → Int} : ∀ {n : Nat}, (∀ i, i < n → f i = g i) → pu_tot φ f n = pu_tot φ g n
  | 0, _ => rfl
  | n + 1, h => by
    show pu_tot φ f n + φ (f n) = pu_tot φ g n + φ (g n)
    rw [pu_tot_congr (fun i hi => h i (by omega)), h n (by omega)]
theorem pu_tot_phi {φ ψ : Int → Int} {f : Nat → Int} : ∀ {n : Nat}, (∀ i, i < n → φ (f i) = ψ (f i)) → pu_tot φ f n = pu_tot ψ f n
  | 0, _ => rfl
  | n + 1, h => by
    show pu_tot φ f n + φ (f n) = pu_tot ψ f n + ψ (f n)
    rw [pu_tot_phi (fun i hi => h i (by omega)), h n (by omega)]
theorem pu_tot_add {φ ψ : Int → Int} {f : Nat → Int} : ∀ (n : Nat), pu_tot (fun x => φ x + ψ x) f n = pu_tot φ f n + pu_tot ψ f n
  | 0 => rfl
  | n + 1 => by
    show pu_tot (fun x => φ x + ψ x) f n + (φ (f n) + ψ (f n)) = (pu_tot φ f n + φ (f n)) + (pu_tot ψ f n + ψ (f n))
    rw [pu_tot_add n]; omega
theorem pu_tot_ins {φ : Int → Int} {f g : Nat → Int} {p : Nat} {v : Int} : ∀ {n : Nat}, p ≤ n → (∀ i, i < p → g i = f i) → g p = v → (∀ i, p ≤ i → i < n → g (i + 1) = f i) → pu_tot φ g (n + 1) = pu_tot φ f n + φ v
  | 0, hp, _, hv, _ => by
    have : p = 0 := by omega
    subst this
    show (0 : Int) + φ (g 0) = 0 + φ v
    rw [hv]
  | n + 1, hp, h1, hv, h2 => by
    show pu_tot φ g (n + 1) + φ (g (n + 1)) = (pu_tot φ f n + φ (f n)) + φ v
    by_cases hpn : p = n + 1
    · subst hpn
      rw [hv]
      rw [pu_tot_congr (f := g) (g := f) (n := n + 1) (fun i hi => h1 i hi)]
      rfl
    · rw [pu_tot_ins (n := n) (by omega) h1 hv (fun i a b => h2 i a (by omega)), h2 n (by omega) (by omega)]
      omega
theorem pu_tot_nonneg {φ : Int → Int} {f : Nat → Int} (h : ∀ x, 0 ≤ φ x) : ∀ n, 0 ≤ pu_tot φ f n
  | 0 => Int.le_refl 0
  | n + 1 => by
    have h1 := pu_tot_nonneg (f := f) h n
    have h2 := h (f n)
    show 0 ≤ pu_tot φ f n + φ (f n)
    omega
theorem pu_tot_mono {φ ψ : Int → Int} {f : Nat → Int} (h : ∀ x, φ x ≤ ψ x) : ∀ n, pu_tot φ f n ≤ pu_tot ψ f n
  | 0 => Int.le_refl 0
  | n + 1 => by
    have h1 := pu_tot_mono (f := f) h n
    have h2 := h (f n)
    show pu_tot φ f n + φ (f n) ≤ pu_tot ψ f n + ψ (f n)
    omega
theorem pu_tot_le {φ : Int → Int} {f : Nat → Int} (h : ∀ x, φ x ≤ 1) : ∀ n : Nat, pu_tot φ f n ≤ n
  | 0 => Int.le_refl 0
  | n + 1 => by
    have h1 := pu_tot_le (f := f) h n
    have h2 := h (f n)
    show pu_tot φ f n + φ (f n) ≤ ((n + 1 : Nat) : Int)
    omega
/-- how many of the first n lie within a .. b -/
def pu_in (a b x : Int) : Int := if a ≤ x ∧ x ≤ b then 1 else 0
def pu_cnt (a b : Int) (f : Nat → Int) (n : Nat) : Int := pu_tot (pu_in a b) f n
def pu_lt (b x : Int) : Int := if x < b then 1 else 0
def pu_low (b : Int) (f : Nat → Int) (n : Nat) : Int := pu_tot (pu_lt b) f n
theorem pu_in_split (a b x : Int) (h : a ≤ b + 1) : pu_lt (b + 1) x = pu_lt a x + pu_in a b x := by
  unfold pu_lt pu_in
  split <;> split <;> split <;> omega
theorem pu_cnt_low (a b : Int) (h : a ≤ b + 1) (f : Nat → Int) (n : Nat) : pu_low (b + 1) f n = pu_low a f n + pu_cnt a b f n := by
  unfold pu_low pu_cnt
  rw [← pu_tot_add]
  exact pu_tot_phi (fun i _ => pu_in_split a b (f i) h)
theorem pu_cnt_none (a b : Int) (h : b < a) (f : Nat → Int) : ∀ n, pu_cnt a b f n = 0
  | 0 => rfl
  | n + 1 => by
    show pu_cnt a b f n + pu_in a b (f n) = 0
    rw [pu_cnt_none a b h f n]
    unfold pu_in
    rw [if_neg (by omega)]; rfl
/-- the same numbers in another order -/
def pu_same (f g : Nat → Int) (n : Nat) : Prop := ∀ φ : Int → Int, pu_tot φ f n = pu_tot φ g n
theorem pu_same.cnt {f g : Nat → Int} {n : Nat} (h : pu_same f g n) (a b : Int) : pu_cnt a b f n = pu_cnt a b g n := h _
theorem pu_same.low {f g : Nat → Int} {n : Nat} (h : pu_same f g n) (b : Int) : pu_low b f n = pu_low b g n := h _
theorem pu_cnt_pos {a b : Int} {f : Nat → Int} : ∀ {n : Nat}, 0 < pu_cnt a b f n → ∃ i, i < n ∧ a ≤ f i ∧ f i ≤ b
  | 0, h => by exact absurd h (by show ¬ (0 : Int) < 0; omega)
  | n + 1, h => by
    by_cases hx : a ≤ f n ∧ f n ≤ b
    · exact ⟨n, by omega, hx⟩
    · have h1 : pu_cnt a b f (n + 1) = pu_cnt a b f n := by
        show pu_cnt a b f n + pu_in a b (f n) = _
        unfold pu_in; rw [if_neg hx]; omega
      rw [h1] at h
      obtain ⟨i, hi, hq⟩ := pu_cnt_pos h
      exact ⟨i, by omega, hq⟩
theorem pu_cnt_at {a b : Int} {f : Nat → Int} : ∀ {n i : Nat}, i < n → a ≤ f i → f i ≤ b → 0 < pu_cnt a b f n
  | 0, i, h, _, _ => absurd h (Nat.not_lt_zero i)
  | n + 1, i, h, h1, h2 => by
    show 0 < pu_cnt a b f n + pu_in a b (f n)
    have hn : 0 ≤ pu_cnt a b f n := pu_tot_nonneg (fun x => by unfold pu_in; split <;> omega) n
    have hi0 : 0 ≤ pu_in a b (f n) := by unfold pu_in; split <;> omega
    by_cases hi : i = n
    · subst hi
      have : pu_in a b (f i) = 1 := by unfold pu_in; rw [if_pos ⟨h1, h2⟩]
      omega
    · have := pu_cnt_at (a := a) (b := b) (f := f) (n := n) (i := i) (by omega) h1 h2
      omega
theorem pu_same.mem {f g : Nat → Int} {n i : Nat} (h : pu_same f g n) (hi : i < n) : ∃ j, j < n ∧ g j = f i := by
  have h1 := pu_cnt_at (a := f i) (b := f i) hi (Int.le_refl _) (Int.le_refl _)
  rw [h.cnt] at h1
  obtain ⟨j, hj, ha, hb⟩ := pu_cnt_pos h1
  exact ⟨j, hj, by omega⟩
/-- sorted rows -/
def pu_srt (f : Nat → Int) (n : Nat) : Prop := ∀ i j, i ≤ j → j < n → f i ≤ f j
theorem pu_low_of {f : Nat → Int} {b : Int} : ∀ {n p : Nat}, p ≤ n → (∀ i, i < p → f i < b) → (∀ i, p ≤ i → i < n → b ≤ f i) → pu_low b f n = p
  | 0, p, hp, _, _ => by
    have : p = 0 := by omega
    subst this; rfl
  | n + 1, p, hp, h1, h2 => by
    show pu_low b f n + pu_lt b (f n) = p
    by_cases hpn : p = n + 1
    · subst hpn
      rw [pu_low_of (n := n) (p := n) (Nat.le_refl n) (fun i hi => h1 i (by omega)) (fun i a c => by omega)]
      have := h1 n (by omega)
      unfold pu_lt; rw [if_pos this]; omega
    · rw [pu_low_of (n := n) (p := p) (by omega) h1 (fun i a c => h2 i a (by omega))]
      have := h2 n (by omega) (by omega)
      unfold pu_lt; rw [if_neg (by omega)]; omega
theorem pu_low_ex {f : Nat → Int} {b : Int} : ∀ {n : Nat}, pu_srt f n → ∃ p : Nat, p ≤ n ∧ (∀ i, i < p → f i < b) ∧ (∀ i, p ≤ i → i < n → b ≤ f i) ∧ pu_low b f n = p
  | 0, _ => ⟨0, Nat.le_refl 0, fun i h => absurd h (Nat.not_lt_zero i), fun i _ h => absurd h (Nat.not_lt_zero i), rfl⟩
  | n + 1, hs => by
    obtain ⟨p, hp, h1, h2, h3⟩ := pu_low_ex (n := n) (b := b) (fun i j a c => hs i j a (by omega))
    by_cases hx : f n < b
    · have hall : ∀ i, i < n + 1 → f i < b := fun i hi => by
        have := hs i n (by omega) (by omega)
        omega
      exact ⟨n + 1, Nat.le_refl _, hall, fun i a c => by omega, pu_low_of (Nat.le_refl _) hall (fun i a c => by omega)⟩
    · have hup : ∀ i, p ≤ i → i < n + 1 → b ≤ f i := fun i a c => by
        by_cases hi : i = n
        · subst hi; omega
        · exact h2 i a (by omega)
      exact ⟨p, by omega, h1, hup, pu_low_of (by omega) h1 hup⟩
theorem pu_low_iff {f : Nat → Int} {b : Int} {n i : Nat} (hs : pu_srt f n) (hi : i < n) : f i < b ↔ (i : Int) < pu_low b f n := by
  obtain ⟨p, hp, h1, h2, h3⟩ := pu_low_ex (b := b) hs
  rw [h3]
  constructor
  · intro h
    by_cases hip : i < p
    · omega
    · have := h2 i (by omega) hi
      omega
  · intro h
    exact h1 i (by omega)
theorem pu_low_nn (b : Int) (f : Nat → Int) (n : Nat) : 0 ≤ pu_low b f n ∧ pu_low b f n ≤ n := ⟨pu_tot_nonneg (fun x => by unfold pu_lt; split <;> omega) n, pu_tot_le (fun x => by unfold pu_lt; split <;> omega) n⟩
theorem pu_cnt_nn (a b : Int) (f : Nat → Int) (n : Nat) : 0 ≤ pu_cnt a b f n ∧ pu_cnt a b f n ≤ n := ⟨pu_tot_nonneg (fun x => by unfold pu_in; split <;> omega) n, pu_tot_le (fun x => by unfold pu_in; split <;> omega) n⟩
/-- the number v put in at the place p of a sorted row stays sorted -/
theorem pu_srt_ins {f g : Nat → Int} {n p : Nat} {v : Int} (hs : pu_srt f n) (hp : p ≤ n) (h1 : ∀ i, i < p → f i < v) (h2 : ∀ i, p ≤ i → i < n → v ≤ f i) (e1 : ∀ i, i < p → g i = f i) (e2 : g p = v) (e3 : ∀ i, p ≤ i → i < n → g (i + 1) = f i) : pu_srt g (n + 1) := by
  have key : ∀ i, i < n + 1 → (i < p ∧ g i = f i) ∨ (i = p ∧ g i = v) ∨ (p < i ∧ g i = f (i - 1)) := fun i hi => by
    by_cases a : i < p
    · exact Or.inl ⟨a, e1 i a⟩
    · by_cases c : i = p
      · exact Or.inr (Or.inl ⟨c, by rw [c]; exact e2⟩)
      · refine Or.inr (Or.inr ⟨by omega, ?_⟩)
        have := e3 (i - 1) (by omega) (by omega)
        rwa [show i - 1 + 1 = i by omega] at this
  intro i j hij hj
  rcases key i (by omega) with ⟨a, ea⟩ | ⟨a, ea⟩ | ⟨a, ea⟩ <;> rcases key j hj with ⟨c, ec⟩ | ⟨c, ec⟩ | ⟨c, ec⟩ <;> rw [ea, ec]
  · exact hs i j hij (by omega)
  · exact Int.le_of_lt (h1 i a)
  · exact hs i (j - 1) (by omega) (by omega)
  · omega
  · exact Int.le_refl v
  · exact h2 (j - 1) (by omega) (by omega)
  · omega
  · omega
  · exact hs (i - 1) (j - 1) (by omega) (by omega)
/-- the k-th least of those within a .. b of a sorted row: the place below a, and k - 1 further -/
theorem pu_kth {f : Nat → Int} {n k p : Nat} {a b : Int} (hs : pu_srt f n) (hab : a ≤ b + 1) (hp : pu_low a f n = p) (hk1 : 1 ≤ k) (hk2 : (k : Int) ≤ pu_cnt a b f n) : p + k - 1 < n ∧ a ≤ f (p + k - 1) ∧ f (p + k - 1) ≤ b ∧ pu_cnt a (f (p + k - 1) - 1) f n < k ∧ (k : Int) ≤ pu_cnt a (f (p + k - 1)) f n := by
  have hsp := pu_cnt_low a b hab f n
  have hnn := pu_low_nn (b + 1) f n
  have hi : p + k - 1 < n := by omega
  have hlo : a ≤ f (p + k - 1) := by
    have := pu_low_iff (b := a) hs hi
    by_cases h : f (p + k - 1) < a
    · have := this.mp h
      omega
    · omega
  have hhi : f (p + k - 1) ≤ b := by
    have := (pu_low_iff (b := b + 1) hs hi).mpr (by omega)
    omega
  refine ⟨hi, hlo, hhi, ?_, ?_⟩
  · have h1 := pu_cnt_low a (f (p + k - 1) - 1) (by omega) f n
    have h2 := pu_low_iff (b := f (p + k - 1) - 1 + 1) hs hi
    have h3 : ¬ f (p + k - 1) < f (p + k - 1) - 1 + 1 := by omega
    have h4 := mt h2.mpr h3
    omega
  · have h1 := pu_cnt_low a (f (p + k - 1)) (by omega) f n
    have h2 := (pu_low_iff (b := f (p + k - 1) + 1) hs hi).mp (by omega)
    omega
/-- there is but one k-th least -/
theorem pu_kth_one {f : Nat → Int} {n k : Nat} {a x y : Int} (hx1 : pu_cnt a (x - 1) f n < k) (hx2 : (k : Int) ≤ pu_cnt a x f n) (hy1 : pu_cnt a (y - 1) f n < k) (hy2 : (k : Int) ≤ pu_cnt a y f n) : x = y := by
  have mono : ∀ u v : Int, u ≤ v → pu_cnt a u f n ≤ pu_cnt a v f n := fun u v h => pu_tot_mono (fun z => by unfold pu_in; split <;> split <;> omega) n
  by_cases h1 : x < y
  · have := mono x (y - 1) (by omega)
    omega
  · by_cases h2 : y < x
    · have := mono y (x - 1) (by omega)
      omega
    · omega
/-- the sum of those within a .. b, and by places in a sorted row -/
def pu_iv (a b x : Int) : Int := if a ≤ x ∧ x ≤ b then x else 0
theorem pu_sum_srt {f : Nat → Int} {a b : Int} : ∀ {n : Nat} {p q : Nat}, p ≤ q → q ≤ n → (∀ i, i < p → f i < a) → (∀ i, p ≤ i → i < q → a ≤ f i ∧ f i ≤ b) → (∀ i, q ≤ i → i < n → b < f i) → pu_tot (pu_iv a b) f n = pu_tot id (fun i => f (p + i)) (q - p)
  | 0, p, q, h1, h2, _, _, _ => by
    have hp : p = 0 := by omega
    have hq : q = 0 := by omega
    subst hp; subst hq; rfl
  | n + 1, p, q, hpq, hqn, h1, h2, h3 => by
    show pu_tot (pu_iv a b) f n + pu_iv a b (f n) = _
    by_cases hq : q = n + 1
    · subst hq
      by_cases hp : p = n + 1
      · subst hp
        have h4 : pu_tot (pu_iv a b) f n = pu_tot id (fun i => f (n + i)) (n - n) := pu_sum_srt (n := n) (p := n) (q := n) (Nat.le_refl _) (Nat.le_refl _) (fun i hi => h1 i (by omega)) (fun i a c => by omega) (fun i a c => by omega)
        rw [h4, Nat.sub_self, Nat.sub_self]
        have := h1 n (by omega)
        unfold pu_iv; rw [if_neg (by omega)]; rfl
      · rw [pu_sum_srt (n := n) (p := p) (q := n) (by omega) (Nat.le_refl _) h1 (fun i a c => h2 i a (by omega)) (fun i a c => by omega)]
        rw [show n + 1 - p = (n - p) + 1 by omega]
        show _ = pu_tot id (fun i => f (p + i)) (n - p) + f (p + (n - p))
        rw [show p + (n - p) = n by omega]
        have := h2 n (by omega) (by omega)
        unfold pu_iv; rw [if_pos this]
    · rw [pu_sum_srt (n := n) (p := p) (q := q) hpq (by omega) h1 h2 (fun i a c => h3 i a (by omega))]
      have := h3 n (by omega) (by omega)
      unfold pu_iv; rw [if_neg (by omega)]; omega
-- the k-th least of a whole sorted row
theorem pu_kth_all {g : Nat → Int} {n k : Nat} (hs : pu_srt g n) (h1 : 1 ≤ k) (h2 : k ≤ n) : pu_low (g (k - 1)) g n < k ∧ (k : Int) ≤ pu_low (g (k - 1) + 1) g n := by
  have hi : k - 1 < n := by omega
  constructor
  · have h := pu_low_iff (b := g (k - 1)) hs hi
    have h3 : ¬ g (k - 1) < g (k - 1) := by omega
    have h4 := mt h.mpr h3
    omega
  · have h := (pu_low_iff (b := g (k - 1) + 1) hs hi).mp (by omega)
    omega
theorem pu_low_mono {f : Nat → Int} {n : Nat} {a b : Int} (h : a ≤ b) : pu_low a f n ≤ pu_low b f n := pu_tot_mono (fun z => by unfold pu_lt; split <;> split <;> omega) n
-- sums over rows: F l has C l numbers, l below m
def pu_rows (φ : Int → Int) (F : Nat → Nat → Int) (C : Nat → Nat) : Nat → Int
  | 0 => 0
  | m + 1 => pu_rows φ F C m + pu_tot φ (F m) (C m)
theorem pu_rows_congr {φ : Int → Int} {F G : Nat → Nat → Int} {C B : Nat → Nat} : ∀ {m : Nat}, (∀ l, l < m → C l = B l ∧ ∀ i, i < C l → F l i = G l i) → pu_rows φ F C m = pu_rows φ G B m
  | 0, _ => rfl
  | m + 1, h => by
    show pu_rows φ F C m + pu_tot φ (F m) (C m) = pu_rows φ G B m + pu_tot φ (G m) (B m)
    rw [pu_rows_congr (fun l hl => h l (by omega)), ← (h m (by omega)).1, pu_tot_congr (h m (by omega)).2]
theorem pu_rows_nn {φ : Int → Int} {F : Nat → Nat → Int} {C : Nat → Nat} (h : ∀ x, 0 ≤ φ x) : ∀ m, 0 ≤ pu_rows φ F C m
  | 0 => Int.le_refl 0
  | m + 1 => by
    have h1 := pu_rows_nn (F := F) (C := C) h m
    have h2 := pu_tot_nonneg (f := F m) h (C m)
    show 0 ≤ pu_rows φ F C m + pu_tot φ (F m) (C m)
    omega
theorem pu_rows_pos {a b : Int} {F : Nat → Nat → Int} {C : Nat → Nat} : ∀ {m : Nat}, 0 < pu_rows (pu_in a b) F C m → ∃ l, l < m ∧ ∃ i, i < C l ∧ a ≤ F l i ∧ F l i ≤ b
  | 0, h => by exact absurd h (by show ¬ (0 : Int) < 0; omega)
  | m + 1, h => by
    by_cases hx : 0 < pu_cnt a b (F m) (C m)
    · obtain ⟨i, hi, hq⟩ := pu_cnt_pos hx
      exact ⟨m, by omega, i, hi, hq⟩
    · have h1 : 0 < pu_rows (pu_in a b) F C m := by
        have h2 : 0 < pu_rows (pu_in a b) F C m + pu_cnt a b (F m) (C m) := h
        omega
      obtain ⟨l, hl, hq⟩ := pu_rows_pos h1
      exact ⟨l, by omega, hq⟩
-- the pivot: t0 l readings of logger l, its middle t1 l; class (pv_a) and reference (pv_b) choose alike
def pv_c (t0 t1 : Nat → Int) (x : Int) : Nat → Int
  | 0 => 0
  | n + 1 => pv_c t0 t1 x n + (if t1 n ≤ x then t0 n else 0)
def pv_a (t0 t1 : Nat → Int) (N : Nat) (o M : Int) : Nat → Int
  | 0 => M
  | i + 1 => if t1 i < pv_a t0 t1 N o M i ∧ o ≤ 2 * pv_c t0 t1 (t1 i) N then t1 i else pv_a t0 t1 N o M i
def pv_b (t0 t1 : Nat → Int) (N : Nat) (o : Int) : Nat → Option Int
  | 0 => none
  | i + 1 => match pv_b t0 t1 N o i with
    | none => if 0 < t0 i ∧ o ≤ 2 * pv_c t0 t1 (t1 i) N then some (t1 i) else none
    | some b => if (0 < t0 i ∧ o ≤ 2 * pv_c t0 t1 (t1 i) N) ∧ t1 i < b then some (t1 i) else some b
section PV
variable {t0 t1 : Nat → Int} {N : Nat} {o M : Int}
theorem pv_a_spec : ∀ i, (∀ j, j < i → o ≤ 2 * pv_c t0 t1 (t1 j) N → pv_a t0 t1 N o M i ≤ t1 j) ∧ (pv_a t0 t1 N o M i = M ∨ ∃ j, j < i ∧ o ≤ 2 * pv_c t0 t1 (t1 j) N ∧ t1 j = pv_a t0 t1 N o M i) ∧ pv_a t0 t1 N o M i ≤ M
  | 0 => ⟨fun j h => absurd h (Nat.not_lt_zero j), Or.inl rfl, Int.le_refl M⟩
  | i + 1 => by
    obtain ⟨h1, h2, h3⟩ := pv_a_spec i
    by_cases hc : t1 i < pv_a t0 t1 N o M i ∧ o ≤ 2 * pv_c t0 t1 (t1 i) N
    · have e : pv_a t0 t1 N o M (i + 1) = t1 i := if_pos hc
      rw [e]
      refine ⟨fun j hj hg => ?_, Or.inr ⟨i, by omega, hc.2, rfl⟩, by omega⟩
      by_cases hji : j = i
      · subst hji; exact Int.le_refl _
      · have := h1 j (by omega) hg
        omega
    · have e : pv_a t0 t1 N o M (i + 1) = pv_a t0 t1 N o M i := if_neg hc
      rw [e]
      refine ⟨fun j hj hg => ?_, ?_, h3⟩
      · by_cases hji : j = i
        · subst hji
          by_cases hl : t1 j < pv_a t0 t1 N o M j
          · exact absurd ⟨hl, hg⟩ hc
          · omega
        · exact h1 j (by omega) hg
      · rcases h2 with h2 | ⟨j, hj, hq⟩
        · exact Or.inl h2
        · exact Or.inr ⟨j, by omega, hq⟩
theorem pv_b_spec : ∀ i, (∀ j, j < i → 0 < t0 j → o ≤ 2 * pv_c t0 t1 (t1 j) N → ∃ b, pv_b t0 t1 N o i = some b ∧ b ≤ t1 j) ∧ (∀ b, pv_b t0 t1 N o i = some b → ∃ j, j < i ∧ 0 < t0 j ∧ o ≤ 2 * pv_c t0 t1 (t1 j) N ∧ t1 j = b)
  | 0 => ⟨fun j h => absurd h (Nat.not_lt_zero j), fun b h => by cases h⟩
  | i + 1 => by
    obtain ⟨h1, h2⟩ := pv_b_spec i
    have hd : pv_b t0 t1 N o (i + 1) = match pv_b t0 t1 N o i with
      | none => if 0 < t0 i ∧ o ≤ 2 * pv_c t0 t1 (t1 i) N then some (t1 i) else none
      | some b => if (0 < t0 i ∧ o ≤ 2 * pv_c t0 t1 (t1 i) N) ∧ t1 i < b then some (t1 i) else some b := rfl
    rw [hd]
    cases hb : pv_b t0 t1 N o i with
    | none =>
      have hno : ∀ j, j < i → 0 < t0 j → o ≤ 2 * pv_c t0 t1 (t1 j) N → False := fun j hj a c => by
        obtain ⟨b, e, -⟩ := h1 j hj a c
        rw [hb] at e; cases e
      by_cases hg : 0 < t0 i ∧ o ≤ 2 * pv_c t0 t1 (t1 i) N
      · simp only [if_pos hg]
        refine ⟨fun j hj a c => ⟨t1 i, rfl, ?_⟩, fun b e => ?_⟩
        · by_cases hji : j = i
          · subst hji; exact Int.le_refl _
          · exact (hno j (by omega) a c).elim
        · cases e
          exact ⟨i, by omega, hg.1, hg.2, rfl⟩
      · simp only [if_neg hg]
        refine ⟨fun j hj a c => ?_, fun b e => by cases e⟩
        by_cases hji : j = i
        · subst hji; exact absurd ⟨a, c⟩ hg
        · exact (hno j (by omega) a c).elim
    | some b0 =>
      by_cases hg : (0 < t0 i ∧ o ≤ 2 * pv_c t0 t1 (t1 i) N) ∧ t1 i < b0
      · simp only [if_pos hg]
        refine ⟨fun j hj a c => ⟨t1 i, rfl, ?_⟩, fun b e => ?_⟩
        · by_cases hji : j = i
          · subst hji; exact Int.le_refl _
          · obtain ⟨b, e, hle⟩ := h1 j (by omega) a c
            rw [hb] at e; cases e
            omega
        · cases e
          exact ⟨i, by omega, hg.1.1, hg.1.2, rfl⟩
      · simp only [if_neg hg]
        refine ⟨fun j hj a c => ⟨b0, rfl, ?_⟩, fun b e => ?_⟩
        · by_cases hji : j = i
          · subst hji
            by_cases hl : t1 j < b0
            · exact absurd ⟨⟨a, c⟩, hl⟩ hg
            · omega
          · obtain ⟨b, e, hle⟩ := h1 j (by omega) a c
            rw [hb] at e; cases e
            exact hle
        · cases e
          obtain ⟨j, hj, hq⟩ := h2 b0 hb
          exact ⟨j, by omega, hq⟩
theorem pv_c_nn (h0 : ∀ l, l < N → 0 ≤ t0 l) {x : Int} : ∀ n, n ≤ N → 0 ≤ pv_c t0 t1 x n
  | 0, _ => Int.le_refl 0
  | n + 1, h => by
    have h1 := pv_c_nn h0 (x := x) n (by omega)
    have h2 := h0 n (by omega)
    show 0 ≤ pv_c t0 t1 x n + (if t1 n ≤ x then t0 n else 0)
    split <;> omega
/-- some logger with readings lies at or below x, and the greatest such one y counts as much as x -/
theorem pv_top (h0 : ∀ l, l < N → 0 ≤ t0 l) {x : Int} : ∀ n, n ≤ N → 0 < pv_c t0 t1 x n → ∃ k, k < n ∧ 0 < t0 k ∧ t1 k ≤ x ∧ ∀ j, j < n → 0 < t0 j → t1 j ≤ x → t1 j ≤ t1 k
  | 0, _, h => by exact absurd h (by show ¬ (0 : Int) < 0; omega)
  | n + 1, hn, h => by
    have h : 0 < pv_c t0 t1 x n + (if t1 n ≤ x then t0 n else 0) := h
    by_cases hs : 0 < pv_c t0 t1 x n
    · obtain ⟨k, hk, a, b, hm⟩ := pv_top h0 n (by omega) hs
      by_cases hg : 0 < t0 n ∧ t1 n ≤ x ∧ t1 k < t1 n
      · refine ⟨n, by omega, hg.1, hg.2.1, fun j hj c d => ?_⟩
        by_cases hjn : j = n
        · subst hjn; exact Int.le_refl _
        · have := hm j (by omega) c d
          omega
      · refine ⟨k, by omega, a, b, fun j hj c d => ?_⟩
        by_cases hjn : j = n
        · subst hjn
          by_cases hl : t1 k < t1 j
          · exact absurd ⟨c, d, hl⟩ hg
          · omega
        · exact hm j (by omega) c d
    · have hx : t1 n ≤ x ∧ 0 < t0 n := by
        by_cases hx : t1 n ≤ x
        · rw [if_pos hx] at h
          exact ⟨hx, by omega⟩
        · rw [if_neg hx] at h
          omega
      refine ⟨n, by omega, hx.2, hx.1, fun j hj c d => ?_⟩
      by_cases hjn : j = n
      · subst hjn; exact Int.le_refl _
      · have hpos : ∀ m, m ≤ n → j < m → 0 < pv_c t0 t1 x m := fun m => by
          induction m with
          | zero => intro _ hj; exact absurd hj (Nat.not_lt_zero j)
          | succ m ih =>
            intro hm hj
            have hnn := pv_c_nn (t1 := t1) h0 (x := x) m (by omega)
            show 0 < pv_c t0 t1 x m + (if t1 m ≤ x then t0 m else 0)
            by_cases hjm : j = m
            · subst hjm
              rw [if_pos d]; omega
            · have h1 := ih (by omega) (by omega)
              have h2 := h0 m (by omega)
              split <;> omega
        exact absurd (hpos n (Nat.le_refl n) (by omega)) hs
theorem pv_c_eq (h0 : ∀ l, l < N → 0 ≤ t0 l) {x y : Int} (hyx : y ≤ x) : ∀ n, n ≤ N → (∀ j, j < n → 0 < t0 j → t1 j ≤ x → t1 j ≤ y) → pv_c t0 t1 x n = pv_c t0 t1 y n
  | 0, _, _ => rfl
  | n + 1, hn, h => by
    show pv_c t0 t1 x n + (if t1 n ≤ x then t0 n else 0) = pv_c t0 t1 y n + (if t1 n ≤ y then t0 n else 0)
    rw [pv_c_eq h0 hyx n (by omega) (fun j hj => h j (by omega))]
    have h1 := h n (by omega)
    have h2 := h0 n (by omega)
    by_cases hx : t1 n ≤ x
    · by_cases hp : 0 < t0 n
      · rw [if_pos hx, if_pos (h1 hp hx)]
      · have hz : t0 n = 0 := by omega
        rw [hz]; split <;> split <;> rfl
    · rw [if_neg hx, if_neg (by omega)]
theorem pv_same (h0 : ∀ l, l < N → 0 ≤ t0 l) (ho : 0 < o) (hM : ∀ l, l < N → t1 l ≤ M) (hall : pv_c t0 t1 M N = o) : pv_b t0 t1 N o N = some (pv_a t0 t1 N o M N) := by
  obtain ⟨a1, a2, a3⟩ := pv_a_spec (t0 := t0) (t1 := t1) (N := N) (o := o) (M := M) N
  obtain ⟨b1, b2⟩ := pv_b_spec (t0 := t0) (t1 := t1) (N := N) (o := o) N
  -- below every x that reaches half there is a logger with readings that reaches half
  have key : ∀ x, o ≤ 2 * pv_c t0 t1 x N → ∃ k, k < N ∧ 0 < t0 k ∧ t1 k ≤ x ∧ o ≤ 2 * pv_c t0 t1 (t1 k) N := fun x hx => by
    obtain ⟨k, hk, p, q, hm⟩ := pv_top (t1 := t1) h0 (x := x) N (Nat.le_refl N) (by omega)
    exact ⟨k, hk, p, q, by rw [← pv_c_eq h0 q N (Nat.le_refl N) hm]; exact hx⟩
  obtain ⟨k0, hk0, p0, q0, r0⟩ := key M (by omega)
  obtain ⟨b, hb, hbk⟩ := b1 k0 hk0 p0 r0
  obtain ⟨j, hj, pj, rj, ej⟩ := b2 b hb
  have h1 : pv_a t0 t1 N o M N ≤ b := by
    have := a1 j hj rj
    omega
  have h2 : b ≤ pv_a t0 t1 N o M N := by
    rcases a2 with e | ⟨i, hi, ri, ei⟩
    · rw [e]
      have := hM j hj
      omega
    · obtain ⟨k, hk, pk, qk, rk⟩ := key (t1 i) ri
      obtain ⟨b', hb', hbk'⟩ := b1 k hk pk rk
      rw [hb] at hb'; cases hb'
      omega
  rw [hb, show b = pv_a t0 t1 N o M N by omega]
end PV
