-- What holds of the reference alone
/-- how many of logger l's frozen readings lie within a .. b -/
def lcn (M : gMI) (l : Nat) (z : Option Nat) (a b : Int) : Int := pu_cnt a b (rdM M l) (z.getD 0)
/-- an answer of logger f in the step of now: its first two numbers x, y, their amount am -/
def VAn (M : gMI) (q f : Nat) (fz : Nat → Option Nat) (x y am : Int32) : Prop := fz f ≠ none ∧ (M 242 q = 3 → x.toInt = lcn M f (fz f) (M 244 q).toInt (M 245 q).toInt ∧ (x = 0 → y = 0)) ∧ (M 242 q = 7 → am.toInt = lcn M f (fz f) (M 244 q).toInt (M 245 q).toInt)
/-- a letter of the step of now -/
def VCu (M : gMI) (i q : Nat) (fz : Nat → Option Nat) : Prop := (M 259 (7 * i) = M 242 q ∧ ((M 242 q = 3 ∨ M 242 q = 7) → M 260 (64 * i) = M 244 q ∧ M 260 (64 * i + 1) = M 245 q)) ∨ (M 259 (7 * i) = M 242 q + 1 ∧ ∀ f, f < 8 → M 259 (7 * i + 4) = nI f → VAn M q f fz (M 260 (64 * i)) (M 260 (64 * i + 1)) (M 259 (7 * i + 6)))
/-- a letter of question q, whose turn is tq and step sq -/
def VLq (M : gMI) (i q : Nat) (fz : Nat → Option Nat) (tq sq : Nat) : Prop := ∃ tt ss : Nat, tt ≤ tq ∧ ss < 2 ^ 30 ∧ M 259 (7 * i + 2) = nI tt ∧ M 259 (7 * i + 3) = nI ss ∧ (tt = tq → ss ≤ sq) ∧ (M 259 (7 * i) = 7 → ∀ t, t < 8 → M 259 (7 * i + 5) = nI t → fz t ≠ none ∧ lcn M t (fz t) (M 260 (64 * i)).toInt (M 260 (64 * i + 1)).toInt ≤ 64) ∧ (tt = tq → ss = sq → M 238 q = 0 → VCu M i q fz)
/-- any letter: its kind, sender, receiver, question's number -/
def VLt (M : gMI) (i N : Nat) : Prop := ∃ ka f t u : Nat, 1 ≤ ka ∧ ka ≤ 12 ∧ f < 8 ∧ t < 8 ∧ u ≤ N ∧ M 259 (7 * i) = nI ka ∧ M 259 (7 * i + 4) = nI f ∧ M 259 (7 * i + 5) = nI t ∧ M 259 (7 * i + 1) = nI u
/-- the counts of all loggers within a .. b -/
def lcs (M : gMI) (fz : Nat → Option Nat) (a b : Int) : Nat → Int
  | 0 => 0
  | l + 1 => lcs M fz a b l + lcn M l (fz l) a b
/-- what may be asked for, by the question's kind -/
def VKd (kd as n : Int32) : Prop := (as = 9 → n ≠ 0 ∧ (kd = 1 ∨ kd = 3)) ∧ (as = 3 ∨ as = 5 ∨ as = 7 → kd = 0 ∨ kd = 2 ∨ kd = 4) ∧ (as = 11 → kd = 2 ∨ kd = 4)
/-- a question that is there -/
def VQq (M : gMI) (q : Nat) (fz : Nat → Option Nat) (cm : Nat → Bool) : Prop := (M 238 q = 0 ∨ M 238 q = 1 ∨ M 238 q = 2 ∨ M 238 q = 3) ∧ ((∃ d, d < 8 ∧ M 235 q = nI d) ∧ (M 232 q = 0 ∨ M 232 q = 1 ∨ M 232 q = 2 ∨ M 232 q = 3 ∨ M 232 q = 4)) ∧ (M 238 q = 0 → (M 242 q = 1 ∨ M 242 q = 3 ∨ M 242 q = 5 ∨ M 242 q = 7 ∨ M 242 q = 9 ∨ M 242 q = 11) ∧ (M 242 q ≠ 1 → ∀ l, l < 8 → fz l ≠ none) ∧ (∀ l, l < 8 → cm l = true → VAn M q l fz (M 254 (4 * (8 * q + l))) (M 254 (4 * (8 * q + l) + 1)) (M 256 (8 * q + l))) ∧ (M 242 q = 7 → lcs M fz (M 244 q).toInt (M 245 q).toInt 8 ≤ 64) ∧ VKd (M 232 q) (M 242 q) (M 240 q))
def Inv (M : gMI) (c N b : Nat) (nu : Nat → Nat) (fz : Nat → Nat → Option Nat) (cm : Nat → Nat → Bool) : Prop := (∀ i, i < c → VLt M i N) ∧ ∀ q, q < 8 → 0 < nu q → VQq M q (fz q) (cm q) ∧ ∃ tq sq : Nat, tq ≤ b ∧ sq ≤ b ∧ M 236 q = nI tq ∧ M 237 q = nI sq ∧ ∀ i, i < c → M 259 (7 * i + 1) = M 231 q → VLq M i q (fz q) tq sq
/-- class and reference stand alike; b bounds turns and steps -/
def Rel (M : gMI) (K : gMJ) (ex : Nat → Bool) (b : Nat) : Prop := ∃ (sz : Nat → Nat) (c : Nat) (pi am : Nat → Nat) (fz : Nat → Nat → Option Nat) (cm : Nat → Nat → Bool) (gc : Nat → Nat → Nat) (nu : Nat → Nat) (N : Nat), N ≤ b ∧ RLgs M sz ∧ RPost M K c pi am ∧ RQs M K ex sz fz cm gc nu N ∧ Inv M c N b nu fz cm
/-- the memories agree but at P -/
def agr {α : Type} (P : Nat → Nat → Prop) (M M' : Nat → Nat → α) : Prop := ∀ c k, ¬ P c k → M' c k = M c k
/-- at the thrown number alone -/
def pTh (c k : Nat) : Prop := c = 6 ∧ k = 0
theorem Rel.thr {M M' : gMI} {K : gMJ} {ex : Nat → Bool} {b : Nat} (h : agr pTh M M') (hr : Rel M K ex b) : Rel M' K ex b := by
  obtain ⟨sz, c, pi, am, fz, cm, gc, nu, N, hN, h1, h2, h3, h4⟩ := hr
  unfold agr pTh at h
  refine ⟨sz, c, pi, am, fz, cm, gc, nu, N, hN, ?_, ?_, ?_, ?_⟩
  · unfold RLgs RUp RLg rI rdM at h1 ⊢
    simp (disch := omega) only [h _ _]
    exact h1
  · unfold RPost RLet at h2 ⊢
    simp (disch := omega) only [h _ _]
    exact h2
  · unfold RQs RQ RQf RFz RRe RGv RAs RAn rI rdM at h3 ⊢
    simp (disch := omega) only [h _ _]
    exact h3
  · unfold Inv VLt VQq VLq VCu VAn at h4 ⊢
    have e1 : ∀ l z a b, lcn M' l z a b = lcn M l z a b := fun l z a b => by
      unfold lcn rdM
      simp (disch := omega) only [h _ _]
    have e2 : ∀ fz a b l, lcs M' fz a b l = lcs M fz a b l := fun fz a b l => by
      induction l with
      | zero => rfl
      | succ l ih => show _ + _ = _ + _; rw [ih, e1]
    simp (disch := omega) only [h _ _, e1, e2]
    exact h4
