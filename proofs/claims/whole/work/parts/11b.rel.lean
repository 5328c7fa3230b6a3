-- Class and reference: M, K are the memories by codes. Ghosts: sz (readings of a logger), fz (what a question has frozen of a logger), ..
def rdM (M : gMI) (l : Nat) : Nat → Int := fun i => (M 229 (500 * l + i)).toInt
/-- logger l has n readings: the class's sorted row, the reference's row as they came -/
def RLg (M : gMI) (l n : Nat) : Prop := n ≤ 500 ∧ M (16 + l) 1 = nI n ∧ M 228 l = nI n ∧ pu_srt (rI M (24 + l)) n ∧ pu_same (rI M (24 + l)) (rdM M l) n
def RUp (M : gMI) (l : Nat) : Prop := (M (8 + l) 1 = 1 ∧ M 227 l = 0) ∨ (M (8 + l) 1 = 0 ∧ M 227 l = 1)
def RLgs (M : gMI) (sz : Nat → Nat) : Prop := ∀ l, l < 8 → RUp M l ∧ RLg M l (sz l)
/-- letter i on the way: the class's sheet k; am numbers -/
def RLet (M : gMI) (K : gMJ) (k i am : Nat) : Prop :=
  am ≤ 64 ∧ M (32 + k) 1 = nI am ∧ M 259 (7 * i + 6) = nI am ∧ M (32 + k) 3 = M 259 (7 * i) ∧ M (32 + k) 4 = M 259 (7 * i + 1) ∧ M (32 + k) 5 = M 259 (7 * i + 2) ∧ M (32 + k) 6 = M 259 (7 * i + 3) ∧ M (32 + k) 7 = M 259 (7 * i + 4) ∧ M (32 + k) 8 = M 259 (7 * i + 5) ∧ K (32 + k) 2 = K 261 i ∧ ∀ j, j < 64 → M 260 (64 * i + j) = if j < am then M (129 + k) j else 0
/-- the row of letters: c of them, sheet pi i is the i-th; all sheets apart -/
def RPost (M : gMI) (K : gMJ) (c : Nat) (pi am : Nat → Nat) : Prop :=
  c ≤ 96 ∧ M 3 2 = nI c ∧ M 6 32 = nI c ∧ (∀ i, i < 97 → pi i < 97 ∧ M 5 i = nI (pi i)) ∧ (∀ i j, i < 97 → j < 97 → pi i = pi j → i = j) ∧ ∀ i, i < c → RLet M K (pi i) i (am i)
/-- what question q has frozen of logger l (which has s readings) -/
def RFz (M : gMI) (q l s : Nat) (z : Option Nat) : Prop := M (300 + 40 * q + 1) l = M 243 (8 * q + l) ∧ match z with
  | none => M 243 (8 * q + l) = -1
  | some n => n ≤ s ∧ M 243 (8 * q + l) = nI n ∧ M (300 + 40 * q + 18 + l) 1 = nI n ∧ pu_srt (rI M (300 + 40 * q + 26 + l)) n ∧ pu_same (rI M (300 + 40 * q + 26 + l)) (rdM M l) n
/-- fields that are alike whenever the place q has been made -/
def RQf (M : gMI) (q : Nat) : Prop :=
  M (300 + 40 * q) 6 = M 231 q ∧ M (300 + 40 * q) 7 = M 232 q ∧ M (300 + 40 * q) 8 = M 233 q ∧ M (300 + 40 * q) 9 = M 234 q ∧ M (300 + 40 * q) 10 = M 235 q ∧ M (300 + 40 * q) 11 = M 236 q ∧ M (300 + 40 * q) 12 = M 237 q ∧ M (300 + 40 * q) 14 = M 238 q ∧ M (300 + 40 * q) 13 = M 239 q ∧ M (300 + 40 * q) 15 = M 240 q ∧ M (300 + 40 * q + 4) 6 = M 241 q ∧ M (300 + 40 * q) 5 = M 242 q
/-- sums over the loggers that came -/
def cmN (cm : Nat → Bool) : Nat → Nat
  | 0 => 0
  | l + 1 => cmN cm l + if cm l then 1 else 0
def cmS (cm : Nat → Bool) (f : Nat → Int64) : Nat → Int64
  | 0 => 0
  | l + 1 => cmS cm f l + if cm l then f l else 0
/-- the answers heard in this step; cm l: that of logger l came -/
def RRe (M : gMI) (K : gMJ) (q : Nat) (cm : Nat → Bool) : Prop :=
  (∀ l, l < 8 → M (300 + 40 * q + 6) l = (if cm l then 1 else 0) ∧ M 253 (8 * q + l) = (if cm l then 1 else 0)) ∧ M (300 + 40 * q + 3) 4 = nI (cmN cm 8) ∧ K (300 + 40 * q + 3) 3 = cmS cm (fun l => K 255 (8 * q + l)) 8 ∧ ∀ l, l < 8 → cm l = true → ∀ k, k < 3 → M (300 + 40 * q + 10 + l) k = M 254 (4 * (8 * q + l) + k)
/-- the readings given: gc l of logger l -/
def RGv (M : gMI) (q : Nat) (cm : Nat → Bool) (gc : Nat → Nat) : Prop :=
  (∀ l, l < 8 → cm l = true → gc l ≤ 64 ∧ M 256 (8 * q + l) = nI (gc l)) ∧ ∃ n, n ≤ 64 ∧ M (300 + 40 * q + 8) 1 = nI n ∧ pu_srt (rI M (300 + 40 * q + 9)) n ∧ ∀ φ : Int → Int, pu_tot φ (rI M (300 + 40 * q + 9)) n = pu_rows φ (fun l i => (M 257 (64 * (8 * q + l) + i)).toInt) (fun l => if cm l then gc l else 0) 8
/-- what is asked for, and the search; all while it is ASKING -/
def RAs (M : gMI) (q : Nat) : Prop :=
  ((M 242 q = 3 ∨ M 242 q = 5 ∨ M 242 q = 7) → M (300 + 40 * q + 4) 3 = M 244 q ∧ M (300 + 40 * q + 4) 4 = M 245 q ∧ M (300 + 40 * q + 4) 2 = M 246 q ∧ M (300 + 40 * q + 4) 1 = M 247 q ∧ M (300 + 40 * q + 4) 0 = M 248 q ∧ (M 248 q = 0 ∨ M 248 q = 1) ∧ M (300 + 40 * q + 5) 0 = M 244 q ∧ M (300 + 40 * q + 5) 1 = M 245 q) ∧
  (M 242 q = 5 → M (300 + 40 * q + 4) 5 = M 249 q ∧ M (300 + 40 * q + 5) 2 = M 249 q) ∧
  (M 242 q = 9 → (M 232 q = 1 → M (300 + 40 * q + 5) 0 = M 233 q ∧ M (300 + 40 * q + 5) 1 = M 234 q) ∧ (M 232 q ≠ 1 → M (300 + 40 * q + 5) 0 = -2147483648 ∧ M (300 + 40 * q + 5) 1 = M 233 q)) ∧
  (M 242 q = 11 → M (300 + 40 * q + 5) 0 = M 250 q ∧ M (300 + 40 * q + 5) 1 = M 251 q) ∧
  ((M 232 q = 2 ∨ M 232 q = 4) → ((M 242 q = 3 ∨ M 242 q = 5 ∨ M 242 q = 7) → M 248 q = 1 → M (300 + 40 * q) 16 = M 250 q) ∧ (M 242 q = 11 → M (300 + 40 * q) 16 = M 250 q ∧ M (300 + 40 * q) 17 = M 251 q))
/-- what an ANSWERED question shows -/
def RAn (M : gMI) (K : gMJ) (q : Nat) : Prop := K (300 + 40 * q) 18 = K 252 q ∧ ((M 232 q = 2 ∨ M 232 q = 4) → M (300 + 40 * q) 16 = M 250 q ∧ M (300 + 40 * q) 17 = M 251 q)
/-- the question at a place that has been made -/
def RQ (M : gMI) (K : gMJ) (q : Nat) (sz : Nat → Nat) (fz : Nat → Option Nat) (cm : Nat → Bool) (gc : Nat → Nat) : Prop :=
  RQf M q ∧ (∀ l, l < 8 → RFz M q l (sz l) (fz l)) ∧ RRe M K q cm ∧ (M 242 q = 7 → RGv M q cm gc) ∧ (M 238 q = 0 → RAs M q) ∧ (M 238 q = 1 → RAn M K q)
def RQs (M : gMI) (K : gMJ) (ex : Nat → Bool) (sz : Nat → Nat) (fz : Nat → Nat → Option Nat) (cm : Nat → Nat → Bool) (gc : Nat → Nat → Nat) (nu : Nat → Nat) (N : Nat) : Prop :=
  M 0 3 = nI N ∧ M 6 4 = nI N ∧ N < 2 ^ 20 ∧ (∀ q, q < 8 → M 231 q = nI (nu q) ∧ nu q ≤ N) ∧ (∀ q p, q < 8 → p < 8 → nu q = nu p → 0 < nu q → q = p) ∧ ∀ q, q < 8 → (ex q = true → RQ M K q sz (fz q) (cm q) (gc q)) ∧ (ex q = false → nu q = 0)
