-- The law: what holds at its loop's head and at its end (pc 1371)
def lwC (p : Program) (l : Launch) (s : State) (m : MethodId) (c : Code) (args : Array Value) (z b L : Nat) (xs : Nat → Int32) : Prop := CallFix p m c code 8 s args ga_ws "RankHouseLaw" ∧ l.stackTraces = false ∧ gx_N s ∧ va_X b L xs s s.heap ∧ b < s.heap.size ∧ ¬ ga_A z b
def lwS (D : va_G) (T : Nat → ClassId) (z : Nat) (s : State) (H : Heap) (locs : List Loc) (b h g o : Nat) (i : Int32) (bb : Nat) (ls : Array Slot) (u : gG) (A : Nat → Nat) (ex : Nat → Bool) : Prop :=
  A 0 = h ∧ A 6 = g ∧ A 7 = o ∧ Lay u.2.1 A ex ∧ Rel (cI A u.2.2.1) (cJ A u.2.2.2) ex bb ∧ gWu D T z u s H locs ∧ lv_has ls 8 [(0, .ref b), (1, .ref h), (2, .ref g), (3, .ref o), (4, .int i)]
def lwV (i : Int32) (L : Nat) : Prop := vp_in (i + 1) L ∧ vp_in (i + 2) L ∧ vp_in (i + 3) L ∧ vp_in (i + 4) L ∧ vp_in (i + 5) L
def lwK (p : Program) (l : Launch) (e : Env) (s : State) (m : MethodId) (args : Array Value) (below : List Frame) (meth : Method) (c : Code) (D : va_G) (T : Nat → ClassId) (z b h g o : Nat) (i : Int32) (bb cells slots : Nat) (Q : State → Prop) : Prop :=
  ∀ (u : gG) (A : Nat → Nat) (ex : Nat → Bool) (H : Heap) (locs : List Loc) (ls : Array Slot) (cells1 slots1 : Nat), lwS D T z s H locs b h g o i (bb + 1000) ls u A ex → cells1 ≤ cells + 36 → slots1 ≤ slots + 4184 → W p l e room_1 s m args below meth c H locs cells1 slots1 Q (F0 m 1371 ls [])
theorem lw_cmp {x y : Int64} (h : x = y) : lg_cmp x y = 0 := by
  subst h
  unfold lg_cmp
  simp
