-- DRAFT, never compiled. The memory layer: every tracked cell of the heap, class and reference alike, is read as
-- S (tag, length, references: fixed but where cells are made), I (ints by address and slot), J (longs by address and slot).
-- ga_cl (classes), ga_ws (all good words of lw_tbl), ga_kd (kinds of a class's fields) come from 02 (printed by program).
abbrev gMI : Type := Nat → Nat → Int32
abbrev gMJ : Type := Nat → Nat → Int64
abbrev gS : Type := (Nat → Nat) × (Nat → Nat) × (Nat → Nat → Option Nat)
def gd {α : Type} (P : Prop) [Decidable P] (k : Option α) : Option α := if P then k else none
def bnd {α β : Type} (v : α) (k : α → Option β) : Option β := k v
def bd2 {α β γ : Type} (o : Option (α × β)) (k : α → β → Option γ) : Option γ := match o with
  | none => none
  | some q => k q.1 q.2
def bd3 {α β γ δ : Type} (o : Option (α × β × γ)) (k : α → β → γ → Option δ) : Option δ := match o with
  | none => none
  | some q => k q.1 q.2.1 q.2.2
def bd4 {α β γ δ ε : Type} (o : Option (α × β × γ × δ)) (k : α → β → γ → δ → Option ε) : Option ε := match o with
  | none => none
  | some q => k q.1 q.2.1 q.2.2.1 q.2.2.2
def gm {α β : Type} (o : Option α) (x : Option β) (k : α → Option β) : Option β := match o with
  | none => x
  | some a => k a
def upI (I : gMI) (a k : Nat) (v : Int32) : gMI := va_up I a (upd (I a) k v)
def upJ (J : gMJ) (a k : Nat) (v : Int64) : gMJ := va_up J a (vp_updL (J a) k v)
def gFuel : Nat := 10000
theorem gd_ex {α : Type} {P : Prop} [Decidable P] {k : Option α} {z : α} (h : gd P k = some z) : P ∧ k = some z := by
  by_cases hp : P
  · rw [gd, if_pos hp] at h; exact ⟨hp, h⟩
  · rw [gd, if_neg hp] at h; cases h
theorem bnd_at {α β : Type} {v w : α} {k : α → Option β} {z : β} (h : bnd v k = some z) (e : w = v) : k w = some z := by subst e; exact h
theorem ga_zb {v : Int32} (h : v = 0 ∨ v = 1) : narrow .boolean (.int v) = .int v := by rcases h with rfl | rfl <;> rfl
theorem ga_zf {v : Int32} (h : v = 0 ∨ v = 1) : fits .boolean (.int v) = true := by rcases h with rfl | rfl <;> rfl
theorem ga_zn {v : Int32} (h : v = 0 ∨ v = 1) : vp_nar .boolean v = v := by rcases h with rfl | rfl <;> rfl
theorem ga_rfq (x : Option Nat) : va_rf x = .null ∨ ∃ a, va_rf x = .ref a := by
  cases x with
  | none => exact Or.inl rfl
  | some a => exact Or.inr ⟨a, rfl⟩
theorem gd_in {α : Type} {P : Prop} [Decidable P] {k : Option α} (hp : P) : gd P k = k := if_pos hp
theorem bnd_ex {α β : Type} {v : α} {k : α → Option β} {z : β} (h : bnd v k = some z) : ∃ w, w = v ∧ k w = some z := ⟨v, rfl, h⟩
theorem ob_ex {α β : Type} {o : Option α} {k : α → Option β} {z : β} (h : Option.bind o k = some z) : ∃ w, o = some w ∧ k w = some z := by
  cases o with
  | none => cases h
  | some w => exact ⟨w, rfl, h⟩
theorem bd2_ex {α β γ : Type} {o : Option (α × β)} {k : α → β → Option γ} {z : γ} (h : bd2 o k = some z) : ∃ a b, o = some (a, b) ∧ k a b = some z := by
  cases o with
  | none => cases h
  | some w => exact ⟨w.1, w.2, rfl, h⟩
theorem bd3_ex {α β γ δ : Type} {o : Option (α × β × γ)} {k : α → β → γ → Option δ} {z : δ} (h : bd3 o k = some z) : ∃ a b c, o = some (a, b, c) ∧ k a b c = some z := by
  cases o with
  | none => cases h
  | some w => exact ⟨w.1, w.2.1, w.2.2, rfl, h⟩
theorem bd4_ex {α β γ δ ε : Type} {o : Option (α × β × γ × δ)} {k : α → β → γ → δ → Option ε} {z : ε} (h : bd4 o k = some z) : ∃ a b c d, o = some (a, b, c, d) ∧ k a b c d = some z := by
  cases o with
  | none => cases h
  | some w => exact ⟨w.1, w.2.1, w.2.2.1, w.2.2.2, rfl, h⟩
theorem gm_ex {α β : Type} {o : Option α} {x : Option β} {k : α → Option β} {z : β} (h : gm o x k = some z) : (o = none ∧ x = some z) ∨ ∃ a, o = some a ∧ k a = some z := by
  cases o with
  | none => exact Or.inl ⟨rfl, h⟩
  | some a => exact Or.inr ⟨a, rfl, h⟩
/-- a field by its kind: 0 int, 1 long, else a reference -/
def ga_1 (I : Nat → Int32) (J : Nat → Int64) (R : Nat → Option Nat) (kd j : Nat) : Value := match kd with
  | 0 => .int (I j)
  | 1 => .long (J j)
  | _ => va_rf (R j)
def ga_v (I : Nat → Int32) (J : Nat → Int64) (R : Nat → Option Nat) : List Nat → Nat → List Value
  | [], _ => []
  | k :: ks, j => ga_1 I J R k j :: ga_v I J R ks (j + 1)
theorem ga_v_len (I : Nat → Int32) (J : Nat → Int64) (R : Nat → Option Nat) : ∀ (ks : List Nat) (j : Nat), (ga_v I J R ks j).length = ks.length
  | [], _ => rfl
  | _ :: ks, j => by show (ga_v I J R ks (j + 1)).length + 1 = ks.length + 1; rw [ga_v_len I J R ks (j + 1)]
theorem ga_v_get (I : Nat → Int32) (J : Nat → Int64) (R : Nat → Option Nat) : ∀ (ks : List Nat) (j k kd : Nat), ks[k]? = some kd → (ga_v I J R ks j)[k]? = some (ga_1 I J R kd (j + k))
  | [], _, k, _, h => by simp at h
  | x :: ks, j, 0, kd, h => by
    have h : x = kd := by simpa using h
    subst h; rfl
  | x :: ks, j, k + 1, kd, h => by
    have h : ks[k]? = some kd := by simpa using h
    have := ga_v_get I J R ks (j + 1) k kd h
    rw [show j + (k + 1) = j + 1 + k by omega]
    simpa [ga_v] using this
theorem ga_v_up (I I' : Nat → Int32) (J J' : Nat → Int64) (R : Nat → Option Nat) : ∀ (ks : List Nat) (j : Nat), (∀ i, j ≤ i → I' i = I i) → (∀ i, j ≤ i → J' i = J i) → ga_v I' J' R ks j = ga_v I J R ks j
  | [], _, _, _ => rfl
  | x :: ks, j, h, g => by
    have h1 : ga_1 I' J' R x j = ga_1 I J R x j := by unfold ga_1; rw [h j (Nat.le_refl j), g j (Nat.le_refl j)]
    show ga_1 I' J' R x j :: ga_v I' J' R ks (j + 1) = _
    rw [h1, ga_v_up I I' J J' R ks (j + 1) (fun i hi => h i (by omega)) (fun i hi => g i (by omega))]; rfl
theorem ga_v_setI (J : Nat → Int64) (R : Nat → Option Nat) (x : Int32) : ∀ (ks : List Nat) (I : Nat → Int32) (j k : Nat), ks[k]? = some 0 → (ga_v I J R ks j).set k (.int x) = ga_v (upd I (j + k) x) J R ks j
  | [], _, _, k, h => by simp at h
  | y :: ks, I, j, 0, h => by
    have h : y = 0 := by simpa using h
    subst h
    show Value.int x :: ga_v I J R ks (j + 1) = ga_1 (upd I (j + 0) x) J R 0 j :: ga_v (upd I (j + 0) x) J R ks (j + 1)
    rw [ga_v_up I (upd I (j + 0) x) J J R ks (j + 1) (fun i hi => if_neg (by omega)) (fun _ _ => rfl)]
    show _ = Value.int (upd I (j + 0) x j) :: _
    rw [show upd I (j + 0) x j = x from if_pos rfl]
  | y :: ks, I, j, k + 1, h => by
    have h : ks[k]? = some 0 := by simpa using h
    show ga_1 I J R y j :: (ga_v I J R ks (j + 1)).set k (.int x) = ga_1 (upd I (j + (k + 1)) x) J R y j :: ga_v (upd I (j + (k + 1)) x) J R ks (j + 1)
    rw [ga_v_setI J R x ks I (j + 1) k h, show j + 1 + k = j + (k + 1) by omega]
    have : ga_1 (upd I (j + (k + 1)) x) J R y j = ga_1 I J R y j := by unfold ga_1; rw [show upd I (j + (k + 1)) x j = I j from if_neg (by omega)]
    rw [this]
theorem ga_v_setJ (I : Nat → Int32) (R : Nat → Option Nat) (x : Int64) : ∀ (ks : List Nat) (J : Nat → Int64) (j k : Nat), ks[k]? = some 1 → (ga_v I J R ks j).set k (.long x) = ga_v I (vp_updL J (j + k) x) R ks j
  | [], _, _, k, h => by simp at h
  | y :: ks, J, j, 0, h => by
    have h : y = 1 := by simpa using h
    subst h
    show Value.long x :: ga_v I J R ks (j + 1) = ga_1 I (vp_updL J (j + 0) x) R 1 j :: ga_v I (vp_updL J (j + 0) x) R ks (j + 1)
    rw [ga_v_up I I J (vp_updL J (j + 0) x) R ks (j + 1) (fun _ _ => rfl) (fun i hi => if_neg (by omega))]
    show _ = Value.long (vp_updL J (j + 0) x j) :: _
    rw [show vp_updL J (j + 0) x j = x from if_pos rfl]
  | y :: ks, J, j, k + 1, h => by
    have h : ks[k]? = some 1 := by simpa using h
    show ga_1 I J R y j :: (ga_v I J R ks (j + 1)).set k (.long x) = ga_1 I (vp_updL J (j + (k + 1)) x) R y j :: ga_v I (vp_updL J (j + (k + 1)) x) R ks (j + 1)
    rw [ga_v_setJ I R x ks J (j + 1) k h, show j + 1 + k = j + (k + 1) by omega]
    have : ga_1 I (vp_updL J (j + (k + 1)) x) R y j = ga_1 I J R y j := by unfold ga_1; rw [show vp_updL J (j + (k + 1)) x j = J j from if_neg (by omega)]
    rw [this]
/-- what the cell at a holds. Tags: 1 + the class's place in ga_cl; 21 int[], 22 boolean[], 23 long[], 24 .. 28 arrays of references (T 3 .. T 7) -/
def ga_E (T : Nat → ClassId) (S : gS) (I : gMI) (J : gMJ) (a : Nat) : va_E :=
  if S.1 a = 21 then .inl (T 0, S.2.1 a, .inl (I a))
  else if S.1 a = 22 then .inl (T 1, S.2.1 a, .inl (I a))
  else if S.1 a = 23 then .inl (T 2, S.2.1 a, .inr (.inl (J a)))
  else if 23 < S.1 a then .inl (T (S.1 a - 21), S.2.1 a, .inr (.inr (.inr (.inr (S.2.2 a)))))
  else .inr (S.1 a - 1, ga_v (I a) (J a) (S.2.2 a) (ga_kd (S.1 a - 1)) 0)
def ga_ty (T : Nat → ClassId) : List (ClassId × FieldType) := [(T 0, .int), (T 1, .boolean), (T 2, .long), (T 3, .object "RankHouse$Logger"), (T 4, .object "RankHouse$Question"), (T 5, .object "RankHouse$Letter"), (T 6, .object "RankHouse$SortedRow"), (T 7, .array .int)]
abbrev ga_A (z : Nat) : Nat → Prop := fun q => z ≤ q
/-- the class of arrays of int arrays is there -/
def gx_AA (U : State) : Prop := (Cond.arrayOver (.array .int)).before #[] U = true
theorem gx_AA.spec {s : State} (h : gx_AA s) : ∃ comp c k, s.vm.findClass (FieldType.array .int).toString = some comp ∧ (s.vm.classes.findIdx? fun x => match x.kind with | .array component _ => component == comp | _ => false) = some c ∧ s.vm.classes[c]? = some k ∧ k.kind = .array comp (.array .int) ∧ s.vm.findClass ("[" ++ (FieldType.array .int).toString) = some c := by
  unfold gx_AA Cond.before at h
  simp only [Cond.holds, Cond.value, beq_iff_eq] at h
  cases hc : s.vm.findClass (FieldType.array .int).toString with
  | none => simp [hc] at h
  | some comp =>
    simp only [hc, Option.bind_some, Option.bind_eq_some_iff, Option.map_eq_some_iff] at h
    obtain ⟨c, hi, k, hk, hb⟩ := h
    obtain ⟨hlt, hp, -⟩ := Array.findIdx?_eq_some_iff_getElem.mp hi
    have hkk : s.vm.classes[c] = k := (Array.getElem?_eq_some_iff.mp hk).2
    rw [hkk] at hp
    cases hkind : k.kind with
    | array component ty =>
      rw [hkind] at hb hp
      simp at hb hp
      exact ⟨comp, c, k, rfl, hi, hk, by rw [hkind, hp, hb.1], hb.2⟩
    | _ => rw [hkind] at hb; simp at hb
theorem gx_AA.moved {u U : State} (hvm : u.vm.Alike U.vm) (h : gx_AA u) : gx_AA U := by
  obtain ⟨comp, c, k, h1, h2, h3, h4, h5⟩ := h.spec
  obtain ⟨k', hk', he⟩ := hvm.2.2 _ _ h3
  have hi : (U.vm.classes.findIdx? fun (x : Class) => match x.kind with | .array component _ => component == comp | _ => false) = some c := by
    have e1 := va_idx_bare U.vm comp
    have e2 := va_idx_bare u.vm comp
    have e3 : u.vm.bare = U.vm.bare := by first | exact hvm.bare_eq | exact hvm.bare_eq.symm
    rw [← e3] at e1
    exact (e1.symm.trans e2).trans h2
  have hkind : k'.kind = .array comp (.array .int) := by rw [he]; exact h4
  have f1 : U.vm.findClass (FieldType.array .int).toString = some comp := by rw [hvm.findClass]; exact h1
  have f2 : U.vm.findClass ("[" ++ (FieldType.array .int).toString) = some c := by rw [hvm.findClass]; exact h5
  unfold gx_AA Cond.before Cond.holds
  simp only [Cond.value]
  rw [f1, Option.bind_some]
  refine (congrArg (fun o : Option Nat => (o.bind (fun c => (U.vm.classes[c]?).map fun (k : Class) => match k.kind with | .array _ ty => decide (ty = FieldType.array .int) && decide (U.vm.findClass ("[" ++ (FieldType.array .int).toString) = some c) | _ => false) == some true)) hi).trans ?_
  simp [hk', hkind, f2]
/-- the world: the pool L holds the memory; all of it is new since z; nothing below z has changed since H0 -/
def ga_X (z : Nat) (U : State) : Prop := vx_Zq Bundle.tN "UNASSIGNED_STACK" Bundle.steD (ga_A z) U U.heap ∧ vx_Zq Bundle.tN "SUPPRESSED_SENTINEL" Bundle.listD (ga_A z) U U.heap ∧ (∀ q ∈ ga_str, ∃ sa : Nat, vk_R q.1 q.2.1 q.2.2 sa U) ∧ (∀ x ∈ ga_dec, va_Nw (.declares x) U) ∧ (∀ q ∈ ga_cas, va_Nw (.castable q.1 q.2) U) ∧ (∀ q ∈ ga_nca, va_Nc q.1 q.2 U) ∧ (∀ C ∈ ga_ao, va_AO C U) ∧ gx_AA U
theorem ga_X.moved {z : Nat} {s U : State} (h : ga_X z s) (hk : ∀ a : Nat, a < s.heap.size → ¬ ga_A z a → U.heap[a]? = s.heap[a]?) (hW : s.WarmedH U.vm) : ga_X z U := by
  obtain ⟨h1, h2, h3, h4, h5, h6, h7, h8⟩ := h
  refine ⟨(h1.kept hk).moved hW.alike, (h2.kept hk).moved hW.alike, fun q hq => ?_, fun x hx => va_Nw.warmD hW (h4 x hx), fun q hq => va_Nw.warmC hW (h5 q hq), fun q hq => va_Nc.moved hW.alike (h6 q hq), fun C hC => va_AO.moved hW.alike (h7 C hC), gx_AA.moved hW.alike h8⟩
  obtain ⟨sa, hs⟩ := h3 q hq
  exact ⟨sa, hs.warm hW⟩
theorem ga_X.same {z : Nat} {s U : State} (h : ga_X z s) (hh : U.heap = s.heap) (hv : U.vm = s.vm) : ga_X z U := by
  obtain ⟨h1, h2, h3, h4, h5, h6, h7, h8⟩ := h
  have ha : s.vm.Alike U.vm := by rw [hv]; exact Vm.Alike.refl s.vm
  refine ⟨by rw [hh]; exact h1.moved ha, by rw [hh]; exact h2.moved ha, fun q hq => ?_, fun x hx => va_Nw.same rfl hv.symm (h4 x hx), fun q hq => va_Nw.same rfl hv.symm (h5 q hq), fun q hq => va_Nc.moved ha (h6 q hq), fun C hC => va_AO.moved ha (h7 C hC), gx_AA.moved ha h8⟩
  obtain ⟨sa, hs⟩ := h3 q hq
  exact ⟨sa, hs.same hv⟩
def ga_W (D : va_G) (T : Nat → ClassId) (z : Nat) (L : List Nat) (S : gS) (I : gMI) (J : gMJ) (s : State) (H : Heap) (locs : List Loc) : Prop :=
  va_P D ga_cl (va_pl L (ga_E T S I J)) H ∧ va_D (ga_A z) (va_pl L (ga_E T S I J)) ∧ va_K D ga_cl (ga_ty T) s ∧ va_S (ga_A z) s.heap H locs ∧ (∀ a, S.1 a ≠ 0 → a ∈ L) ∧ z ≤ s.heap.size ∧ ga_X z s
/-- the same at a method's entry -/
def ga_Q (D : va_G) (T : Nat → ClassId) (z : Nat) (L : List Nat) (S : gS) (I : gMI) (J : gMJ) (U : State) : Prop :=
  va_P D ga_cl (va_pl L (ga_E T S I J)) U.heap ∧ va_D (ga_A z) (va_pl L (ga_E T S I J)) ∧ va_K D ga_cl (ga_ty T) U ∧ (∀ a, S.1 a ≠ 0 → a ∈ L) ∧ z ≤ U.heap.size ∧ ga_X z U
/-- a field that an instruction of 'own' names by its number idx: field k of class ci, of kind kd -/
def ga_F (own : String) (idx ci k kd : Nat) : Prop := ci < 20 ∧ (ga_kd ci)[k]? = some kd ∧ ∃ (C : String) (Tb : u_T) (N : Nat), ga_cl[ci]? = some (C, Tb, N) ∧ k < N ∧ N = (ga_kd ci).length ∧ (∀ w ∈ u_ws C Tb N, w ∈ ga_ws) ∧ Cond.fieldLink own idx (Tb k).1 (Tb k).2.1 (Tb k).2.2.1 ∈ ga_ws
/-- and it may be written: not final; ty is its type -/
def ga_P (own : String) (idx ci k kd : Nat) (ty : FieldType) : Prop := ci < 20 ∧ (ga_kd ci)[k]? = some kd ∧ ∃ (C : String) (Tb : u_T) (N : Nat) (ty0 : Nat → FieldType), ga_cl[ci]? = some (C, Tb, N) ∧ k < N ∧ N = (ga_kd ci).length ∧ (∀ w ∈ u_ws C Tb N, w ∈ ga_ws) ∧ Cond.fieldLink own idx (Tb k).1 (Tb k).2.1 (Tb k).2.2.1 ∈ ga_ws ∧ (∀ j, j < N → parseFieldDescriptor (Tb j).2.2.1 = some (ty0 j)) ∧ (∀ a, a < N → ∀ b, b < N → a ≠ b → (Tb a).2.1 ≠ (Tb b).2.1) ∧ (Tb k).2.2.2 = false ∧ parseFieldDescriptor (Tb k).2.2.1 = some ty
section GA
variable {p : Program} {l : Launch} {e : Env} {R : Room} {s : State} {m : MethodId} {args : Array Value} {below : List Frame} {meth : Method} {c : Code} {H : Heap} {locs : List Loc} {cells slots : Nat} {Q : State → Prop} {cc : ByteArray} {pc nL : Nat} {ls : Array Slot} {rest : List Value} {own : String} {D : va_G} {T : Nat → ClassId} {z : Nat} {L : List Nat} {S : gS} {I : gMI} {J : gMJ}
theorem ga_Eo {a ci : Nat} (ht : S.1 a = ci + 1) (hc : ci < 20) : ga_E T S I J a = .inr (ci, ga_v (I a) (J a) (S.2.2 a) (ga_kd ci) 0) := by
  unfold ga_E
  rw [if_neg (by omega), if_neg (by omega), if_neg (by omega), if_neg (by omega), ht]; rfl
theorem ga_Ei {a : Nat} (ht : S.1 a = 21) : ga_E T S I J a = .inl (T 0, S.2.1 a, .inl (I a)) := if_pos ht
theorem ga_Ez {a : Nat} (ht : S.1 a = 22) : ga_E T S I J a = .inl (T 1, S.2.1 a, .inl (I a)) := by
  unfold ga_E; rw [if_neg (by omega), if_pos ht]
theorem ga_Ej {a : Nat} (ht : S.1 a = 23) : ga_E T S I J a = .inl (T 2, S.2.1 a, .inr (.inl (J a))) := by
  unfold ga_E; rw [if_neg (by omega), if_neg (by omega), if_pos ht]
theorem ga_Er {a t : Nat} (ht : S.1 a = t) (h : 23 < t) : ga_E T S I J a = .inl (T (t - 21), S.2.1 a, .inr (.inr (.inr (.inr (S.2.2 a))))) := by
  unfold ga_E; rw [if_neg (by omega), if_neg (by omega), if_neg (by omega), if_pos (by omega), ht]
theorem ga_at (hw : ga_W D T z L S I J s H locs) {a : Nat} (ht : S.1 a ≠ 0) : ∃ q0 : Nat, (va_pl L (ga_E T S I J))[q0]? = some (a, ga_E T S I J a) :=
  va_pl_get (X := []) (hw.2.2.2.2.1 a ht)
/-- a cell of the pool is written: the pool with the new contents -/
theorem ga_set (hw : ga_W D T z L S I J s H locs) {a q0 : Nat} {I' : gMI} {J' : gMJ} {x : va_E} (ht : S.1 a ≠ 0) (hq : (va_pl L (ga_E T S I J))[q0]? = some (a, ga_E T S I J a)) (hE : ∀ b, va_up (ga_E T S I J) a x b = ga_E T S I' J' b) : (va_pl L (ga_E T S I J)).set q0 (a, x) = va_pl L (ga_E T S I' J') :=
  (va_pl_set (X := []) hw.2.1 (hw.2.2.2.2.1 a ht) hq).trans (va_pl_congr hE)
theorem ga_upE {a : Nat} {I' : gMI} {J' : gMJ} {x : va_E} (hx : x = ga_E T S I' J' a) (hI : ∀ b, b ≠ a → I' b = I b) (hJ : ∀ b, b ≠ a → J' b = J b) : ∀ b, va_up (ga_E T S I J) a x b = ga_E T S I' J' b := by
  intro b
  by_cases hb : b = a
  · subst hb; rw [va_up_self, hx]
  · rw [va_up_ne _ _ hb]; unfold ga_E; rw [hI b hb, hJ b hb]
theorem upI_ne {a b k : Nat} {v : Int32} (h : b ≠ a) : upI I a k v b = I b := va_up_ne _ _ h
theorem upI_at {a k : Nat} {v : Int32} : upI I a k v a = upd (I a) k v := va_up_self _ _ _
theorem upJ_ne {a b k : Nat} {v : Int64} (h : b ≠ a) : upJ J a k v b = J b := va_up_ne _ _ h
theorem upJ_at {a k : Nat} {v : Int64} : upJ J a k v a = vp_updL (J a) k v := va_up_self _ _ _
theorem ga_getI (C : CallFix p m c cc nL s args ga_ws own) (hw : ga_W D T z L S I J s H locs) {a idx ci k : Nat} (fl : ga_F own idx ci k 0) (ht : S.1 a = ci + 1) (hdg : decode cc pc = .ok (.getfield idx, 3))
    (kk : W p l e R s m args below meth c H locs cells slots Q (F0 m (pc + 3) ls (.int (I a k) :: rest))) : W p l e R s m args below meth c H locs cells slots Q (F0 m pc ls (.ref a :: rest)) := by
  obtain ⟨hx, hb, -, hown, hts⟩ := C
  obtain ⟨hci, hkd, Cn, Tb, N, hc, hk, -, hin, hlink⟩ := fl
  obtain ⟨q0, hq⟩ := ga_at hw (a := a) (by omega)
  rw [ga_Eo ht hci] at hq
  have hg := ga_v_get (I a) (J a) (S.2.2 a) (ga_kd ci) 0 k 0 hkd
  rw [Nat.zero_add] at hg
  exact va_get hx hb hts hin hown hw.2.2.1 hw.1 q0 hq hc k hk (hts _ hlink) (fun _ h => h) hg hdg kk
theorem ga_getJ (C : CallFix p m c cc nL s args ga_ws own) (hw : ga_W D T z L S I J s H locs) {a idx ci k : Nat} (fl : ga_F own idx ci k 1) (ht : S.1 a = ci + 1) (hdg : decode cc pc = .ok (.getfield idx, 3))
    (kk : W p l e R s m args below meth c H locs cells slots Q (F0 m (pc + 3) ls (.long (J a k) :: rest))) : W p l e R s m args below meth c H locs cells slots Q (F0 m pc ls (.ref a :: rest)) := by
  obtain ⟨hx, hb, -, hown, hts⟩ := C
  obtain ⟨hci, hkd, Cn, Tb, N, hc, hk, -, hin, hlink⟩ := fl
  obtain ⟨q0, hq⟩ := ga_at hw (a := a) (by omega)
  rw [ga_Eo ht hci] at hq
  have hg := ga_v_get (I a) (J a) (S.2.2 a) (ga_kd ci) 0 k 1 hkd
  rw [Nat.zero_add] at hg
  exact va_get hx hb hts hin hown hw.2.2.1 hw.1 q0 hq hc k hk (hts _ hlink) (fun _ h => h) hg hdg kk
theorem ga_getR (C : CallFix p m c cc nL s args ga_ws own) (hw : ga_W D T z L S I J s H locs) {a b idx ci k : Nat} (fl : ga_F own idx ci k 2) (ht : S.1 a = ci + 1) (hr : S.2.2 a k = some b) (hdg : decode cc pc = .ok (.getfield idx, 3))
    (kk : W p l e R s m args below meth c H locs cells slots Q (F0 m (pc + 3) ls (.ref b :: rest))) : W p l e R s m args below meth c H locs cells slots Q (F0 m pc ls (.ref a :: rest)) := by
  obtain ⟨hx, hb, -, hown, hts⟩ := C
  obtain ⟨hci, hkd, Cn, Tb, N, hc, hk, -, hin, hlink⟩ := fl
  obtain ⟨q0, hq⟩ := ga_at hw (a := a) (by omega)
  rw [ga_Eo ht hci] at hq
  have hg := ga_v_get (I a) (J a) (S.2.2 a) (ga_kd ci) 0 k 2 hkd
  rw [Nat.zero_add] at hg
  have hg : (ga_v (I a) (J a) (S.2.2 a) (ga_kd ci) 0)[k]? = some (.ref b) := hg.trans (by show some (va_rf (S.2.2 a k)) = _; rw [hr]; rfl)
  exact va_get hx hb hts hin hown hw.2.2.1 hw.1 q0 hq hc k hk (hts _ hlink) (fun _ h => h) hg hdg kk
theorem ga_putI (C : CallFix p m c cc nL s args ga_ws own) (hw : ga_W D T z L S I J s H locs) {a idx ci k : Nat} {ty : FieldType} {v : Int32} {I' : gMI} (fl : ga_P own idx ci k 0 ty) (ht : S.1 a = ci + 1) (hn : narrow ty (.int v) = .int v) (hfit : fits ty (.int v) = true) (he : I' = upI I a k v) (hdg : decode cc pc = .ok (.putfield idx, 3))
    (kk : ∀ (H1 : Heap) (locs1 : List Loc), ga_W D T z L S I' J s H1 locs1 → W p l e R s m args below meth c H1 locs1 cells slots Q (F0 m (pc + 3) ls rest)) : W p l e R s m args below meth c H locs cells slots Q (F0 m pc ls (.int v :: .ref a :: rest)) := by
  subst he
  obtain ⟨hx, hb, -, hown, hts⟩ := C
  obtain ⟨hci, hkd, Cn, Tb, N, ty0, hc, hk, hN, hin, hlink, hty, hnm, hfin, hd⟩ := fl
  obtain ⟨q0, hq⟩ := ga_at hw (a := a) (by omega)
  have hq' := hq
  rw [ga_Eo ht hci] at hq
  refine va_put hx hb hts hin ty0 hty hnm hown hw.2.2.1 hw.1 hw.2.1 hw.2.2.2.1 q0 hq hc k hk (hts _ hlink) (fun _ h => h) hfin hd hn hfit (by rw [ga_v_len, ← hN]; exact hk) hdg (fun H1 locs1 hP hD hS => ?_)
  have hs := ga_set (I' := upI I a k v) (J' := J) hw (by omega) hq' (ga_upE (x := .inr (ci, (ga_v (I a) (J a) (S.2.2 a) (ga_kd ci) 0).set k (.int v))) (by rw [ga_Eo ht hci, ga_v_setI (J a) (S.2.2 a) v (ga_kd ci) (I a) 0 k hkd, upI_at, Nat.zero_add]) (fun b h => upI_ne h) (fun _ _ => rfl))
  rw [hs] at hP hD
  exact kk H1 locs1 ⟨hP, hD, hw.2.2.1, hS, hw.2.2.2.2⟩
theorem ga_putJ (C : CallFix p m c cc nL s args ga_ws own) (hw : ga_W D T z L S I J s H locs) {a idx ci k : Nat} {v : Int64} {J' : gMJ} (fl : ga_P own idx ci k 1 .long) (ht : S.1 a = ci + 1) (he : J' = upJ J a k v) (hdg : decode cc pc = .ok (.putfield idx, 3))
    (kk : ∀ (H1 : Heap) (locs1 : List Loc), ga_W D T z L S I J' s H1 locs1 → W p l e R s m args below meth c H1 locs1 cells slots Q (F0 m (pc + 3) ls rest)) : W p l e R s m args below meth c H locs cells slots Q (F0 m pc ls (.long v :: .ref a :: rest)) := by
  subst he
  obtain ⟨hx, hb, -, hown, hts⟩ := C
  obtain ⟨hci, hkd, Cn, Tb, N, ty0, hc, hk, hN, hin, hlink, hty, hnm, hfin, hd⟩ := fl
  obtain ⟨q0, hq⟩ := ga_at hw (a := a) (by omega)
  have hq' := hq
  rw [ga_Eo ht hci] at hq
  refine va_put hx hb hts hin ty0 hty hnm hown hw.2.2.1 hw.1 hw.2.1 hw.2.2.2.1 q0 hq hc k hk (hts _ hlink) (fun _ h => h) hfin hd rfl rfl (by rw [ga_v_len, ← hN]; exact hk) hdg (fun H1 locs1 hP hD hS => ?_)
  have hs := ga_set (I' := I) (J' := upJ J a k v) hw (by omega) hq' (ga_upE (x := .inr (ci, (ga_v (I a) (J a) (S.2.2 a) (ga_kd ci) 0).set k (.long v))) (by rw [ga_Eo ht hci, ga_v_setJ (I a) (S.2.2 a) v (ga_kd ci) (J a) 0 k hkd, upJ_at, Nat.zero_add]) (fun _ _ => rfl) (fun b h => upJ_ne h))
  rw [hs] at hP hD
  exact kk H1 locs1 ⟨hP, hD, hw.2.2.1, hS, hw.2.2.2.2⟩
theorem ga_iald (C : CallFix p m c cc nL s args ga_ws own) (hw : ga_W D T z L S I J s H locs) {a : Nat} {i : Int32} (ht : S.1 a = 21) (hin : ¬ (i < 0 ∨ S.2.1 a ≤ i.toNatClampNeg)) (hdg : decode cc pc = .ok (.iaload, 1))
    (kk : W p l e R s m args below meth c H locs cells slots Q (F0 m (pc + 1) ls (.int (I a i.toNatClampNeg) :: rest))) : W p l e R s m args below meth c H locs cells slots Q (F0 m pc ls (.int i :: .ref a :: rest)) := by
  obtain ⟨q0, hq⟩ := ga_at hw (a := a) (by omega)
  rw [ga_Ei ht] at hq
  exact va_iald C.1 C.2.1 hw.2.2.1 hw.1 q0 0 hq rfl hin hdg kk
theorem ga_zald (C : CallFix p m c cc nL s args ga_ws own) (hw : ga_W D T z L S I J s H locs) {a : Nat} {i : Int32} (ht : S.1 a = 22) (hin : ¬ (i < 0 ∨ S.2.1 a ≤ i.toNatClampNeg)) (hdg : decode cc pc = .ok (.baload, 1))
    (kk : W p l e R s m args below meth c H locs cells slots Q (F0 m (pc + 1) ls (.int (I a i.toNatClampNeg) :: rest))) : W p l e R s m args below meth c H locs cells slots Q (F0 m pc ls (.int i :: .ref a :: rest)) := by
  obtain ⟨q0, hq⟩ := ga_at hw (a := a) (by omega)
  rw [ga_Ez ht] at hq
  exact va_zald C.1 C.2.1 hw.2.2.1 hw.1 q0 1 hq rfl hin hdg kk
theorem ga_lald (C : CallFix p m c cc nL s args ga_ws own) (hw : ga_W D T z L S I J s H locs) {a : Nat} {i : Int32} (ht : S.1 a = 23) (hin : ¬ (i < 0 ∨ S.2.1 a ≤ i.toNatClampNeg)) (hdg : decode cc pc = .ok (.laload, 1))
    (kk : W p l e R s m args below meth c H locs cells slots Q (F0 m (pc + 1) ls (.long (J a i.toNatClampNeg) :: rest))) : W p l e R s m args below meth c H locs cells slots Q (F0 m pc ls (.int i :: .ref a :: rest)) := by
  obtain ⟨q0, hq⟩ := ga_at hw (a := a) (by omega)
  rw [ga_Ej ht] at hq
  exact va_lald C.1 C.2.1 hw.2.2.1 hw.1 q0 2 hq rfl hin hdg kk
/-- a reference out of an array of references (t: its tag) -/
theorem ga_rald (C : CallFix p m c cc nL s args ga_ws own) (hw : ga_W D T z L S I J s H locs) {a t : Nat} {i : Int32} {r : Option Nat} {ty : FieldType} (ht : S.1 a = t) (h3 : 23 < t) (hty : (ga_ty T)[t - 21]? = some (T (t - 21), ty)) (hrt : ty.isReference = true) (hin : ¬ (i < 0 ∨ S.2.1 a ≤ i.toNatClampNeg)) (hr : S.2.2 a i.toNatClampNeg = r) (hdg : decode cc pc = .ok (.aaload, 1))
    (kk : W p l e R s m args below meth c H locs cells slots Q (F0 m (pc + 1) ls (va_rf r :: rest))) : W p l e R s m args below meth c H locs cells slots Q (F0 m pc ls (.int i :: .ref a :: rest)) := by
  obtain ⟨q0, hq⟩ := ga_at hw (a := a) (by omega)
  rw [ga_Er ht h3] at hq
  subst hr
  have hlt : i.toNatClampNeg < S.2.1 a := Nat.not_le.mp fun q => hin (Or.inr q)
  exact W.aald (v := va_rf (S.2.2 a i.toNatClampNeg)) (ty := ty) C.1 C.2.1 (hw.1 q0 _ hq) ((hw.2.2.1.2 (t - 21) _ hty).1 (S.2.1 a) (fun j => va_rf (S.2.2 a j))) hrt (fun q => by cases q) (by show ¬ (i < 0 ∨ (arrV _ _ _).slots.size ≤ _); rw [arrV_size]; exact hin) (by show (arrV _ _ _).slots[_]? = _; rw [arrV_read _ _ hlt]) rfl rfl hdg kk
theorem ga_iast (C : CallFix p m c cc nL s args ga_ws own) (hw : ga_W D T z L S I J s H locs) {a : Nat} {i v : Int32} {I' : gMI} (ht : S.1 a = 21) (hin : ¬ (i < 0 ∨ S.2.1 a ≤ i.toNatClampNeg)) (he : I' = upI I a i.toNatClampNeg v) (hdg : decode cc pc = .ok (.iastore, 1))
    (kk : ∀ (H1 : Heap) (locs1 : List Loc), ga_W D T z L S I' J s H1 locs1 → W p l e R s m args below meth c H1 locs1 cells slots Q (F0 m (pc + 1) ls rest)) : W p l e R s m args below meth c H locs cells slots Q (F0 m pc ls (.int v :: .int i :: .ref a :: rest)) := by
  subst he
  obtain ⟨q0, hq⟩ := ga_at hw (a := a) (by omega)
  have hq' := hq
  rw [ga_Ei ht] at hq
  refine va_iast C.1 C.2.1 hw.2.2.1 hw.1 hw.2.1 hw.2.2.2.1 q0 0 hq rfl hin hdg (fun H1 locs1 hP hD hS => ?_)
  have hs := ga_set (I' := upI I a i.toNatClampNeg v) (J' := J) hw (by omega) hq' (ga_upE (x := .inl (T 0, S.2.1 a, .inl (upd (I a) i.toNatClampNeg v))) (by rw [ga_Ei ht, upI_at]) (fun b h => upI_ne h) (fun _ _ => rfl))
  rw [hs] at hP hD
  exact kk H1 locs1 ⟨hP, hD, hw.2.2.1, hS, hw.2.2.2.2⟩
theorem ga_zast (C : CallFix p m c cc nL s args ga_ws own) (hw : ga_W D T z L S I J s H locs) {a : Nat} {i v : Int32} {I' : gMI} (ht : S.1 a = 22) (hin : ¬ (i < 0 ∨ S.2.1 a ≤ i.toNatClampNeg)) (hv : vp_nar .boolean v = v) (he : I' = upI I a i.toNatClampNeg v) (hdg : decode cc pc = .ok (.bastore, 1))
    (kk : ∀ (H1 : Heap) (locs1 : List Loc), ga_W D T z L S I' J s H1 locs1 → W p l e R s m args below meth c H1 locs1 cells slots Q (F0 m (pc + 1) ls rest)) : W p l e R s m args below meth c H locs cells slots Q (F0 m pc ls (.int v :: .int i :: .ref a :: rest)) := by
  subst he
  obtain ⟨q0, hq⟩ := ga_at hw (a := a) (by omega)
  have hq' := hq
  rw [ga_Ez ht] at hq
  refine va_zast C.1 C.2.1 hw.2.2.1 hw.1 hw.2.1 hw.2.2.2.1 q0 1 hq rfl hin hdg (fun H1 locs1 hP hD hS => ?_)
  rw [hv] at hP hD
  have hs := ga_set (I' := upI I a i.toNatClampNeg v) (J' := J) hw (by omega) hq' (ga_upE (x := .inl (T 1, S.2.1 a, .inl (upd (I a) i.toNatClampNeg v))) (by rw [ga_Ez ht, upI_at]) (fun b h => upI_ne h) (fun _ _ => rfl))
  rw [hs] at hP hD
  exact kk H1 locs1 ⟨hP, hD, hw.2.2.1, hS, hw.2.2.2.2⟩
theorem ga_last (C : CallFix p m c cc nL s args ga_ws own) (hw : ga_W D T z L S I J s H locs) {a : Nat} {i : Int32} {v : Int64} {J' : gMJ} (ht : S.1 a = 23) (hin : ¬ (i < 0 ∨ S.2.1 a ≤ i.toNatClampNeg)) (he : J' = upJ J a i.toNatClampNeg v) (hdg : decode cc pc = .ok (.lastore, 1))
    (kk : ∀ (H1 : Heap) (locs1 : List Loc), ga_W D T z L S I J' s H1 locs1 → W p l e R s m args below meth c H1 locs1 cells slots Q (F0 m (pc + 1) ls rest)) : W p l e R s m args below meth c H locs cells slots Q (F0 m pc ls (.long v :: .int i :: .ref a :: rest)) := by
  subst he
  obtain ⟨q0, hq⟩ := ga_at hw (a := a) (by omega)
  have hq' := hq
  rw [ga_Ej ht] at hq
  refine va_last C.1 C.2.1 hw.2.2.1 hw.1 hw.2.1 hw.2.2.2.1 q0 2 hq rfl hin hdg (fun H1 locs1 hP hD hS => ?_)
  have hs := ga_set (I' := I) (J' := upJ J a i.toNatClampNeg v) hw (by omega) hq' (ga_upE (x := .inl (T 2, S.2.1 a, .inr (.inl (vp_updL (J a) i.toNatClampNeg v)))) (by rw [ga_Ej ht, upJ_at]) (fun _ _ => rfl) (fun b h => upJ_ne h))
  rw [hs] at hP hD
  exact kk H1 locs1 ⟨hP, hD, hw.2.2.1, hS, hw.2.2.2.2⟩
theorem ga_alen (C : CallFix p m c cc nL s args ga_ws own) (hw : ga_W D T z L S I J s H locs) {a t : Nat} (ht : S.1 a = t) (h2 : 20 < t) (h8 : t < 29) (hdg : decode cc pc = .ok (.arraylength, 1))
    (kk : W p l e R s m args below meth c H locs cells slots Q (F0 m (pc + 1) ls (.int (Int32.ofNat (S.2.1 a)) :: rest))) : W p l e R s m args below meth c H locs cells slots Q (F0 m pc ls (.ref a :: rest)) := by
  obtain ⟨q0, hq⟩ := ga_at hw (a := a) (by omega)
  rcases (show t = 21 ∨ t = 22 ∨ t = 23 ∨ t = 24 ∨ t = 25 ∨ t = 26 ∨ t = 27 ∨ t = 28 by omega) with h | h | h | h | h | h | h | h <;> subst h
  · rw [ga_Ei ht] at hq; exact va_alen C.1 C.2.1 hw.2.2.1 hw.1 q0 0 hq rfl rfl hdg kk
  · rw [ga_Ez ht] at hq; exact va_alen C.1 C.2.1 hw.2.2.1 hw.1 q0 1 hq rfl rfl hdg kk
  · rw [ga_Ej ht] at hq; exact va_alen C.1 C.2.1 hw.2.2.1 hw.1 q0 2 hq rfl rfl hdg kk
  · rw [ga_Er ht (by decide)] at hq; exact va_alen C.1 C.2.1 hw.2.2.1 hw.1 q0 3 hq rfl rfl hdg kk
  · rw [ga_Er ht (by decide)] at hq; exact va_alen C.1 C.2.1 hw.2.2.1 hw.1 q0 4 hq rfl rfl hdg kk
  · rw [ga_Er ht (by decide)] at hq; exact va_alen C.1 C.2.1 hw.2.2.1 hw.1 q0 5 hq rfl rfl hdg kk
  · rw [ga_Er ht (by decide)] at hq; exact va_alen C.1 C.2.1 hw.2.2.1 hw.1 q0 6 hq rfl rfl hdg kk
  · rw [ga_Er ht (by decide)] at hq; exact va_alen C.1 C.2.1 hw.2.2.1 hw.1 q0 7 hq rfl rfl hdg kk
/-- System.arraycopy between int arrays (the same one too); ga_cp1 .. ga_cp3: native, static, System initialised, among ga_ws -/
theorem ga_copy (C : CallFix p m c cc nL s args ga_ws own) (hw : ga_W D T z L S I J s H locs) (hsz : ls.size = nL) {a b idx : Nat} {sp dp n : Int32} {I' : gMI} (hk : Cond.methodLink own idx arraycopyName ∈ ga_ws) (ha : S.1 a = 21) (hb : S.1 b = 21)
    (hin : ¬ sp < 0 ∧ ¬ dp < 0 ∧ ¬ n < 0 ∧ sp.toNatClampNeg + n.toNatClampNeg ≤ S.2.1 a ∧ dp.toNatClampNeg + n.toNatClampNeg ≤ S.2.1 b) (he : I' = va_up I b (va_cpy (I a) (I b) sp.toNatClampNeg dp.toNatClampNeg n.toNatClampNeg)) (hfr : 1 ≤ R.frames) (hlo : (rest.map fun v => v.category).sum + (nativeFrameWords "java/lang/System" "arraycopy" 5 + 11) ≤ R.locals) (hdg : decode cc pc = .ok (.invokestatic idx, 3))
    (kk : ∀ (H1 : Heap) (locs1 : List Loc), ga_W D T z L S I' J s H1 locs1 → W p l e R s m args below meth c H1 locs1 cells slots Q (F0 m (pc + 3) ls rest)) : W p l e R s m args below meth c H locs cells slots Q (F0 m pc ls (.int n :: .int dp :: .ref b :: .int sp :: .ref a :: rest)) := by
  subst he
  obtain ⟨q0, hq⟩ := ga_at hw (a := a) (by omega)
  obtain ⟨q1, hr⟩ := ga_at hw (a := b) (by omega)
  have hr' := hr
  rw [ga_Ei ha] at hq
  rw [ga_Ei hb] at hr
  obtain ⟨h1, h2, h3, h4, h5⟩ := hin
  refine va_copyi C.1 C.2.1 (C.2.2.1.trans hsz.symm) C.2.2.2.1 (C.2.2.2.2 _ hk) (C.2.2.2.2 _ ga_cp1) (C.2.2.2.2 _ ga_cp2) (C.2.2.2.2 _ ga_cp3) hw.2.2.1 hw.1 hw.2.1 hw.2.2.2.1 q0 q1 0 0 hq hr rfl rfl rfl h1 h2 h3 h4 h5 (fun _ _ => rfl) hfr hlo hdg (fun H1 locs1 hP hD hS => ?_)
  have hs := ga_set (I' := va_up I b (va_cpy (I a) (I b) sp.toNatClampNeg dp.toNatClampNeg n.toNatClampNeg)) (J' := J) hw (by omega) hr' (ga_upE (x := .inl (T 0, S.2.1 b, .inl (va_cpy (I a) (I b) sp.toNatClampNeg dp.toNatClampNeg n.toNatClampNeg))) (by rw [ga_Ei hb, va_up_self]) (fun d h => va_up_ne _ _ h) (fun _ _ => rfl))
  rw [hs] at hP hD
  exact kk H1 locs1 ⟨hP, hD, hw.2.2.1, hS, hw.2.2.2.2⟩
-- from the world to a callee's entry, and back
theorem ga_in (hw : ga_W D T z L S I J s H locs) {U : State} (hU : U.heap = H) (hW : s.WarmedH U.vm) : ga_Q D T z L S I J U := by
  obtain ⟨hP, hD, hK, hS, hL, hz, hX⟩ := hw
  exact ⟨by rw [hU]; exact hP, hD, va_K.moved hW.alike hK, hL, by rw [hU]; exact Nat.le_trans hz hS.1, hX.moved (by rw [hU]; exact hS.2.1) hW⟩
/-- what a method leaves -/
def ga_O (D : va_G) (T : Nat → ClassId) (z : Nat) (L : List Nat) (S : gS) (I : gMI) (J : gMJ) (t : State) : Prop := va_P D ga_cl (va_pl L (ga_E T S I J)) t.heap ∧ va_D (ga_A z) (va_pl L (ga_E T S I J)) ∧ ∀ a, S.1 a ≠ 0 → a ∈ L
theorem ga_o (hw : ga_W D T z L S I J s H locs) {t : State} (ht : t.heap = H) : ga_O D T z L S I J t := ⟨by rw [ht]; exact hw.1, hw.2.1, hw.2.2.2.2.1⟩
theorem ga_out {L' : List Nat} {S' : gS} {I' : gMI} {J' : gMJ} {t : State} {H1 : Heap} {locs1 : List Loc} (hw : ga_W D T z L S I J s H locs) (ht : t.heap = H1) (hS : va_S (ga_A z) s.heap H1 locs1) (h : ga_O D T z L' S' I' J' t) : ga_W D T z L' S' I' J' s H1 locs1 :=
  ⟨by rw [← ht]; exact h.1, h.2.1, hw.2.2.1, hS, h.2.2, hw.2.2.2.2.2.1, hw.2.2.2.2.2.2⟩
theorem ga_blind (As : List Value) : FrameBlind (va_Pc As (ga_Q D T z L S I J)) := fun a U g mk q => by
  obtain ⟨q0, qP, qD, qK, qL, qz, qX⟩ := q
  exact ⟨q0, qP, qD, va_K.moved (u := U) (U := U.calling g mk a) (Vm.Alike.refl U.vm) qK, qL, qz, qX.same rfl rfl⟩
theorem ga_pre (hw : ga_W D T z L S I J s H locs) (As : List Value) : PreS s H (va_Pc As (ga_Q D T z L S I J)) As := ⟨ga_blind As, fun U hU hW => ⟨rfl, ga_in hw hU hW⟩⟩
theorem ga_preV (hw : ga_W D T z L S I J s H locs) {b ci N : Nat} {Cn : String} {Tb : u_T} (hb : S.1 b = ci + 1) (hci : ci < 20) (hc : ga_cl[ci]? = some (Cn, Tb, N)) (As : List Value) : PreV s H Cn b (va_Pc (.ref b :: As) (ga_Q D T z L S I J)) As := by
  obtain ⟨q0, hq⟩ := ga_at hw (a := b) (by omega)
  rw [ga_Eo hb hci] at hq
  exact ⟨ga_blind _, va_recv hw.2.2.1 hw.1 hc hq, fun U hU hW => ⟨rfl, ga_in hw hU hW⟩⟩
/-- a method's entry -/
theorem ga_start (h : ga_Q D T z L S I J s) : ga_W D T z L S I J s s.heap [] := ⟨h.1, h.2.1, h.2.2.1, va_S.rf, h.2.2.2.1, h.2.2.2.2.1, h.2.2.2.2.2⟩
end GA
-- contracts: y is called with As in memory (S, I, J): it answers r and leaves (S, I', J')
def ga_Mi (l : Launch) (y : MethodName) (cc : ByteArray) (nL : Nat) (ret : Option FieldType) (rm : Room) (As : List Value) (D : va_G) (T : Nat → ClassId) (z : Nat) (L : List Nat) (S : gS) (I : gMI) (J : gMJ) (r : Int32) (I' : gMI) (J' : gMJ) : Prop :=
  Met l y (.code y cc nL ret :: ga_ws) rm (va_Pc As (ga_Q D T z L S I J)) (va_Qi (fun (r' : Int32) (_ : Unit) => r' = r) (fun _ t => ga_O D T z L S I' J' t) (ga_A z)) 0 0 (ga_A z)
def ga_Ml (l : Launch) (y : MethodName) (cc : ByteArray) (nL : Nat) (ret : Option FieldType) (rm : Room) (As : List Value) (D : va_G) (T : Nat → ClassId) (z : Nat) (L : List Nat) (S : gS) (I : gMI) (J : gMJ) (r : Int64) (I' : gMI) (J' : gMJ) : Prop :=
  Met l y (.code y cc nL ret :: ga_ws) rm (va_Pc As (ga_Q D T z L S I J)) (va_Ql (fun (r' : Int64) (_ : Unit) => r' = r) (fun _ t => ga_O D T z L S I' J' t) (ga_A z)) 0 0 (ga_A z)
def ga_Mq (l : Launch) (y : MethodName) (cc : ByteArray) (nL : Nat) (ret : Option FieldType) (rm : Room) (As : List Value) (D : va_G) (T : Nat → ClassId) (z : Nat) (L : List Nat) (S : gS) (I : gMI) (J : gMJ) (r : Option Nat) (I' : gMI) (J' : gMJ) : Prop :=
  Met l y (.code y cc nL ret :: ga_ws) rm (va_Pc As (ga_Q D T z L S I J)) (va_Qq (fun (r' : Option Nat) (_ : Unit) => r' = r) (fun _ t => ga_O D T z L S I' J' t) (ga_A z)) 0 0 (ga_A z)
def ga_Mv (l : Launch) (y : MethodName) (cc : ByteArray) (nL : Nat) (ret : Option FieldType) (rm : Room) (As : List Value) (D : va_G) (T : Nat → ClassId) (z : Nat) (L : List Nat) (S : gS) (I : gMI) (J : gMJ) (I' : gMI) (J' : gMJ) : Prop :=
  Met l y (.code y cc nL ret :: ga_ws) rm (va_Pc As (ga_Q D T z L S I J)) (va_Qv (fun (_ : Unit) => True) (fun _ t => ga_O D T z L S I' J' t) (ga_A z)) 0 0 (ga_A z)
/-- exceptions by their numbers in the functions -/
def ga_ex : Nat → String
  | 1 => "java/lang/IndexOutOfBoundsException"
  | 2 => "java/lang/IllegalArgumentException"
  | _ => "java/lang/IllegalStateException"
/-- what holds where a method has thrown -/
def ga_XC (ex : Nat) (D : va_G) (T : Nat → ClassId) (z : Nat) (L : List Nat) (S : gS) (I : gMI) (J : gMJ) : String → State → State → Prop := vx_X (fun (_ : Unit) => ¬ ex = 0) (fun E _ t => E = ga_ex ex ∧ ga_O D T z L S I J t) (ga_A z)
-- the same of a method that may throw: ex = 0, it answers r; else it throws ga_ex ex; the memory behind it either way
def ga_Xi (l : Launch) (y : MethodName) (cc : ByteArray) (nL : Nat) (ret : Option FieldType) (rm : Room) (As : List Value) (D : va_G) (T : Nat → ClassId) (z : Nat) (L : List Nat) (S : gS) (I : gMI) (J : gMJ) (ex : Nat) (r : Int32) (I' : gMI) (J' : gMJ) : Prop :=
  vx_Met l y (.code y cc nL ret :: ga_ws) rm (va_Pc As (ga_Q D T z L S I J)) (va_Qi (fun (r' : Int32) (_ : Unit) => ex = 0 ∧ r' = r) (fun _ t => ga_O D T z L S I' J' t) (ga_A z)) (ga_XC ex D T z L S I' J') rm.cells rm.slots (ga_A z)
def ga_Xl (l : Launch) (y : MethodName) (cc : ByteArray) (nL : Nat) (ret : Option FieldType) (rm : Room) (As : List Value) (D : va_G) (T : Nat → ClassId) (z : Nat) (L : List Nat) (S : gS) (I : gMI) (J : gMJ) (ex : Nat) (r : Int64) (I' : gMI) (J' : gMJ) : Prop :=
  vx_Met l y (.code y cc nL ret :: ga_ws) rm (va_Pc As (ga_Q D T z L S I J)) (va_Ql (fun (r' : Int64) (_ : Unit) => ex = 0 ∧ r' = r) (fun _ t => ga_O D T z L S I' J' t) (ga_A z)) (ga_XC ex D T z L S I' J') rm.cells rm.slots (ga_A z)
def ga_Xq (l : Launch) (y : MethodName) (cc : ByteArray) (nL : Nat) (ret : Option FieldType) (rm : Room) (As : List Value) (D : va_G) (T : Nat → ClassId) (z : Nat) (L : List Nat) (S : gS) (I : gMI) (J : gMJ) (ex : Nat) (r : Option Nat) (I' : gMI) (J' : gMJ) : Prop :=
  vx_Met l y (.code y cc nL ret :: ga_ws) rm (va_Pc As (ga_Q D T z L S I J)) (va_Qq (fun (r' : Option Nat) (_ : Unit) => ex = 0 ∧ r' = r) (fun _ t => ga_O D T z L S I' J' t) (ga_A z)) (ga_XC ex D T z L S I' J') rm.cells rm.slots (ga_A z)
def ga_Xv (l : Launch) (y : MethodName) (cc : ByteArray) (nL : Nat) (ret : Option FieldType) (rm : Room) (As : List Value) (D : va_G) (T : Nat → ClassId) (z : Nat) (L : List Nat) (S : gS) (I : gMI) (J : gMJ) (ex : Nat) (I' : gMI) (J' : gMJ) : Prop :=
  vx_Met l y (.code y cc nL ret :: ga_ws) rm (va_Pc As (ga_Q D T z L S I J)) (va_Qv (fun (_ : Unit) => ex = 0) (fun _ t => ga_O D T z L S I' J' t) (ga_A z)) (ga_XC ex D T z L S I' J') rm.cells rm.slots (ga_A z)
/-- the classes between an exception of ours and Throwable -/
def ga_exn : List String := ["java/lang/RuntimeException", "java/lang/Exception"]
def ga_nw : List Cond := ga_dec.map Cond.declares ++ ga_cas.map (fun q => Cond.castable q.1 q.2)
/-- the words that a throw of the exception ex by 'own' needs -/
def ga_TW (own : String) (ik ic ex : Nat) : Prop := Bundle.fit (ga_ex ex) = true ∧ Cond.classLink own ik (ga_ex ex) ∈ ga_ws ∧ Cond.initialized (ga_ex ex) ∈ ga_ws ∧ (∀ w ∈ (vx_atS own ic (ga_ex ex) ga_exn).filter goodWord, w ∈ ga_ws) ∧ (∀ w ∈ (vx_atS own ic (ga_ex ex) ga_exn).filter (fun w => !goodWord w), w ∈ ga_nw) ∧ ∀ w ∈ Cond.classLink own ik (ga_ex ex) :: Cond.initialized (ga_ex ex) :: vx_atS own ic (ga_ex ex) ga_exn, vx_ot w = true
/-- at pc: new, dup, ldc, invokespecial, athrow -/
def ga_TH (own : String) (cc : ByteArray) (pc ex : Nat) : Prop := ¬ ex = 0 ∧ ∃ (ik is ic : Nat) (text : String), (own, is, text) ∈ ga_str ∧ ga_TW own ik ic ex ∧ decode cc pc = .ok (.new ik, 3) ∧ decode cc (pc + 3) = .ok (.dup, 1) ∧ decode cc (pc + 4) = .ok (.ldc is, 2) ∧ decode cc (pc + 6) = .ok (.invokespecial ic, 3) ∧ decode cc (pc + 9) = .ok (.athrow, 1)
/-- what an instruction of 'own' with number idx calls, by the tables' words: an instance method of the class at place ci -/
def ga_Y (own : String) (idx ci : Nat) (y : MethodName) (bytes : ByteArray) (maxL : Nat) (ret : Option FieldType) (n : Nat) : Prop := ci < 20 ∧ (∃ (Tb : u_T) (N : Nat), ga_cl[ci]? = some (y.cls, Tb, N)) ∧ Cond.methodLink own idx y ∈ ga_ws ∧ Cond.instanceMethod y ∈ ga_ws ∧ Cond.selects y.cls y y ∈ ga_ws ∧ Cond.initialized y.cls ∈ ga_ws ∧ Cond.code y bytes maxL ret ∈ ga_ws ∧ y.cls ≠ "java/lang/invoke/MethodHandle" ∧ y.cls ≠ "java/lang/invoke/VarHandle" ∧ (parseMethodDescriptor y.desc).map (fun d => d.parameters.length) = some n
/-- .. a static one -/
def ga_YS (own : String) (idx : Nat) (y : MethodName) (bytes : ByteArray) (maxL : Nat) (ret : Option FieldType) (n : Nat) : Prop := Cond.methodLink own idx y ∈ ga_ws ∧ Cond.static y ∈ ga_ws ∧ Cond.initialized y.cls ∈ ga_ws ∧ Cond.code y bytes maxL ret ∈ ga_ws ∧ y.cls ≠ "java/lang/invoke/MethodHandle" ∧ y.cls ≠ "java/lang/invoke/VarHandle" ∧ (parseMethodDescriptor y.desc).map (fun d => d.parameters.length) = some n
section GB
variable {p : Program} {l : Launch} {e : Env} {R : Room} {s : State} {m : MethodId} {args : Array Value} {below : List Frame} {meth : Method} {c : Code} {H : Heap} {locs : List Loc} {cells slots : Nat} {Q : State → Prop} {cc : ByteArray} {pc nL : Nat} {ls : Array Slot} {rest st0 : List Value} {own : String} {D : va_G} {T : Nat → ClassId} {z : Nat} {L : List Nat} {S : gS} {I I' : gMI} {J J' : gMJ} {y : MethodName} {bytes : ByteArray} {maxL n idx ci b : Nat} {ret : Option FieldType} {rm : Room} {As : List Value}
/-- a call of a method that may throw, with a reference or null back -/
theorem gx_callq {mc ms : Nat} {free : Addr → Prop} {A0 A1 : Nat → Prop} {H0 : Heap} {a : Array Value} {S SX : Type} {post : Option Nat → S → Prop} {px : SX → Prop} {B : S → State → Prop} {BX : String → SX → State → Prop} {AX : Nat → Prop} (hr : vx_Run p l e R s m args below meth c H locs cells slots mc ms (F0 m pc ls st0) rest (va_Qq post B A1 a) (vx_X px BX AX) free) (hS : va_S A0 H0 H locs) (hA : ∀ q, q < H.size → A1 q → A0 q) (hf : ∀ q, free q → A0 q) (hAX : ∀ q, q < H.size → AX q → A0 q)
    (kx : ∀ (E : String) (ce : Cell) (q9 : Addr) (u : SX) (t : State) (H1 : Heap) (locs1 : List Loc), t.heap = H1 → s.vm.Alike t.vm → px u → BX E u t → H.size ≤ H1.size → (∀ q : Nat, q < H.size → ¬ AX q → H1[q]? = H[q]?) → va_S A0 H0 H1 locs1 → H1[q9]? = some ce → ce.vm = .none → s.vm.findClass E = some ce.cls → vx_W p l e R s m args below meth c H1 locs1 (cells + mc) (slots + ms) Q (F0 m pc ls rest) q9)
    (kk : ∀ (r : Option Nat) (u : S) (t : State) (H1 : Heap) (locs1 : List Loc), t.heap = H1 → s.vm.Alike t.vm → post r u → B u t → H.size ≤ H1.size → (∀ q : Nat, q < H.size → ¬ A1 q → H1[q]? = H[q]?) → va_S A0 H0 H1 locs1 → W p l e R s m args below meth c H1 locs1 (cells + mc) (slots + ms) Q (F0 m (pc + 3) ls (va_rf r :: rest))) : W p l e R s m args below meth c H locs cells slots Q (F0 m pc ls st0) := by
  intro T hT X
  rcases hr T hT X with ⟨v, st₀, t, T', L, h0, X', hL, e1, e2, ⟨⟨r, u, hv, hp, hb⟩, hF⟩, st⟩ | ⟨q, st₀, t, T', L, E, ce, h0, X', hL, e1, e2, ⟨u, hp, hb, hF⟩, hce, hcv, hcl, st⟩
  · cases hv
    obtain ⟨k1, k2, k3⟩ := vx_keep h0 e1 hS hA hf hL hF
    obtain ⟨t2, a1, b1⟩ := kk r u t T'.heap (locs ++ L) e1.symm (by rw [← e2]; exact X'.warmed.alike) hp hb k1 k2 k3 T' rfl X'
    exact ⟨t2, st t2 a1, b1⟩
  · obtain ⟨k1, k2, k3⟩ := vx_keep h0 e1 hS hAX hf hL hF
    obtain ⟨t2, a1, b1⟩ := kx E ce q u t T'.heap (locs ++ L) e1.symm (by rw [← e2]; exact X'.warmed.alike) hp hb k1 k2 k3 (by rw [e1]; exact hce) hcv hcl T' rfl X'
    exact ⟨t2, st.trans a1, b1⟩
/-- every word of ga_ws is good (ga_ok), so each method's words lie in every other's -/
theorem ga_goodV (hy : ga_Y own idx ci y bytes maxL ret n) : GoodIn ga_ws (wsV own idx y.cls y (.code y bytes maxL ret :: ga_ws)) := by
  obtain ⟨-, -, h1, h2, h3, h4, h5, -⟩ := hy
  intro w hw
  have hm : w ∈ ga_ws := by
    rcases List.mem_append.mp hw with h | h
    · simp only [List.mem_cons, List.not_mem_nil, or_false] at h
      rcases h with rfl | rfl | rfl | rfl
      · exact h1
      · exact h2
      · exact h3
      · exact h4
    · rcases List.mem_cons.mp h with rfl | h
      · exact h5
      · exact h
  exact ⟨hm, good_of_word (ga_ok w hm)⟩
theorem ga_goodS (hy : ga_YS own idx y bytes maxL ret n) : GoodIn ga_ws (va_wsS own idx y (.code y bytes maxL ret :: ga_ws)) := by
  obtain ⟨h1, h2, h3, h4, -⟩ := hy
  intro w hw
  have hm : w ∈ ga_ws := by
    rcases List.mem_append.mp hw with h | h
    · simp only [List.mem_cons, List.not_mem_nil, or_false] at h
      rcases h with rfl | rfl | rfl
      · exact h1
      · exact h2
      · exact h3
    · rcases List.mem_cons.mp h with rfl | h
      · exact h4
      · exact h
  exact ⟨hm, good_of_word (ga_ok w hm)⟩
theorem ga_cVi {r : Int32} (C : CallFix p m c cc nL s args ga_ws own) (hw : ga_W D T z L S I J s H locs) (hM : ga_Mi l y bytes maxL ret rm (.ref b :: As) D T z L S I J r I' J') (hy : ga_Y own idx ci y bytes maxL ret n) (hb : S.1 b = ci + 1) (hn : As.length = n) (hsz : ls.size = nL) (hR : rm.frames + 1 ≤ R.frames ∧ 8 + (maxL + 11) + rm.locals ≤ R.locals ∧ rm.cells = 0 ∧ rm.slots = 0 ∧ cells ≤ R.cells ∧ slots ≤ R.slots) (hrest : (rest.map fun v => v.category).sum ≤ 8) (hst : st0 = As.reverse ++ .ref b :: rest) (hdg : decode cc pc = .ok (.invokevirtual idx, 3))
    (kk : ∀ (H1 : Heap) (locs1 : List Loc), ga_W D T z L S I' J' s H1 locs1 → W p l e R s m args below meth c H1 locs1 cells slots Q (F0 m (pc + 3) ls (.int r :: rest))) : W p l e R s m args below meth c H locs cells slots Q (F0 m pc ls st0) := by
  have hy' := hy
  obtain ⟨hci, ⟨Tb, N, hcl⟩, -, -, -, -, -, h6, h7, h8⟩ := hy'
  refine va_calli (va_runV (As := As) (rest := rest) C hM (cwV n C.2.2.2.2 (ga_goodV hy) rfl hR.2.2.1 hR.2.2.2.1 ⟨rfl, h6, h7, h8⟩ ⟨hR.1, hR.2.1⟩) (ga_preV hw hb hci hcl As) rfl hn hsz hst (lv_room hrest) hdg ⟨hR.2.2.2.2.1, hR.2.2.2.2.2⟩) hw.2.2.2.1 (fun q _ h => h) (fun q h => h) (fun r' u t H1 locs1 ht hvm hr hB _ _ hS => ?_)
  subst hr
  exact kk H1 locs1 (ga_out hw ht hS hB)
theorem ga_xVi {ex : Nat} {r : Int32} (C : CallFix p m c cc nL s args ga_ws own) (hw : ga_W D T z L S I J s H locs) (hM : ga_Xi l y bytes maxL ret rm (.ref b :: As) D T z L S I J ex r I' J') (hy : ga_Y own idx ci y bytes maxL ret n) (hb : S.1 b = ci + 1) (hn : As.length = n) (hsz : ls.size = nL) (hR : rm.frames + 1 ≤ R.frames ∧ 8 + (maxL + 11) + rm.locals ≤ R.locals ∧ cells + rm.cells ≤ R.cells ∧ slots + rm.slots ≤ R.slots) (hrest : (rest.map fun v => v.category).sum ≤ 8) (hst : st0 = As.reverse ++ .ref b :: rest) (hdg : decode cc pc = .ok (.invokevirtual idx, 3))
    (kx : ¬ ex = 0 → ∀ (ce : Cell) (q9 : Addr) (H1 : Heap) (locs1 : List Loc), ga_W D T z L S I' J' s H1 locs1 → H1[q9]? = some ce → ce.vm = .none → s.vm.findClass (ga_ex ex) = some ce.cls → vx_W p l e R s m args below meth c H1 locs1 (cells + rm.cells) (slots + rm.slots) Q (F0 m pc ls rest) q9)
    (kk : ex = 0 → ∀ (H1 : Heap) (locs1 : List Loc), ga_W D T z L S I' J' s H1 locs1 → W p l e R s m args below meth c H1 locs1 (cells + rm.cells) (slots + rm.slots) Q (F0 m (pc + 3) ls (.int r :: rest))) : W p l e R s m args below meth c H locs cells slots Q (F0 m pc ls st0) := by
  have hy' := hy
  obtain ⟨hci, ⟨Tb, N, hcl⟩, -, -, -, -, -, h6, h7, h8⟩ := hy'
  refine vx_calli (vx_runV (As := As) (rest := rest) C hM (cwV n C.2.2.2.2 (ga_goodV hy) rfl rfl rfl ⟨rfl, h6, h7, h8⟩ ⟨hR.1, hR.2.1⟩) (ga_preV hw hb hci hcl As) rfl hn hsz hst (lv_room hrest) hdg ⟨hR.2.2.1, hR.2.2.2⟩) hw.2.2.2.1 (fun q _ h => h) (fun q h => h) (fun q _ h => h) (fun E ce q9 u t H1 locs1 ht hvm hp hB _ _ hS hc hv hcl => ?_) (fun r' u t H1 locs1 ht hvm hr hB _ _ hS => ?_)
  · obtain ⟨rfl, hB⟩ := hB
    exact kx hp ce q9 H1 locs1 (ga_out hw ht hS hB) hc hv hcl
  · obtain ⟨h0, rfl⟩ := hr
    exact kk h0 H1 locs1 (ga_out hw ht hS hB)
theorem ga_cSi {r : Int32} (C : CallFix p m c cc nL s args ga_ws own) (hw : ga_W D T z L S I J s H locs) (hM : ga_Mi l y bytes maxL ret rm As D T z L S I J r I' J') (hy : ga_YS own idx y bytes maxL ret n) (hn : As.length = n) (hsz : ls.size = nL) (hR : rm.frames + 1 ≤ R.frames ∧ 8 + (maxL + 11) + rm.locals ≤ R.locals ∧ rm.cells = 0 ∧ rm.slots = 0 ∧ cells ≤ R.cells ∧ slots ≤ R.slots) (hrest : (rest.map fun v => v.category).sum ≤ 8) (hst : st0 = As.reverse ++ rest) (hdg : decode cc pc = .ok (.invokestatic idx, 3))
    (kk : ∀ (H1 : Heap) (locs1 : List Loc), ga_W D T z L S I' J' s H1 locs1 → W p l e R s m args below meth c H1 locs1 cells slots Q (F0 m (pc + 3) ls (.int r :: rest))) : W p l e R s m args below meth c H locs cells slots Q (F0 m pc ls st0) := by
  have hy' := hy
  obtain ⟨-, -, -, -, h6, h7, h8⟩ := hy'
  refine va_calli (va_runS (As := As) (rest := rest) C hM (va_cwS n C.2.2.2.2 (ga_goodS hy) rfl hR.2.2.1 hR.2.2.2.1 ⟨h6, h7, h8⟩ ⟨hR.1, hR.2.1⟩) (ga_pre hw As) rfl hn hsz hst (lv_room hrest) hdg ⟨hR.2.2.2.2.1, hR.2.2.2.2.2⟩) hw.2.2.2.1 (fun q _ h => h) (fun q h => h) (fun r' u t H1 locs1 ht hvm hr hB _ _ hS => ?_)
  subst hr
  exact kk H1 locs1 (ga_out hw ht hS hB)
theorem ga_xSi {ex : Nat} {r : Int32} (C : CallFix p m c cc nL s args ga_ws own) (hw : ga_W D T z L S I J s H locs) (hM : ga_Xi l y bytes maxL ret rm As D T z L S I J ex r I' J') (hy : ga_YS own idx y bytes maxL ret n) (hn : As.length = n) (hsz : ls.size = nL) (hR : rm.frames + 1 ≤ R.frames ∧ 8 + (maxL + 11) + rm.locals ≤ R.locals ∧ cells + rm.cells ≤ R.cells ∧ slots + rm.slots ≤ R.slots) (hrest : (rest.map fun v => v.category).sum ≤ 8) (hst : st0 = As.reverse ++ rest) (hdg : decode cc pc = .ok (.invokestatic idx, 3))
    (kx : ¬ ex = 0 → ∀ (ce : Cell) (q9 : Addr) (H1 : Heap) (locs1 : List Loc), ga_W D T z L S I' J' s H1 locs1 → H1[q9]? = some ce → ce.vm = .none → s.vm.findClass (ga_ex ex) = some ce.cls → vx_W p l e R s m args below meth c H1 locs1 (cells + rm.cells) (slots + rm.slots) Q (F0 m pc ls rest) q9)
    (kk : ex = 0 → ∀ (H1 : Heap) (locs1 : List Loc), ga_W D T z L S I' J' s H1 locs1 → W p l e R s m args below meth c H1 locs1 (cells + rm.cells) (slots + rm.slots) Q (F0 m (pc + 3) ls (.int r :: rest))) : W p l e R s m args below meth c H locs cells slots Q (F0 m pc ls st0) := by
  have hy' := hy
  obtain ⟨-, -, -, -, h6, h7, h8⟩ := hy'
  refine vx_calli (vx_runS (As := As) (rest := rest) C hM (va_cwS n C.2.2.2.2 (ga_goodS hy) rfl rfl rfl ⟨h6, h7, h8⟩ ⟨hR.1, hR.2.1⟩) (ga_pre hw As) rfl hn hsz hst (lv_room hrest) hdg ⟨hR.2.2.1, hR.2.2.2⟩) hw.2.2.2.1 (fun q _ h => h) (fun q h => h) (fun q _ h => h) (fun E ce q9 u t H1 locs1 ht hvm hp hB _ _ hS hc hv hcl => ?_) (fun r' u t H1 locs1 ht hvm hr hB _ _ hS => ?_)
  · obtain ⟨rfl, hB⟩ := hB
    exact kx hp ce q9 H1 locs1 (ga_out hw ht hS hB) hc hv hcl
  · obtain ⟨h0, rfl⟩ := hr
    exact kk h0 H1 locs1 (ga_out hw ht hS hB)
theorem ga_cVl {r : Int64} (C : CallFix p m c cc nL s args ga_ws own) (hw : ga_W D T z L S I J s H locs) (hM : ga_Ml l y bytes maxL ret rm (.ref b :: As) D T z L S I J r I' J') (hy : ga_Y own idx ci y bytes maxL ret n) (hb : S.1 b = ci + 1) (hn : As.length = n) (hsz : ls.size = nL) (hR : rm.frames + 1 ≤ R.frames ∧ 8 + (maxL + 11) + rm.locals ≤ R.locals ∧ rm.cells = 0 ∧ rm.slots = 0 ∧ cells ≤ R.cells ∧ slots ≤ R.slots) (hrest : (rest.map fun v => v.category).sum ≤ 8) (hst : st0 = As.reverse ++ .ref b :: rest) (hdg : decode cc pc = .ok (.invokevirtual idx, 3))
    (kk : ∀ (H1 : Heap) (locs1 : List Loc), ga_W D T z L S I' J' s H1 locs1 → W p l e R s m args below meth c H1 locs1 cells slots Q (F0 m (pc + 3) ls (.long r :: rest))) : W p l e R s m args below meth c H locs cells slots Q (F0 m pc ls st0) := by
  have hy' := hy
  obtain ⟨hci, ⟨Tb, N, hcl⟩, -, -, -, -, -, h6, h7, h8⟩ := hy'
  refine va_calll (va_runV (As := As) (rest := rest) C hM (cwV n C.2.2.2.2 (ga_goodV hy) rfl hR.2.2.1 hR.2.2.2.1 ⟨rfl, h6, h7, h8⟩ ⟨hR.1, hR.2.1⟩) (ga_preV hw hb hci hcl As) rfl hn hsz hst (lv_room hrest) hdg ⟨hR.2.2.2.2.1, hR.2.2.2.2.2⟩) hw.2.2.2.1 (fun q _ h => h) (fun q h => h) (fun r' u t H1 locs1 ht hvm hr hB _ _ hS => ?_)
  subst hr
  exact kk H1 locs1 (ga_out hw ht hS hB)
theorem ga_xVl {ex : Nat} {r : Int64} (C : CallFix p m c cc nL s args ga_ws own) (hw : ga_W D T z L S I J s H locs) (hM : ga_Xl l y bytes maxL ret rm (.ref b :: As) D T z L S I J ex r I' J') (hy : ga_Y own idx ci y bytes maxL ret n) (hb : S.1 b = ci + 1) (hn : As.length = n) (hsz : ls.size = nL) (hR : rm.frames + 1 ≤ R.frames ∧ 8 + (maxL + 11) + rm.locals ≤ R.locals ∧ cells + rm.cells ≤ R.cells ∧ slots + rm.slots ≤ R.slots) (hrest : (rest.map fun v => v.category).sum ≤ 8) (hst : st0 = As.reverse ++ .ref b :: rest) (hdg : decode cc pc = .ok (.invokevirtual idx, 3))
    (kx : ¬ ex = 0 → ∀ (ce : Cell) (q9 : Addr) (H1 : Heap) (locs1 : List Loc), ga_W D T z L S I' J' s H1 locs1 → H1[q9]? = some ce → ce.vm = .none → s.vm.findClass (ga_ex ex) = some ce.cls → vx_W p l e R s m args below meth c H1 locs1 (cells + rm.cells) (slots + rm.slots) Q (F0 m pc ls rest) q9)
    (kk : ex = 0 → ∀ (H1 : Heap) (locs1 : List Loc), ga_W D T z L S I' J' s H1 locs1 → W p l e R s m args below meth c H1 locs1 (cells + rm.cells) (slots + rm.slots) Q (F0 m (pc + 3) ls (.long r :: rest))) : W p l e R s m args below meth c H locs cells slots Q (F0 m pc ls st0) := by
  have hy' := hy
  obtain ⟨hci, ⟨Tb, N, hcl⟩, -, -, -, -, -, h6, h7, h8⟩ := hy'
  refine vx_calll (vx_runV (As := As) (rest := rest) C hM (cwV n C.2.2.2.2 (ga_goodV hy) rfl rfl rfl ⟨rfl, h6, h7, h8⟩ ⟨hR.1, hR.2.1⟩) (ga_preV hw hb hci hcl As) rfl hn hsz hst (lv_room hrest) hdg ⟨hR.2.2.1, hR.2.2.2⟩) hw.2.2.2.1 (fun q _ h => h) (fun q h => h) (fun q _ h => h) (fun E ce q9 u t H1 locs1 ht hvm hp hB _ _ hS hc hv hcl => ?_) (fun r' u t H1 locs1 ht hvm hr hB _ _ hS => ?_)
  · obtain ⟨rfl, hB⟩ := hB
    exact kx hp ce q9 H1 locs1 (ga_out hw ht hS hB) hc hv hcl
  · obtain ⟨h0, rfl⟩ := hr
    exact kk h0 H1 locs1 (ga_out hw ht hS hB)
theorem ga_cSl {r : Int64} (C : CallFix p m c cc nL s args ga_ws own) (hw : ga_W D T z L S I J s H locs) (hM : ga_Ml l y bytes maxL ret rm As D T z L S I J r I' J') (hy : ga_YS own idx y bytes maxL ret n) (hn : As.length = n) (hsz : ls.size = nL) (hR : rm.frames + 1 ≤ R.frames ∧ 8 + (maxL + 11) + rm.locals ≤ R.locals ∧ rm.cells = 0 ∧ rm.slots = 0 ∧ cells ≤ R.cells ∧ slots ≤ R.slots) (hrest : (rest.map fun v => v.category).sum ≤ 8) (hst : st0 = As.reverse ++ rest) (hdg : decode cc pc = .ok (.invokestatic idx, 3))
    (kk : ∀ (H1 : Heap) (locs1 : List Loc), ga_W D T z L S I' J' s H1 locs1 → W p l e R s m args below meth c H1 locs1 cells slots Q (F0 m (pc + 3) ls (.long r :: rest))) : W p l e R s m args below meth c H locs cells slots Q (F0 m pc ls st0) := by
  have hy' := hy
  obtain ⟨-, -, -, -, h6, h7, h8⟩ := hy'
  refine va_calll (va_runS (As := As) (rest := rest) C hM (va_cwS n C.2.2.2.2 (ga_goodS hy) rfl hR.2.2.1 hR.2.2.2.1 ⟨h6, h7, h8⟩ ⟨hR.1, hR.2.1⟩) (ga_pre hw As) rfl hn hsz hst (lv_room hrest) hdg ⟨hR.2.2.2.2.1, hR.2.2.2.2.2⟩) hw.2.2.2.1 (fun q _ h => h) (fun q h => h) (fun r' u t H1 locs1 ht hvm hr hB _ _ hS => ?_)
  subst hr
  exact kk H1 locs1 (ga_out hw ht hS hB)
theorem ga_xSl {ex : Nat} {r : Int64} (C : CallFix p m c cc nL s args ga_ws own) (hw : ga_W D T z L S I J s H locs) (hM : ga_Xl l y bytes maxL ret rm As D T z L S I J ex r I' J') (hy : ga_YS own idx y bytes maxL ret n) (hn : As.length = n) (hsz : ls.size = nL) (hR : rm.frames + 1 ≤ R.frames ∧ 8 + (maxL + 11) + rm.locals ≤ R.locals ∧ cells + rm.cells ≤ R.cells ∧ slots + rm.slots ≤ R.slots) (hrest : (rest.map fun v => v.category).sum ≤ 8) (hst : st0 = As.reverse ++ rest) (hdg : decode cc pc = .ok (.invokestatic idx, 3))
    (kx : ¬ ex = 0 → ∀ (ce : Cell) (q9 : Addr) (H1 : Heap) (locs1 : List Loc), ga_W D T z L S I' J' s H1 locs1 → H1[q9]? = some ce → ce.vm = .none → s.vm.findClass (ga_ex ex) = some ce.cls → vx_W p l e R s m args below meth c H1 locs1 (cells + rm.cells) (slots + rm.slots) Q (F0 m pc ls rest) q9)
    (kk : ex = 0 → ∀ (H1 : Heap) (locs1 : List Loc), ga_W D T z L S I' J' s H1 locs1 → W p l e R s m args below meth c H1 locs1 (cells + rm.cells) (slots + rm.slots) Q (F0 m (pc + 3) ls (.long r :: rest))) : W p l e R s m args below meth c H locs cells slots Q (F0 m pc ls st0) := by
  have hy' := hy
  obtain ⟨-, -, -, -, h6, h7, h8⟩ := hy'
  refine vx_calll (vx_runS (As := As) (rest := rest) C hM (va_cwS n C.2.2.2.2 (ga_goodS hy) rfl rfl rfl ⟨h6, h7, h8⟩ ⟨hR.1, hR.2.1⟩) (ga_pre hw As) rfl hn hsz hst (lv_room hrest) hdg ⟨hR.2.2.1, hR.2.2.2⟩) hw.2.2.2.1 (fun q _ h => h) (fun q h => h) (fun q _ h => h) (fun E ce q9 u t H1 locs1 ht hvm hp hB _ _ hS hc hv hcl => ?_) (fun r' u t H1 locs1 ht hvm hr hB _ _ hS => ?_)
  · obtain ⟨rfl, hB⟩ := hB
    exact kx hp ce q9 H1 locs1 (ga_out hw ht hS hB) hc hv hcl
  · obtain ⟨h0, rfl⟩ := hr
    exact kk h0 H1 locs1 (ga_out hw ht hS hB)
theorem ga_cVq {r : Option Nat} (C : CallFix p m c cc nL s args ga_ws own) (hw : ga_W D T z L S I J s H locs) (hM : ga_Mq l y bytes maxL ret rm (.ref b :: As) D T z L S I J r I' J') (hy : ga_Y own idx ci y bytes maxL ret n) (hb : S.1 b = ci + 1) (hn : As.length = n) (hsz : ls.size = nL) (hR : rm.frames + 1 ≤ R.frames ∧ 8 + (maxL + 11) + rm.locals ≤ R.locals ∧ rm.cells = 0 ∧ rm.slots = 0 ∧ cells ≤ R.cells ∧ slots ≤ R.slots) (hrest : (rest.map fun v => v.category).sum ≤ 8) (hst : st0 = As.reverse ++ .ref b :: rest) (hdg : decode cc pc = .ok (.invokevirtual idx, 3))
    (kk : ∀ (H1 : Heap) (locs1 : List Loc), ga_W D T z L S I' J' s H1 locs1 → W p l e R s m args below meth c H1 locs1 cells slots Q (F0 m (pc + 3) ls (va_rf r :: rest))) : W p l e R s m args below meth c H locs cells slots Q (F0 m pc ls st0) := by
  have hy' := hy
  obtain ⟨hci, ⟨Tb, N, hcl⟩, -, -, -, -, -, h6, h7, h8⟩ := hy'
  refine va_callq (va_runV (As := As) (rest := rest) C hM (cwV n C.2.2.2.2 (ga_goodV hy) rfl hR.2.2.1 hR.2.2.2.1 ⟨rfl, h6, h7, h8⟩ ⟨hR.1, hR.2.1⟩) (ga_preV hw hb hci hcl As) rfl hn hsz hst (lv_room hrest) hdg ⟨hR.2.2.2.2.1, hR.2.2.2.2.2⟩) hw.2.2.2.1 (fun q _ h => h) (fun q h => h) (fun r' u t H1 locs1 ht hvm hr hB _ _ hS => ?_)
  subst hr
  exact kk H1 locs1 (ga_out hw ht hS hB)
theorem ga_xVq {ex : Nat} {r : Option Nat} (C : CallFix p m c cc nL s args ga_ws own) (hw : ga_W D T z L S I J s H locs) (hM : ga_Xq l y bytes maxL ret rm (.ref b :: As) D T z L S I J ex r I' J') (hy : ga_Y own idx ci y bytes maxL ret n) (hb : S.1 b = ci + 1) (hn : As.length = n) (hsz : ls.size = nL) (hR : rm.frames + 1 ≤ R.frames ∧ 8 + (maxL + 11) + rm.locals ≤ R.locals ∧ cells + rm.cells ≤ R.cells ∧ slots + rm.slots ≤ R.slots) (hrest : (rest.map fun v => v.category).sum ≤ 8) (hst : st0 = As.reverse ++ .ref b :: rest) (hdg : decode cc pc = .ok (.invokevirtual idx, 3))
    (kx : ¬ ex = 0 → ∀ (ce : Cell) (q9 : Addr) (H1 : Heap) (locs1 : List Loc), ga_W D T z L S I' J' s H1 locs1 → H1[q9]? = some ce → ce.vm = .none → s.vm.findClass (ga_ex ex) = some ce.cls → vx_W p l e R s m args below meth c H1 locs1 (cells + rm.cells) (slots + rm.slots) Q (F0 m pc ls rest) q9)
    (kk : ex = 0 → ∀ (H1 : Heap) (locs1 : List Loc), ga_W D T z L S I' J' s H1 locs1 → W p l e R s m args below meth c H1 locs1 (cells + rm.cells) (slots + rm.slots) Q (F0 m (pc + 3) ls (va_rf r :: rest))) : W p l e R s m args below meth c H locs cells slots Q (F0 m pc ls st0) := by
  have hy' := hy
  obtain ⟨hci, ⟨Tb, N, hcl⟩, -, -, -, -, -, h6, h7, h8⟩ := hy'
  refine gx_callq (vx_runV (As := As) (rest := rest) C hM (cwV n C.2.2.2.2 (ga_goodV hy) rfl rfl rfl ⟨rfl, h6, h7, h8⟩ ⟨hR.1, hR.2.1⟩) (ga_preV hw hb hci hcl As) rfl hn hsz hst (lv_room hrest) hdg ⟨hR.2.2.1, hR.2.2.2⟩) hw.2.2.2.1 (fun q _ h => h) (fun q h => h) (fun q _ h => h) (fun E ce q9 u t H1 locs1 ht hvm hp hB _ _ hS hc hv hcl => ?_) (fun r' u t H1 locs1 ht hvm hr hB _ _ hS => ?_)
  · obtain ⟨rfl, hB⟩ := hB
    exact kx hp ce q9 H1 locs1 (ga_out hw ht hS hB) hc hv hcl
  · obtain ⟨h0, rfl⟩ := hr
    exact kk h0 H1 locs1 (ga_out hw ht hS hB)
theorem ga_cSq {r : Option Nat} (C : CallFix p m c cc nL s args ga_ws own) (hw : ga_W D T z L S I J s H locs) (hM : ga_Mq l y bytes maxL ret rm As D T z L S I J r I' J') (hy : ga_YS own idx y bytes maxL ret n) (hn : As.length = n) (hsz : ls.size = nL) (hR : rm.frames + 1 ≤ R.frames ∧ 8 + (maxL + 11) + rm.locals ≤ R.locals ∧ rm.cells = 0 ∧ rm.slots = 0 ∧ cells ≤ R.cells ∧ slots ≤ R.slots) (hrest : (rest.map fun v => v.category).sum ≤ 8) (hst : st0 = As.reverse ++ rest) (hdg : decode cc pc = .ok (.invokestatic idx, 3))
    (kk : ∀ (H1 : Heap) (locs1 : List Loc), ga_W D T z L S I' J' s H1 locs1 → W p l e R s m args below meth c H1 locs1 cells slots Q (F0 m (pc + 3) ls (va_rf r :: rest))) : W p l e R s m args below meth c H locs cells slots Q (F0 m pc ls st0) := by
  have hy' := hy
  obtain ⟨-, -, -, -, h6, h7, h8⟩ := hy'
  refine va_callq (va_runS (As := As) (rest := rest) C hM (va_cwS n C.2.2.2.2 (ga_goodS hy) rfl hR.2.2.1 hR.2.2.2.1 ⟨h6, h7, h8⟩ ⟨hR.1, hR.2.1⟩) (ga_pre hw As) rfl hn hsz hst (lv_room hrest) hdg ⟨hR.2.2.2.2.1, hR.2.2.2.2.2⟩) hw.2.2.2.1 (fun q _ h => h) (fun q h => h) (fun r' u t H1 locs1 ht hvm hr hB _ _ hS => ?_)
  subst hr
  exact kk H1 locs1 (ga_out hw ht hS hB)
theorem ga_xSq {ex : Nat} {r : Option Nat} (C : CallFix p m c cc nL s args ga_ws own) (hw : ga_W D T z L S I J s H locs) (hM : ga_Xq l y bytes maxL ret rm As D T z L S I J ex r I' J') (hy : ga_YS own idx y bytes maxL ret n) (hn : As.length = n) (hsz : ls.size = nL) (hR : rm.frames + 1 ≤ R.frames ∧ 8 + (maxL + 11) + rm.locals ≤ R.locals ∧ cells + rm.cells ≤ R.cells ∧ slots + rm.slots ≤ R.slots) (hrest : (rest.map fun v => v.category).sum ≤ 8) (hst : st0 = As.reverse ++ rest) (hdg : decode cc pc = .ok (.invokestatic idx, 3))
    (kx : ¬ ex = 0 → ∀ (ce : Cell) (q9 : Addr) (H1 : Heap) (locs1 : List Loc), ga_W D T z L S I' J' s H1 locs1 → H1[q9]? = some ce → ce.vm = .none → s.vm.findClass (ga_ex ex) = some ce.cls → vx_W p l e R s m args below meth c H1 locs1 (cells + rm.cells) (slots + rm.slots) Q (F0 m pc ls rest) q9)
    (kk : ex = 0 → ∀ (H1 : Heap) (locs1 : List Loc), ga_W D T z L S I' J' s H1 locs1 → W p l e R s m args below meth c H1 locs1 (cells + rm.cells) (slots + rm.slots) Q (F0 m (pc + 3) ls (va_rf r :: rest))) : W p l e R s m args below meth c H locs cells slots Q (F0 m pc ls st0) := by
  have hy' := hy
  obtain ⟨-, -, -, -, h6, h7, h8⟩ := hy'
  refine gx_callq (vx_runS (As := As) (rest := rest) C hM (va_cwS n C.2.2.2.2 (ga_goodS hy) rfl rfl rfl ⟨h6, h7, h8⟩ ⟨hR.1, hR.2.1⟩) (ga_pre hw As) rfl hn hsz hst (lv_room hrest) hdg ⟨hR.2.2.1, hR.2.2.2⟩) hw.2.2.2.1 (fun q _ h => h) (fun q h => h) (fun q _ h => h) (fun E ce q9 u t H1 locs1 ht hvm hp hB _ _ hS hc hv hcl => ?_) (fun r' u t H1 locs1 ht hvm hr hB _ _ hS => ?_)
  · obtain ⟨rfl, hB⟩ := hB
    exact kx hp ce q9 H1 locs1 (ga_out hw ht hS hB) hc hv hcl
  · obtain ⟨h0, rfl⟩ := hr
    exact kk h0 H1 locs1 (ga_out hw ht hS hB)
theorem ga_cVv (C : CallFix p m c cc nL s args ga_ws own) (hw : ga_W D T z L S I J s H locs) (hM : ga_Mv l y bytes maxL ret rm (.ref b :: As) D T z L S I J I' J') (hy : ga_Y own idx ci y bytes maxL ret n) (hb : S.1 b = ci + 1) (hn : As.length = n) (hsz : ls.size = nL) (hR : rm.frames + 1 ≤ R.frames ∧ 8 + (maxL + 11) + rm.locals ≤ R.locals ∧ rm.cells = 0 ∧ rm.slots = 0 ∧ cells ≤ R.cells ∧ slots ≤ R.slots) (hrest : (rest.map fun v => v.category).sum ≤ 8) (hst : st0 = As.reverse ++ .ref b :: rest) (hdg : decode cc pc = .ok (.invokevirtual idx, 3))
    (kk : ∀ (H1 : Heap) (locs1 : List Loc), ga_W D T z L S I' J' s H1 locs1 → W p l e R s m args below meth c H1 locs1 cells slots Q (F0 m (pc + 3) ls (rest))) : W p l e R s m args below meth c H locs cells slots Q (F0 m pc ls st0) := by
  have hy' := hy
  obtain ⟨hci, ⟨Tb, N, hcl⟩, -, -, -, -, -, h6, h7, h8⟩ := hy'
  refine va_callv (va_runV (As := As) (rest := rest) C hM (cwV n C.2.2.2.2 (ga_goodV hy) rfl hR.2.2.1 hR.2.2.2.1 ⟨rfl, h6, h7, h8⟩ ⟨hR.1, hR.2.1⟩) (ga_preV hw hb hci hcl As) rfl hn hsz hst (lv_room hrest) hdg ⟨hR.2.2.2.2.1, hR.2.2.2.2.2⟩) hw.2.2.2.1 (fun q _ h => h) (fun q h => h) (fun u t H1 locs1 ht hvm hr hB _ _ hS => ?_)
  exact kk H1 locs1 (ga_out hw ht hS hB)
theorem ga_xVv {ex : Nat} (C : CallFix p m c cc nL s args ga_ws own) (hw : ga_W D T z L S I J s H locs) (hM : ga_Xv l y bytes maxL ret rm (.ref b :: As) D T z L S I J ex I' J') (hy : ga_Y own idx ci y bytes maxL ret n) (hb : S.1 b = ci + 1) (hn : As.length = n) (hsz : ls.size = nL) (hR : rm.frames + 1 ≤ R.frames ∧ 8 + (maxL + 11) + rm.locals ≤ R.locals ∧ cells + rm.cells ≤ R.cells ∧ slots + rm.slots ≤ R.slots) (hrest : (rest.map fun v => v.category).sum ≤ 8) (hst : st0 = As.reverse ++ .ref b :: rest) (hdg : decode cc pc = .ok (.invokevirtual idx, 3))
    (kx : ¬ ex = 0 → ∀ (ce : Cell) (q9 : Addr) (H1 : Heap) (locs1 : List Loc), ga_W D T z L S I' J' s H1 locs1 → H1[q9]? = some ce → ce.vm = .none → s.vm.findClass (ga_ex ex) = some ce.cls → vx_W p l e R s m args below meth c H1 locs1 (cells + rm.cells) (slots + rm.slots) Q (F0 m pc ls rest) q9)
    (kk : ex = 0 → ∀ (H1 : Heap) (locs1 : List Loc), ga_W D T z L S I' J' s H1 locs1 → W p l e R s m args below meth c H1 locs1 (cells + rm.cells) (slots + rm.slots) Q (F0 m (pc + 3) ls (rest))) : W p l e R s m args below meth c H locs cells slots Q (F0 m pc ls st0) := by
  have hy' := hy
  obtain ⟨hci, ⟨Tb, N, hcl⟩, -, -, -, -, -, h6, h7, h8⟩ := hy'
  refine vx_callv (vx_runV (As := As) (rest := rest) C hM (cwV n C.2.2.2.2 (ga_goodV hy) rfl rfl rfl ⟨rfl, h6, h7, h8⟩ ⟨hR.1, hR.2.1⟩) (ga_preV hw hb hci hcl As) rfl hn hsz hst (lv_room hrest) hdg ⟨hR.2.2.1, hR.2.2.2⟩) hw.2.2.2.1 (fun q _ h => h) (fun q h => h) (fun q _ h => h) (fun E ce q9 u t H1 locs1 ht hvm hp hB _ _ hS hc hv hcl => ?_) (fun u t H1 locs1 ht hvm hr hB _ _ hS => ?_)
  · obtain ⟨rfl, hB⟩ := hB
    exact kx hp ce q9 H1 locs1 (ga_out hw ht hS hB) hc hv hcl
  · have h0 := hr
    exact kk h0 H1 locs1 (ga_out hw ht hS hB)
theorem ga_cSv (C : CallFix p m c cc nL s args ga_ws own) (hw : ga_W D T z L S I J s H locs) (hM : ga_Mv l y bytes maxL ret rm As D T z L S I J I' J') (hy : ga_YS own idx y bytes maxL ret n) (hn : As.length = n) (hsz : ls.size = nL) (hR : rm.frames + 1 ≤ R.frames ∧ 8 + (maxL + 11) + rm.locals ≤ R.locals ∧ rm.cells = 0 ∧ rm.slots = 0 ∧ cells ≤ R.cells ∧ slots ≤ R.slots) (hrest : (rest.map fun v => v.category).sum ≤ 8) (hst : st0 = As.reverse ++ rest) (hdg : decode cc pc = .ok (.invokestatic idx, 3))
    (kk : ∀ (H1 : Heap) (locs1 : List Loc), ga_W D T z L S I' J' s H1 locs1 → W p l e R s m args below meth c H1 locs1 cells slots Q (F0 m (pc + 3) ls (rest))) : W p l e R s m args below meth c H locs cells slots Q (F0 m pc ls st0) := by
  have hy' := hy
  obtain ⟨-, -, -, -, h6, h7, h8⟩ := hy'
  refine va_callv (va_runS (As := As) (rest := rest) C hM (va_cwS n C.2.2.2.2 (ga_goodS hy) rfl hR.2.2.1 hR.2.2.2.1 ⟨h6, h7, h8⟩ ⟨hR.1, hR.2.1⟩) (ga_pre hw As) rfl hn hsz hst (lv_room hrest) hdg ⟨hR.2.2.2.2.1, hR.2.2.2.2.2⟩) hw.2.2.2.1 (fun q _ h => h) (fun q h => h) (fun u t H1 locs1 ht hvm hr hB _ _ hS => ?_)
  exact kk H1 locs1 (ga_out hw ht hS hB)
theorem ga_xSv {ex : Nat} (C : CallFix p m c cc nL s args ga_ws own) (hw : ga_W D T z L S I J s H locs) (hM : ga_Xv l y bytes maxL ret rm As D T z L S I J ex I' J') (hy : ga_YS own idx y bytes maxL ret n) (hn : As.length = n) (hsz : ls.size = nL) (hR : rm.frames + 1 ≤ R.frames ∧ 8 + (maxL + 11) + rm.locals ≤ R.locals ∧ cells + rm.cells ≤ R.cells ∧ slots + rm.slots ≤ R.slots) (hrest : (rest.map fun v => v.category).sum ≤ 8) (hst : st0 = As.reverse ++ rest) (hdg : decode cc pc = .ok (.invokestatic idx, 3))
    (kx : ¬ ex = 0 → ∀ (ce : Cell) (q9 : Addr) (H1 : Heap) (locs1 : List Loc), ga_W D T z L S I' J' s H1 locs1 → H1[q9]? = some ce → ce.vm = .none → s.vm.findClass (ga_ex ex) = some ce.cls → vx_W p l e R s m args below meth c H1 locs1 (cells + rm.cells) (slots + rm.slots) Q (F0 m pc ls rest) q9)
    (kk : ex = 0 → ∀ (H1 : Heap) (locs1 : List Loc), ga_W D T z L S I' J' s H1 locs1 → W p l e R s m args below meth c H1 locs1 (cells + rm.cells) (slots + rm.slots) Q (F0 m (pc + 3) ls (rest))) : W p l e R s m args below meth c H locs cells slots Q (F0 m pc ls st0) := by
  have hy' := hy
  obtain ⟨-, -, -, -, h6, h7, h8⟩ := hy'
  refine vx_callv (vx_runS (As := As) (rest := rest) C hM (va_cwS n C.2.2.2.2 (ga_goodS hy) rfl rfl rfl ⟨h6, h7, h8⟩ ⟨hR.1, hR.2.1⟩) (ga_pre hw As) rfl hn hsz hst (lv_room hrest) hdg ⟨hR.2.2.1, hR.2.2.2⟩) hw.2.2.2.1 (fun q _ h => h) (fun q h => h) (fun q _ h => h) (fun E ce q9 u t H1 locs1 ht hvm hp hB _ _ hS hc hv hcl => ?_) (fun u t H1 locs1 ht hvm hr hB _ _ hS => ?_)
  · obtain ⟨rfl, hB⟩ := hB
    exact kx hp ce q9 H1 locs1 (ga_out hw ht hS hB) hc hv hcl
  · have h0 := hr
    exact kk h0 H1 locs1 (ga_out hw ht hS hB)
theorem ga_nwh {z : Nat} (hX : ga_X z s) : ∀ w ∈ ga_nw, w.before args s = true := by
  intro w hw
  obtain ⟨-, -, -, h4, h5, -⟩ := hX
  rcases List.mem_append.mp hw with h | h
  · obtain ⟨x, hx, rfl⟩ := List.mem_map.mp h
    exact va_Nw.use rfl (h4 x hx)
  · obtain ⟨q, hq, rfl⟩ := List.mem_map.mp h
    exact va_Nw.use rfl (h5 q hq)
theorem ga_throw {ex : Nat} {Qc : Array Value → State → Outcome → State → Prop} (C : CallFix p m c cc nL s args ga_ws own) (hl9 : l.stackTraces = false) (hno : ∀ x ∈ c.exceptionTable.toList, False) (hlocks : meth.locks = false) (hw : ga_W D T z L S I J s H locs) (ht : ga_TH own cc pc ex) (hsz : ls.size = nL) (hre : (rest.map fun v => v.category).sum ≤ 8) (hfr : 6 ≤ R.frames) (hlo : 90 ≤ R.locals) (hc : cells + 1 ≤ R.cells) (hs : slots + 6 ≤ R.slots) :
    W p l e R s m args below meth c H locs cells slots (vx_MQ below Qc (ga_XC ex D T z L S I J) args s R.cells R.slots (ga_A z)) (F0 m pc ls rest) := by
  obtain ⟨hne, ik, is, ic, text, hstr, ⟨hfit, hk, hini, hgw, hnw, hot⟩, d0, d3, d4, d6, d9⟩ := ht
  have hX := hw.2.2.2.2.2.2
  obtain ⟨sa, hsa⟩ := hX.2.2.1 _ hstr
  have hS := hw.2.2.2.1
  have hP := hw.1
  exact vx_throwS (own := own) (cls := ga_ex ex) (names := ga_exn) C.1 C.2.1 hl9 C.2.2.2.1 hfit (by decide +kernel) (C.2.2.2.2 _ hk) (C.2.2.2.2 _ hini) hsa
    (vx_hat (L := vx_atS own ic (ga_ex ex) ga_exn) (B := ga_nw) (fun w hw => C.2.2.2.2 _ (hgw w hw)) hnw (ga_nwh hX)) hot hX.1 hX.2.1 hS (hsz.trans C.2.2.1.symm) d0 d3 d4 d6 d9 (fun x hx => (hno x hx).elim)
    (Nat.lt_of_lt_of_le (by decide) hfr) (Nat.le_trans (Nat.add_le_add_right hre _) hlo) hc hs hlocks
    (fun t ha hsz hk => ⟨(), hne, ⟨rfl, hP.kept (fun k q hq => hk q.1 (hP k q hq).lt), hw.2.1, hw.2.2.2.2.1⟩, Nat.le_trans hS.1 hsz, fun q h1 h2 => (hk q (Nat.lt_of_lt_of_le h1 hS.1)).trans (hS.2.1 q h1 h2)⟩) hS.2.2 hc hs
end GB
