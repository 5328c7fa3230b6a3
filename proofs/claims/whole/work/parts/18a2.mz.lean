-- multianewarray of ints, eight rows of three: a row of our own, out of the model's instruction
section MZ
variable {p : Program} {l : Launch} {e : Env} {R : Room} {s : State} {m : MethodId} {args : Array Value} {below : List Frame} {meth : Method} {c : Code} {T S : State} {locs : List Loc} {cells slots : Nat} {cA cI : ClassId}
/-- the outer array, of rows from h + 1 on, once i of them lie in it -/
def mz_o (cA : ClassId) (h : Nat) : Nat → Cell
  | 0 => { cls := cA, slots := Array.replicate 8 .null, vm := .none }
  | i + 1 => (mz_o cA h i).setSlot i (.ref (h + 1 + i))
/-- a row of three -/
def mz_r (cI : ClassId) : Cell := { cls := cI, slots := Array.replicate 3 (.int 0), vm := .none }
/-- the state with i rows made -/
def mz_S (S : State) (cA cI : ClassId) : Nat → State
  | 0 => S.pushCell (mz_o cA S.heap.size 0)
  | i + 1 => ((mz_S S cA cI i).pushCell (mz_r cI)).setCell S.heap.size (mz_o cA S.heap.size (i + 1))
theorem mz_o_is (cA : ClassId) (h : Nat) : ∀ i, (mz_o cA h i).cls = cA ∧ (mz_o cA h i).vm = .none ∧ (mz_o cA h i).slots.size = 8
  | 0 => ⟨rfl, rfl, by simp [mz_o]⟩
  | i + 1 => by
    obtain ⟨h1, h2, h3⟩ := mz_o_is cA h i
    exact ⟨h1, h2, by rw [mz_o, Cell.setSlot, Array.size_setIfInBounds]; exact h3⟩
theorem mz_o_at (cA : ClassId) (h : Nat) : ∀ i j, j < 8 → (mz_o cA h i).slots[j]? = some (if j < i then .ref (h + 1 + j) else .null)
  | 0, j, hj => by simp [mz_o, hj]
  | i + 1, j, hj => by
    have h3 := (mz_o_is cA h i).2.2
    have ih := mz_o_at cA h i j hj
    rw [mz_o, Cell.setSlot, Array.getElem?_setIfInBounds]
    by_cases hij : i = j
    · subst hij
      rw [if_pos rfl, if_pos (by omega), if_pos (by omega)]
    · rw [if_neg hij, ih]
      by_cases hlt : j < i
      · rw [if_pos hlt, if_pos (by omega)]
      · rw [if_neg hlt, if_neg (by omega)]
theorem mz_S_is (S : State) (cA cI : ClassId) : ∀ i, (mz_S S cA cI i).heap.size = S.heap.size + 1 + i ∧ (mz_S S cA cI i).heap[S.heap.size]? = some (mz_o cA S.heap.size i)
    ∧ (∀ j, j < i → (mz_S S cA cI i).heap[S.heap.size + 1 + j]? = some (mz_r cI)) ∧ (∀ a, a < S.heap.size → (mz_S S cA cI i).heap[a]? = S.heap[a]?) ∧ (mz_S S cA cI i).vm = S.vm
  | 0 => by
    refine ⟨by show (S.heap.push _).size = _; rw [Array.size_push], by show (S.heap.push _)[_]? = _; rw [Array.getElem?_push_size], fun j hj => absurd hj (by omega), fun a ha => ?_, rfl⟩
    show (S.heap.push _)[a]? = _
    rw [Array.getElem?_push, if_neg (by omega)]
  | i + 1 => by
    obtain ⟨h1, h2, h3, h4, h5⟩ := mz_S_is S cA cI i
    have e1 : ∀ a, (mz_S S cA cI (i + 1)).heap[a]? = if S.heap.size = a then (if S.heap.size < S.heap.size + 1 + i + 1 then some (mz_o cA S.heap.size (i + 1)) else none) else if a = S.heap.size + 1 + i then some (mz_r cI) else (mz_S S cA cI i).heap[a]? := fun a => by
      show (((mz_S S cA cI i).heap.push (mz_r cI)).setIfInBounds S.heap.size _)[a]? = _
      rw [Array.getElem?_setIfInBounds, Array.size_push, h1, Array.getElem?_push, h1]
    refine ⟨?_, ?_, fun j hj => ?_, fun a ha => ?_, h5⟩
    · show (((mz_S S cA cI i).heap.push (mz_r cI)).setIfInBounds S.heap.size _).size = _
      rw [Array.size_setIfInBounds, Array.size_push, h1]
      omega
    · rw [e1, if_pos rfl, if_pos (by omega)]
    · rw [e1, if_neg (by omega)]
      by_cases hji : j = i
      · rw [if_pos (by omega)]
      · rw [if_neg (by omega)]
        exact h3 j (by omega)
    · rw [e1, if_neg (by omega), if_neg (by omega)]
      exact h4 a ha
theorem mz_S_top (S : State) (cA cI : ClassId) (f : JFrame) : ∀ i, mz_S (S.setTop f) cA cI i = (mz_S S cA cI i).setTop f
  | 0 => by simp only [mz_S, State.heap_setTop, State.pushCell_setTop]
  | i + 1 => by simp only [mz_S, mz_S_top S cA cI f i, State.heap_setTop, State.pushCell_setTop, State.setCell_setTop]
/-- the instruction's own loop -/
theorem mz_make {E : CtlPost} {d : Bool} {acts : List Action} {Q : Addr → Pre} {kA kI : Class} {c0 : ClassId} (hA : S.vm.classes[cA]? = some kA) (hkA : kA.kind = .array cI (.array .int)) (hI : S.vm.classes[cI]? = some kI) (hkI : kI.kind = .array c0 .int)
    (hl : 8 ≤ e.platform.arrayLengthLimit) (hh : 32 ≤ e.platform.maxHeapBytes) (hr0 : S.heap.size < e.platform.maxCells ∧ S.slotsUsed + 8 ≤ e.platform.maxSlots)
    (hr : ∀ i, i < 8 → (mz_S S cA cI i).heap.size < e.platform.maxCells ∧ (mz_S S cA cI i).slotsUsed + 3 ≤ e.platform.maxSlots)
    (hq : ∀ d' acts', Q S.heap.size d' acts' (mz_S S cA cI 8)) : wp (multianewarray.make cA [8, 3]) Q E e d acts S := by
  have n8 : ¬ (8 : Int32) < 0 := by decide
  have n3 : ¬ (3 : Int32) < 0 := by decide
  rw [multianewarray.make]
  simp only [wp_bind', n8, if_false, W.theClass, hA, Option.some.injEq, exists_eq_left', hkA]
  refine W.newArray_of (howMany := 8) hA hkA (by omega) (by show ¬ 8 * 4 > _; omega) hr0.1 hr0.2 rfl (fun acts1 => ?_)
  have e8 : (8 : Int32).toNatClampNeg = 8 := by decide
  have z8 : ((8 : Int32) == 0) = false := by decide
  simp only [e8, z8, Bool.false_eq_true, if_false, wp_bind', Std.Legacy.Range.forIn_eq_forIn_range', Std.Legacy.Range.size]
  refine wp_forIn_inv (fun rest S' => ∃ i, i ≤ 8 ∧ rest = List.range' i (8 - i) ∧ S' = mz_S S cA cI i) _ _ ⟨0, by omega, rfl, rfl⟩ ?_ ?_
  · rintro x rest S' d' acts' Q' ⟨i, hi, hx, rfl⟩ hk
    have hi8 : i < 8 := by
      rcases Nat.lt_or_ge i 8 with h | h
      · exact h
      · rw [show 8 - i = 0 by omega] at hx
        exact absurd hx (by simp)
    rw [show 8 - i = (8 - (i + 1)) + 1 by omega, List.range'_succ] at hx
    obtain ⟨rfl, rfl⟩ := List.cons.inj hx
    obtain ⟨f1, f2, f3, f4, f5⟩ := mz_S_is S cA cI x
    obtain ⟨o1, o2, o3⟩ := mz_o_is cA S.heap.size x
    rw [multianewarray.make]
    simp only [wp_bind', n3, if_false, W.theClass, f5, hI, Option.some.injEq, exists_eq_left', hkI]
    refine W.newArray_of (s := mz_S S cA cI x) (howMany := 3) (by rw [f5]; exact hI) hkI (by omega) (by show ¬ 3 * 4 > _; omega) (hr x hi8).1 (hr x hi8).2 rfl (fun acts2 => ?_)
    simp only [wp_bind', W.writeLoc, wp_pure']
    refine ⟨mz_o cA S.heap.size x, ?_, (by rw [o2]; intro h; cases h), by omega, ?_, hk _ _ _ ⟨x + 1, by omega, rfl, ?_⟩⟩
    · show ((mz_S S cA cI x).heap.push _)[S.heap.size]? = _
      rw [Array.getElem?_push, if_neg (by omega)]
      exact f2
    · simp [State.fitsSlot, State.slotType?, o1, o2, f5, hA, hkA]
      rfl
    · rw [f1]
      rfl
  · rintro S' d' acts' ⟨i, hi, hx, rfl⟩
    have : i = 8 := by
      have := congrArg List.length hx
      rw [List.length_range'] at this
      simp at this
      omega
    subst this
    exact hq _ _
theorem mz_stand (X : Stand p l e R s m args below meth c S locs cells slots) : ∀ i, i ≤ 8 → Stand p l e R s m args below meth c (mz_S S cA cI i) (locs ++ (List.range i).map fun j => (⟨S.heap.size, j⟩ : Loc)) (cells + 1 + i) (slots + 8 + 3 * i)
  | 0, _ => by
    have h := X.pushed (mz_o cA S.heap.size 0)
    rw [(mz_o_is cA S.heap.size 0).2.2] at h
    rw [List.range_zero, List.map_nil, List.append_nil]
    exact h
  | i + 1, hi => by
    have f := mz_S_is S cA cI i
    have h := ((mz_stand X i (by omega)).pushed (mz_r cI)).stored (a := S.heap.size) (cell := mz_o cA S.heap.size i) (by
      show ((mz_S S cA cI i).heap.push _)[S.heap.size]? = _
      rw [Array.getElem?_push, if_neg (by omega)]
      exact f.2.1) i (.ref (S.heap.size + 1 + i))
    rw [List.range_succ, List.map_append, ← List.append_assoc]
    exact h
/-- eight rows of three ints -/
theorem mz_row (X : Stand p l e R s m args below meth c T locs cells slots) (hexec : p.tables.exec = Jvm.exec) {own : String} {index : Nat} (hown : s.vm.findClass own = some m.cls)
    (hclink : (Cond.classLink own index "[[I").before args s = true) (hover : (Cond.arrayOver (.array .int)).before args s = true) (harr : (Cond.arrayClass .int).before args s = true)
    {g : JFrame} (hg : g.method = m) (hdg : decode c.code g.pc = .ok (.multianewarray index 2, 4)) {rest : List Value} (hstack : g.stack = .int 3 :: .int 8 :: rest) (hcells : cells + 9 ≤ R.cells) (hslots : slots + 32 ≤ R.slots) :
    ∃ (vm₁ : Vm) (cA cI : ClassId), s.vm.findClass "[[I" = some cA ∧ s.vm.findClass "[I" = some cI ∧
      Stand p l e R s m args below meth c (mz_S (T.setVm vm₁) cA cI 8) (locs ++ (List.range 8).map fun j => (⟨T.heap.size, j⟩ : Loc)) (cells + 9) (slots + 32) ∧
      ∀ target, Steps p.tables e below ((mz_S (T.setVm vm₁) cA cI 8).setTop { g with pc := g.pc + 4, stack := .ref T.heap.size :: rest }) target → Steps p.tables e below (T.setTop g) target := by
  subst hg
  have hpl : e.platform.magicAccessors = ({} : Platform).magicAccessors := by rw [X.admits.platform]
  obtain ⟨cI, cA, kA, hcI, -, hkA, hkindA, hcA⟩ := arrayOverA_spec hover
  obtain ⟨cI', kI, c0, hcI', hkI, hkindI⟩ := Cond.arrayClass_spec harr
  have hcI : s.vm.findClass "[I" = some cI := hcI
  have hcA : s.vm.findClass "[[I" = some cA := hcA
  have hcI' : s.vm.findClass "[I" = some cI' := hcI'
  cases hcI.symm.trans hcI'
  obtain ⟨cc, hfcc, hcl⟩ := Cond.classLink_spec hown hclink e.platform hpl
  cases hcA.symm.trans hfcc
  obtain ⟨hg₁, hwarm₁, hready₁⟩ := State.classEntry (e := e) X.warmed hcl
  generalize T.vm.noted g.method.cls index (.cls cA) = vm₁ at hg₁ hwarm₁ hready₁
  have hal : s.vm.Alike vm₁ := hwarm₁.alike
  obtain ⟨kA₁, hkA₁, heA⟩ := hal.2.2 _ _ hkA
  obtain ⟨kI₁, hkI₁, heI⟩ := hal.2.2 _ _ hkI
  have hkindA₁ : kA₁.kind = .array cI (.array .int) := by rw [heA]; exact hkindA
  have hkindI₁ : kI₁.kind = .array c0 .int := by rw [heI]; exact hkindI
  have hl : 8 ≤ e.platform.arrayLengthLimit := by rw [Launch.admits_arrayLengthLimit X.admits]; decide
  have hh : 32 ≤ e.platform.maxHeapBytes := by rw [Launch.admits_maxHeapBytes X.admits]; decide
  have X₁ := X.noted hwarm₁
  have XS := fun i hi => mz_stand (cA := cA) (cI := cI) X₁ i hi
  refine ⟨vm₁, cA, cI, hcA, hcI, XS 8 (by omega), fun target hrest => ?_⟩
  have hcold : ∀ {Q : Unit → Pre} {E : CtlPost} {d : Bool} {acts : List Action}, wp (multianewarray.sem index 2) Q E e d acts (T.setTop g) ↔ wp (multianewarray.sem index 2) Q E e d acts ((T.setVm vm₁).setTop g) := by
    intro Q E d acts
    simp only [multianewarray.sem, wp_bind']
    exact W.resolveClassAt_transfer (s := T.setTop g) (State.method?_setTop g X.here.top) hg₁ hready₁
  have hwarm : ∀ {Q : Unit → Pre} {E : CtlPost} {d : Bool} {acts : List Action}, (∀ acts', Q () true acts' ((mz_S (T.setVm vm₁) cA cI 8).setTop { g with stack := .ref T.heap.size :: rest })) → wp (multianewarray.sem index 2) Q E e d acts ((T.setVm vm₁).setTop g) := by
    intro Q E d acts hQ
    have hs : (T.setVm vm₁).topJava?.isSome := X₁.here.top
    have hp := fun (Q : List Value → Pre) (d : Bool) (acts : List Action) => popN_top (E := E) (e := e) (d := d) (acts := acts) (s := T.setVm vm₁) (f := g) (Q := Q) hs (args := [.int 8, .int 3]) (rest := rest) hstack
    simp only [multianewarray.sem, wp_bind', W.resolveClassAt_ready (State.method?_setTop g hs) hready₁]
    refine (hp _ _ _).mpr ?_
    simp only [List.mapM_cons, List.mapM_nil, wp_bind', wp_pure']
    have hd : ∀ i, mz_S ((T.setVm vm₁).setTop { g with stack := rest }) cA cI i = (mz_S (T.setVm vm₁) cA cI i).setTop { g with stack := rest } := mz_S_top _ _ _ _
    refine mz_make (S := (T.setVm vm₁).setTop { g with stack := rest }) hkA₁ hkindA₁ hkI₁ hkindI₁ hl hh ?_ ?_ ?_
    · have h := X₁.roomAbove (a := 1) (b := 8) (by omega) (by omega)
      exact ⟨h.1, h.2⟩
    · intro i hi
      have h := (XS i (by omega)).roomAbove (a := 1) (b := 3) (by omega) (by omega)
      rw [hd]
      exact ⟨h.1, h.2⟩
    · intro d' acts'
      rw [hd]
      have ht : (mz_S (T.setVm vm₁) cA cI 8).topJava?.isSome := (XS 8 (by omega)).here.top
      simp only [wp_bind', W.mark, W.pushRef, State.topJava?_setTop' _ ht, Option.some.injEq, exists_eq_left', State.setTop_setTop]
      exact hQ _
  jvm_step X.here [hexec, hdg, hcold]
  refine hwarm fun acts' => ?_
  intro acts
  simp [jvm]
  exact hrest
end MZ
