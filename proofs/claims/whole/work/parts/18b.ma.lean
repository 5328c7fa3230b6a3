-- multianewarray of ints, two dimensions: eight rows of three
section MA
variable {p : Program} {l : Launch} {e : Env} {R : Room} {s : State} {m : MethodId} {args : Array Value} {below : List Frame} {meth : Method} {c : Code} {H : Heap} {locs : List Loc} {cells slots : Nat} {Q : State → Prop} {cc : ByteArray} {pc nL : Nat} {ls : Array Slot} {rest : List Value} {own : String} {D : va_G} {T : Nat → ClassId} {z : Nat} {u : gG} {idx : Nat}
theorem gma_outer (cA : ClassId) (h : Nat) : mz_o cA h 8 = arrV cA 8 (fun j => va_rf (if j < 8 then some (h + 1 + j) else none)) := by
  obtain ⟨a1, a2, a3⟩ := mz_o_is cA h 8
  have hs : (mz_o cA h 8).slots = (arrV cA 8 (fun j => va_rf (if j < 8 then some (h + 1 + j) else none))).slots := by
    apply Array.ext_getElem?
    intro j
    by_cases hj : j < 8
    · rw [mz_o_at cA h 8 j hj, arrV_read cA _ hj, if_pos hj, if_pos hj]
      rfl
    · rw [Array.getElem?_eq_none (by omega), Array.getElem?_eq_none (by rw [arrV_size]; omega)]
  have e : mz_o cA h 8 = { cls := (mz_o cA h 8).cls, slots := (mz_o cA h 8).slots, vm := (mz_o cA h 8).vm } := rfl
  rw [e, a1, a2, hs]
  rfl
/-- the memory behind it -/
def gmU (u : gG) (h : Nat) : gG := (u.1 ++ (List.range 9).map (fun j => h + j),
  (fun a => if a = h then 28 else if h < a ∧ a < h + 9 then 21 else u.2.1.1 a, fun a => if a = h then 8 else if h < a ∧ a < h + 9 then 3 else u.2.1.2.1 a, fun a => if a = h then (fun j => if j < 8 then some (h + 1 + j) else none) else if h < a ∧ a < h + 9 then (fun _ => none) else u.2.1.2.2 a),
  fun a => if a = h then (fun _ => 0) else if h < a ∧ a < h + 9 then (fun _ => 0) else u.2.2.1 a, fun a => if a = h then (fun _ => 0) else if h < a ∧ a < h + 9 then (fun _ => 0) else u.2.2.2 a)
theorem gmU_at (h a : Nat) : gAt (gmU u h) a = if a = h then (28, 8, (fun j => if j < 8 then some (h + 1 + j) else none), (fun _ => 0), (fun _ => 0)) else if h < a ∧ a < h + 9 then gBl 21 3 else gAt u a := by
  unfold gAt gmU
  by_cases h1 : a = h
  · simp only [if_pos h1]
  · by_cases h2 : h < a ∧ a < h + 9
    · simp only [if_neg h1, if_pos h2]; rfl
    · simp only [if_neg h1, if_neg h2]
theorem gma_E {a : Nat} {v : gG} (hE : gAt v a = gAt u a) : ga_E T v.2.1 v.2.2.1 v.2.2.2 a = ga_E T u.2.1 u.2.2.1 u.2.2.2 a := by
  unfold gAt at hE
  simp only [Prod.mk.injEq] at hE
  obtain ⟨h1, h2, h3, h4, h5⟩ := hE
  unfold ga_E
  rw [h1, h2, h3, h4, h5]
theorem gu_newM (C : CallFix p m c cc nL s args ga_ws "RankHouse$Replies") (hw : gWu D T z u s H locs) (hc : cells + 9 ≤ R.cells) (hs : slots + 32 ≤ R.slots) (hdg : decode cc pc = .ok (.multianewarray 15 2, 4))
    (kk : ∀ (h : Nat) (H1 : Heap) (locs1 : List Loc), (∀ j, j < 9 → h + j ∉ u.1) → gWu D T z (gmU u h) s H1 locs1 → W p l e R s m args below meth c H1 locs1 (cells + 9) (slots + 32) Q (F0 m (pc + 4) ls (.ref h :: rest))) : W p l e R s m args below meth c H locs cells slots Q (F0 m pc ls (.int 3 :: .int 8 :: rest)) := by
  intro T0 hT X
  obtain ⟨hx, hb, hml, hown, hts⟩ := C
  obtain ⟨hP, hD, hK, hS, hL, hz, hX⟩ := hw
  obtain ⟨vm₁, cA, comp, hfA, hfC, X1, step⟩ := mz_row X hx (own := "RankHouse$Replies") (index := 15) hown (hts _ gw_321) hX.2.2.2.2.2.2.2 (hts _ gw_50) (g := F0 m pc ls (.int 3 :: .int 8 :: rest)) rfl (by rw [hb]; exact hdg) (rest := rest) rfl hc hs
  have hcA : cA = T 7 := Option.some.inj (hfA.symm.trans (hK.2 7 _ rfl).2)
  have hcm : comp = T 0 := Option.some.inj (hfC.symm.trans (hK.2 0 _ rfl).2)
  subst hcA hcm
  have hh : T0.heap.size = H.size := by rw [hT]
  obtain ⟨H1, hH1⟩ : ∃ H1 : Heap, H1 = (mz_S (T0.setVm vm₁) (T 7) (T 0) 8).heap := ⟨_, rfl⟩
  obtain ⟨f1, f2, f3, f4, -⟩ := mz_S_is (T0.setVm vm₁) (T 7) (T 0) 8
  have h3 : (T0.setVm vm₁).heap.size = H.size := hh
  rw [h3, ← hH1] at f1 f2 f3 f4
  have fsz : H1.size = H.size + 9 := by omega
  have fold : ∀ a, a < H.size → H1[a]? = H[a]? := fun a ha => by
    rw [f4 a ha]
    show T0.heap[a]? = _
    rw [hT]
  have fout : H1[H.size]? = some (arrV (T 7) 8 (fun j => va_rf (if j < 8 then some (H.size + 1 + j) else none))) := by
    rw [f2, gma_outer]
  have finn : ∀ j, j < 8 → H1[H.size + 1 + j]? = some (arrV (T 0) 3 (fun _ => .int 0)) := fun j hj => by
    rw [f3 j hj]
    rfl
  have hlt : ∀ a, a ∈ u.1 → a < H.size := fun a ha => by
    obtain ⟨k, hk⟩ := List.mem_iff_getElem?.mp ha
    have hq : (va_pl u.1 (ga_E T u.2.1 u.2.2.1 u.2.2.2))[k]? = some (a, ga_E T u.2.1 u.2.2.1 u.2.2.2 a) := by
      unfold va_pl
      rw [List.getElem?_map, hk]
      rfl
    exact (hP k _ hq).lt
  have hfr : ∀ j, j < 9 → H.size + j ∉ u.1 := fun j _ hm => by
    have := hlt _ hm
    omega
  have hgA : ∀ a, a ∈ u.1 → gAt (gmU u H.size) a = gAt u a := fun a ha => by
    have := hlt a ha
    rw [gmU_at, if_neg (by omega), if_neg (by omega)]
  have hmem : ∀ a, a ∈ (gmU u H.size).1 → a ∈ u.1 ∨ ∃ j, j < 9 ∧ a = H.size + j := fun a ha => by
    rcases List.mem_append.mp ha with h | h
    · exact Or.inl h
    · obtain ⟨j, hj, rfl⟩ := List.mem_map.mp h
      exact Or.inr ⟨j, List.mem_range.mp hj, rfl⟩
  have hw1 : gWu D T z (gmU u H.size) s H1 (locs ++ (List.range 8).map fun j => (⟨T0.heap.size, j⟩ : Loc)) := by
    refine ⟨fun k q hq => ?_, ⟨fun i j p1 q1 hi hj he => ?_, fun k q hq => ?_⟩, hK, ⟨by have := hS.1; omega, fun q h1 h2 => (fold q (Nat.lt_of_lt_of_le h1 hS.1)).trans (hS.2.1 q h1 h2), fun loc hl => ?_⟩, fun a ha => ?_, hz, hX⟩
    · unfold va_pl at hq
      rw [List.getElem?_map] at hq
      obtain ⟨a, ha, rfl⟩ := Option.map_eq_some_iff.mp hq
      rcases hmem a (List.mem_of_getElem? ha) with hm | ⟨j, hj, rfl⟩
      · obtain ⟨k2, hk2⟩ := List.mem_iff_getElem?.mp hm
        have hq2 : (va_pl u.1 (ga_E T u.2.1 u.2.2.1 u.2.2.2))[k2]? = some (a, ga_E T u.2.1 u.2.2.1 u.2.2.2 a) := by
          unfold va_pl
          rw [List.getElem?_map, hk2]
          rfl
        have hP1 := hP.kept (H1 := H1) (fun k x hx => fold x.1 (hP k x hx).lt)
        have h3 := hP1 k2 _ hq2
        rw [gma_E (hgA a hm)]
        exact h3
      · by_cases e : j = 0
        · subst e
          have hat := gmU_at (u := u) H.size (H.size + 0)
          rw [if_pos (by omega)] at hat
          unfold gAt at hat
          simp only [Prod.mk.injEq] at hat
          obtain ⟨g1, g2, g3, g4, g5⟩ := hat
          rw [ga_Er g1 (by omega)]
          show H1[H.size + 0]? = some (vp_cell _ _)
          rw [vp_cell_q, g2, g3, Nat.add_zero, fout]
        · have hat := gmU_at (u := u) H.size (H.size + j)
          rw [if_neg (by omega), if_pos (by omega)] at hat
          unfold gAt gBl at hat
          simp only [Prod.mk.injEq] at hat
          obtain ⟨g1, g2, g3, g4, g5⟩ := hat
          rw [ga_Ei g1]
          show H1[H.size + j]? = some (vp_cell _ _)
          rw [vp_cell_i, g2, g4, show H.size + j = H.size + 1 + (j - 1) by omega, finn (j - 1) (by omega)]
    · unfold va_pl at hi hj
      rw [List.getElem?_map] at hi hj
      obtain ⟨a, ha, rfl⟩ := Option.map_eq_some_iff.mp hi
      obtain ⟨b, hb2, rfl⟩ := Option.map_eq_some_iff.mp hj
      have he : a = b := he
      subst he
      have hpos : ∀ i, (gmU u H.size).1[i]? = some a → (i < u.1.length ∧ u.1[i]? = some a) ∨ (u.1.length ≤ i ∧ i - u.1.length < 9 ∧ a = H.size + (i - u.1.length)) := fun i hia => by
        by_cases hl : i < u.1.length
        · left
          refine ⟨hl, ?_⟩
          rw [show (gmU u H.size).1 = u.1 ++ (List.range 9).map (fun j => H.size + j) from rfl, List.getElem?_append_left hl] at hia
          exact hia
        · right
          rw [show (gmU u H.size).1 = u.1 ++ (List.range 9).map (fun j => H.size + j) from rfl, List.getElem?_append_right (by omega), List.getElem?_map] at hia
          obtain ⟨j, hj2, hj3⟩ := Option.map_eq_some_iff.mp hia
          obtain ⟨hj4, hj5⟩ := List.getElem?_eq_some_iff.mp hj2
          rw [List.getElem_range] at hj5
          rw [List.length_range] at hj4
          exact ⟨by omega, hj4, by omega⟩
      rcases hpos i ha with ⟨l1, m1⟩ | ⟨l1, m1, m2⟩
      · rcases hpos j hb2 with ⟨l2, n1⟩ | ⟨l2, n1, n2⟩
        · refine hD.1 i j (a, ga_E T u.2.1 u.2.2.1 u.2.2.2 a) (a, ga_E T u.2.1 u.2.2.1 u.2.2.2 a) ?_ ?_ rfl
          · unfold va_pl
            rw [List.getElem?_map, m1]
            rfl
          · unfold va_pl
            rw [List.getElem?_map, n1]
            rfl
        · have := hlt a (List.mem_of_getElem? m1)
          omega
      · rcases hpos j hb2 with ⟨l2, n1⟩ | ⟨l2, n1, n2⟩
        · have := hlt a (List.mem_of_getElem? n1)
          omega
        · omega
    · unfold va_pl at hq
      rw [List.getElem?_map] at hq
      obtain ⟨a, ha, rfl⟩ := Option.map_eq_some_iff.mp hq
      rcases hmem a (List.mem_of_getElem? ha) with hm | ⟨j, hj, rfl⟩
      · obtain ⟨k2, hk2⟩ := List.mem_iff_getElem?.mp hm
        have hq2 : (va_pl u.1 (ga_E T u.2.1 u.2.2.1 u.2.2.2))[k2]? = some (a, ga_E T u.2.1 u.2.2.1 u.2.2.2 a) := by
          unfold va_pl
          rw [List.getElem?_map, hk2]
          rfl
        exact (hD.2 k2 (a, ga_E T u.2.1 u.2.2.1 u.2.2.2 a) hq2 : ga_A z a)
      · show z ≤ H.size + j
        have := hS.1
        omega
    · rcases List.mem_append.mp hl with h | h
      · exact hS.2.2 loc h
      · obtain ⟨j, hj, rfl⟩ := List.mem_map.mp h
        show z ≤ T0.heap.size
        have := hS.1
        omega
    · by_cases h1 : a = H.size
      · exact List.mem_append_right _ (List.mem_map.mpr ⟨0, by decide, by omega⟩)
      · by_cases h2 : H.size < a ∧ a < H.size + 9
        · exact List.mem_append_right _ (List.mem_map.mpr ⟨a - H.size, List.mem_range.mpr (by omega), by omega⟩)
        · refine List.mem_append_left _ (hL a ?_)
          have : (gmU u H.size).2.1.1 a = u.2.1.1 a := by
            show (if a = H.size then 28 else if H.size < a ∧ a < H.size + 9 then 21 else u.2.1.1 a) = _
            rw [if_neg h1, if_neg h2]
          rw [← this]
          exact ha
  obtain ⟨t, a1, b1⟩ := kk H.size H1 _ hfr hw1 _ hH1.symm X1
  refine ⟨t, step t ?_, b1⟩
  rw [hh]
  exact a1
end MA
