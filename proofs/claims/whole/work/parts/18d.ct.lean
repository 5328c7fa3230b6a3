-- Constructors: SortedRow, Letter, Search, Logger, Replies
/-- v comes of u by the new cells N; of the old ones b alone may have changed -/
def gNew (u v : gG) (N : List Nat) (b : Nat) : Prop := v.1 = u.1 ++ N ∧ (∀ a, a ∈ N → a ∉ u.1) ∧ N.Nodup ∧ ∀ a, a ∉ N → a ≠ b → gAt v a = gAt u a
theorem gNew.trans {u v w : gG} {N N' : List Nat} {b b' : Nat} (h : gNew u v N b) (h' : gNew v w N' b') (hb : b' ∈ N ∨ b' = b) : gNew u w (N ++ N') b := by
  obtain ⟨a1, a2, a3, a4⟩ := h
  obtain ⟨c1, c2, c3, c4⟩ := h'
  refine ⟨by rw [c1, a1, List.append_assoc], fun a ha => ?_, ?_, fun a ha hne => ?_⟩
  · rcases List.mem_append.mp ha with h | h
    · exact a2 a h
    · intro hu
      exact c2 a h (by rw [a1]; exact List.mem_append_left _ hu)
  · refine List.nodup_append.mpr ⟨a3, c3, fun x hx y hy hxy => ?_⟩
    subst hxy
    exact c2 x hy (by rw [a1]; exact List.mem_append_right _ hx)
  · have h1 : a ∉ N := fun h => ha (List.mem_append_left _ h)
    have h2 : a ∉ N' := fun h => ha (List.mem_append_right _ h)
    rw [c4 a h2 (fun e => ?_), a4 a h1 hne]
    rcases hb with hb | hb
    · exact h1 (by rw [e]; exact hb)
    · exact hne (e.trans hb)
theorem gNew.one {u v : gG} {q : Nat} (b : Nat) (h1 : q ∉ u.1) (h2 : v.1 = u.1 ++ [q]) (h3 : ∀ a, a ≠ q → gAt v a = gAt u a) : gNew u v [q] b := by
  refine ⟨h2, fun a ha => ?_, List.nodup_cons.mpr ⟨List.not_mem_nil, List.nodup_nil⟩, fun a ha _ => h3 a (fun e => ha (by rw [e]; exact List.mem_singleton.mpr rfl))⟩
  rw [List.mem_singleton.mp ha]
  exact h1
theorem gNew.put {u v : gG} {b : Nat} (h2 : v.1 = u.1) (h3 : ∀ a, a ≠ b → gAt v a = gAt u a) : gNew u v [] b := ⟨by rw [h2, List.append_nil], fun a ha => absurd ha List.not_mem_nil, List.nodup_nil, fun a _ hne => h3 a hne⟩
/-- what a row of ints inside an object b makes -/
def P_row (u : gG) (b N : Nat) (v : gG) : Prop := ∃ w, gNew u v [w] b ∧ gAt v w = gBl 21 N ∧ gAt v b = gPut (gAt u b) 0 w
def rm_row (N : Nat) : Room := { frames := 1, locals := 12, cells := 1, slots := N }
theorem ne_of_mem {q b : Nat} {L : List Nat} (h : q ∉ L) (hb : b ∈ L) : b ≠ q := fun e => h (by rw [← e]; exact hb)
set_option maxHeartbeats 4000000 in
set_option maxRecDepth 100000 in
theorem c_SortedRow_init (l : Launch) (D : va_G) (T : Nat → ClassId) (z : Nat) (u : gG) {b N : Nat} {room : Int32} (h0 : ¬ room < 0) (hN : room.toNatClampNeg = N) (hN2 : N ≤ 1000) (ht : (gAt u b).1 = 7) : gu_Nv l y_SortedRow_init prog_8_method_1_code 2 (rm_row N) [.ref b, .int room] D T z u (P_row u b N) := by
  refine Met.ofW (cc := prog_8_method_1_code) (maxL := 2) (ret := none) (by decide) rfl ?_
  intro p e s m args below meth c s₁ B hml hv
  obtain ⟨ha, hv, hNs⟩ := hv
  have hx := B.exec
  have hb := B.bytes
  have hr := B.returns
  have hin : meth.name = "<init>" := (name_of_methodNamed B.named B.method).1
  have hts := atoms_spec (ws := .code y_SortedRow_init prog_8_method_1_code 2 none :: ga_ws) B.pre
  have hown : s.vm.findClass "RankHouse$SortedRow" = some m.cls := findClass_of_methodNamed B.named
  have C : CallFix p m c prog_8_method_1_code 2 s args ga_ws "RankHouse$SortedRow" := ⟨hx, hb, hml, hown, fun w h => hts w (List.mem_cons_of_mem _ h)⟩
  have hw : gWu D T z u s s.heap [] := ga_start hv
  have hl := lv_entry ([.ref b, .int room]) (n := 2) (Nat.le_of_ble_eq_true rfl)
  rw [show entryFrame m args 2 = entryFrame m ([.ref b, .int room] : List Value).toArray 2 by rw [ha], lg_entry_eq]
  generalize (lg_sl ([.ref b, .int room]) ++ List.replicate (2 - (lg_sl ([.ref b, .int room])).length) Slot.unset).toArray = ls at hl ⊢
  have hl : lv_has ls 2 [(0, .ref b), (1, .int room)] := hl
  refine lv_aload_n hx hb d_SortedRow_init_0 rfl (lv_at hl 0 rfl) ?_
  refine W.objInit hx hb hown (C.2.2.2.2 _ gw_38) (C.2.2.2.2 _ gw_24) (C.2.2.2.2 _ gw_25) rfl (by rw [hml]; exact hl.1) rfl d_SortedRow_init_1 (Nat.le_of_ble_eq_true rfl) (Nat.le_of_ble_eq_true rfl) ?_
  refine W.eq (g2 := F0 m 4 ls []) rfl ?_
  have hbL : b ∈ u.1 := hw.2.2.2.2.1 b (by have : u.2.1.1 b = (gAt u b).1 := rfl; omega)
  refine lv_aload_n hx hb d_SortedRow_init_4 rfl (lv_at hl 0 rfl) ?_
  refine lv_iload_n hx hb d_SortedRow_init_5 rfl (lv_at hl 1 rfl) ?_
  refine gu_newI C hw h0 hN (by omega) (Nat.le_refl _) (Nat.le_of_eq (Nat.zero_add N)) d_SortedRow_init_6 (fun w u1 H1 k1 k2 k3 k4 hw => ?_)
  have hbw := ne_of_mem k1 hbL
  refine gu_putR C hw gq_SortedRow_7 hin (by rw [k4 b hbw]; exact ht) rfl rfl d_SortedRow_init_8 (fun u2 H2 locs k5 k6 k7 hw => ?_)
  refine W.widen (Nat.le_refl _) (Nat.le_of_eq (Nat.zero_add N)) (W.vret hx hb hr (fun t ht _ => ⟨⟨u2, rfl, ⟨w, (gNew.one b k1 k2 k4).trans (gNew.put k5 k7) (Or.inr rfl), ?_, ?_⟩, ga_o hw ht⟩, hw.2.2.2.1.F ht⟩) hw.2.2.2.1.2.2 d_SortedRow_init_11)
  · rw [k7 w (fun e => hbw e.symm), k3]
  · rw [k6, k4 b hbw]
set_option maxHeartbeats 4000000 in
set_option maxRecDepth 100000 in
theorem c_Letter_init (l : Launch) (D : va_G) (T : Nat → ClassId) (z : Nat) (u : gG) {b : Nat} (ht : (gAt u b).1 = 1) : gu_Nv l y_Letter_init prog_2_method_1_code 1 (rm_row 64) [.ref b] D T z u (P_row u b 64) := by
  refine Met.ofW (cc := prog_2_method_1_code) (maxL := 1) (ret := none) (by decide) rfl ?_
  intro p e s m args below meth c s₁ B hml hv
  obtain ⟨ha, hv, hNs⟩ := hv
  have hx := B.exec
  have hb := B.bytes
  have hr := B.returns
  have hin : meth.name = "<init>" := (name_of_methodNamed B.named B.method).1
  have hts := atoms_spec (ws := .code y_Letter_init prog_2_method_1_code 1 none :: ga_ws) B.pre
  have hown : s.vm.findClass "RankHouse$Letter" = some m.cls := findClass_of_methodNamed B.named
  have C : CallFix p m c prog_2_method_1_code 1 s args ga_ws "RankHouse$Letter" := ⟨hx, hb, hml, hown, fun w h => hts w (List.mem_cons_of_mem _ h)⟩
  have hw : gWu D T z u s s.heap [] := ga_start hv
  have hl := lv_entry ([.ref b]) (n := 1) (Nat.le_of_ble_eq_true rfl)
  rw [show entryFrame m args 1 = entryFrame m ([.ref b] : List Value).toArray 1 by rw [ha], lg_entry_eq]
  generalize (lg_sl ([.ref b]) ++ List.replicate (1 - (lg_sl ([.ref b])).length) Slot.unset).toArray = ls at hl ⊢
  have hl : lv_has ls 1 [(0, .ref b)] := hl
  refine lv_aload_n hx hb d_Letter_init_0 rfl (lv_at hl 0 rfl) ?_
  refine W.objInit hx hb hown (C.2.2.2.2 _ gw_74) (C.2.2.2.2 _ gw_24) (C.2.2.2.2 _ gw_25) rfl (by rw [hml]; exact hl.1) rfl d_Letter_init_1 (Nat.le_of_ble_eq_true rfl) (Nat.le_of_ble_eq_true rfl) ?_
  refine W.eq (g2 := F0 m 4 ls []) rfl ?_
  have hbL : b ∈ u.1 := hw.2.2.2.2.1 b (by have : u.2.1.1 b = (gAt u b).1 := rfl; omega)
  refine lv_aload_n hx hb d_Letter_init_4 rfl (lv_at hl 0 rfl) ?_
  refine lv_bipush (v := 64) hx hb d_Letter_init_5 (by decide) ?_
  refine gu_newI (N := 64) C hw (by decide) (by decide) (by decide) (Nat.le_refl _) (Nat.le_refl _) d_Letter_init_7 (fun w u1 H1 k1 k2 k3 k4 hw => ?_)
  have hbw := ne_of_mem k1 hbL
  refine gu_putR C hw gq_Letter_9 hin (by rw [k4 b hbw]; exact ht) rfl rfl d_Letter_init_9 (fun u2 H2 locs k5 k6 k7 hw => ?_)
  refine W.widen (Nat.le_refl _) (Nat.le_refl _) (W.vret hx hb hr (fun t ht _ => ⟨⟨u2, rfl, ⟨w, (gNew.one b k1 k2 k4).trans (gNew.put k5 k7) (Or.inr rfl), ?_, ?_⟩, ga_o hw ht⟩, hw.2.2.2.1.F ht⟩) hw.2.2.2.1.2.2 d_Letter_init_12)
  · rw [k7 w (fun e => hbw e.symm), k3]
  · rw [k6, k4 b hbw]
def rm_Search_init : Room := { frames := 1, locals := 12, cells := 0, slots := 0 }
set_option maxHeartbeats 4000000 in
set_option maxRecDepth 100000 in
theorem c_Search_init (l : Launch) (D : va_G) (T : Nat → ClassId) (z : Nat) (u : gG) {b : Nat} (ht : (gAt u b).1 = 6) : gu_Nv l y_Search_init prog_7_method_1_code 1 rm_Search_init [.ref b] D T z u (fun v => v = u) := by
  refine Met.ofW (cc := prog_7_method_1_code) (maxL := 1) (ret := none) (by decide) rfl ?_
  intro p e s m args below meth c s₁ B hml hv
  obtain ⟨ha, hv, hNs⟩ := hv
  have hx := B.exec
  have hb := B.bytes
  have hr := B.returns
  have hin : meth.name = "<init>" := (name_of_methodNamed B.named B.method).1
  have hts := atoms_spec (ws := .code y_Search_init prog_7_method_1_code 1 none :: ga_ws) B.pre
  have hown : s.vm.findClass "RankHouse$Search" = some m.cls := findClass_of_methodNamed B.named
  have C : CallFix p m c prog_7_method_1_code 1 s args ga_ws "RankHouse$Search" := ⟨hx, hb, hml, hown, fun w h => hts w (List.mem_cons_of_mem _ h)⟩
  have hw : gWu D T z u s s.heap [] := ga_start hv
  have hl := lv_entry ([.ref b]) (n := 1) (Nat.le_of_ble_eq_true rfl)
  rw [show entryFrame m args 1 = entryFrame m ([.ref b] : List Value).toArray 1 by rw [ha], lg_entry_eq]
  generalize (lg_sl ([.ref b]) ++ List.replicate (1 - (lg_sl ([.ref b])).length) Slot.unset).toArray = ls at hl ⊢
  have hl : lv_has ls 1 [(0, .ref b)] := hl
  refine lv_aload_n hx hb d_Search_init_0 rfl (lv_at hl 0 rfl) ?_
  refine W.objInit hx hb hown (C.2.2.2.2 _ gw_352) (C.2.2.2.2 _ gw_24) (C.2.2.2.2 _ gw_25) rfl (by rw [hml]; exact hl.1) rfl d_Search_init_1 (Nat.le_of_ble_eq_true rfl) (Nat.le_of_ble_eq_true rfl) ?_
  refine W.eq (g2 := F0 m 4 ls []) rfl ?_
  have hbL : b ∈ u.1 := hw.2.2.2.2.1 b (by have : u.2.1.1 b = (gAt u b).1 := rfl; omega)
  exact W.vret hx hb hr (fun t ht _ => ⟨⟨u, rfl, rfl, ga_o hw ht⟩, hw.2.2.2.1.F ht⟩) hw.2.2.2.1.2.2 d_Search_init_4
theorem d_Logger_init_0 : decode prog_3_method_1_code 0 = .ok (.aload_n 0, 1) := by decide +kernel
theorem d_Logger_init_1 : decode prog_3_method_1_code 1 = .ok (.invokespecial 3, 3) := by decide +kernel
theorem d_Logger_init_4 : decode prog_3_method_1_code 4 = .ok (.aload_n 0, 1) := by decide +kernel
theorem d_Logger_init_5 : decode prog_3_method_1_code 5 = .ok (.new 9, 3) := by decide +kernel
theorem d_Logger_init_8 : decode prog_3_method_1_code 8 = .ok (.dup, 1) := by decide +kernel
theorem d_Logger_init_9 : decode prog_3_method_1_code 9 = .ok (.sipush 500, 3) := by decide +kernel
theorem d_Logger_init_12 : decode prog_3_method_1_code 12 = .ok (.invokespecial 11, 3) := by decide +kernel
theorem d_Logger_init_15 : decode prog_3_method_1_code 15 = .ok (.putfield 14, 3) := by decide +kernel
theorem d_Logger_init_18 : decode prog_3_method_1_code 18 = .ok (.aload_n 0, 1) := by decide +kernel
theorem d_Logger_init_19 : decode prog_3_method_1_code 19 = .ok (.iconst 1, 1) := by decide +kernel
theorem d_Logger_init_20 : decode prog_3_method_1_code 20 = .ok (.putfield 20, 3) := by decide +kernel
theorem d_Logger_init_23 : decode prog_3_method_1_code 23 = .ok (.return_, 1) := by decide +kernel
def P_Logger (u : gG) (b : Nat) (v : gG) : Prop := ∃ r w, gNew u v [r, w] b ∧ gAt v r = gPut (gBl 7 0) 0 w ∧ gAt v w = gBl 21 500 ∧ gAt v b = gPi (gPut (gAt u b) 0 r) 1 1
def rm_Logger_init : Room := { frames := 2, locals := 33, cells := 2, slots := 502 }
set_option maxHeartbeats 4000000 in
set_option maxRecDepth 100000 in
theorem c_Logger_init (l : Launch) (D : va_G) (T : Nat → ClassId) (z : Nat) (u : gG) {b : Nat} (ht : (gAt u b).1 = 2) : gu_Nv l y_Logger_init prog_3_method_1_code 1 rm_Logger_init [.ref b] D T z u (P_Logger u b) := by
  refine Met.ofW (cc := prog_3_method_1_code) (maxL := 1) (ret := none) (by decide) rfl ?_
  intro p e s m args below meth c s₁ B hml hv
  obtain ⟨ha, hv, hNs⟩ := hv
  have hx := B.exec
  have hb := B.bytes
  have hr := B.returns
  have hin : meth.name = "<init>" := (name_of_methodNamed B.named B.method).1
  have hts := atoms_spec (ws := .code y_Logger_init prog_3_method_1_code 1 none :: ga_ws) B.pre
  have hown : s.vm.findClass "RankHouse$Logger" = some m.cls := findClass_of_methodNamed B.named
  have C : CallFix p m c prog_3_method_1_code 1 s args ga_ws "RankHouse$Logger" := ⟨hx, hb, hml, hown, fun w h => hts w (List.mem_cons_of_mem _ h)⟩
  have hw : gWu D T z u s s.heap [] := ga_start hv
  have hl := lv_entry ([.ref b]) (n := 1) (Nat.le_of_ble_eq_true rfl)
  rw [show entryFrame m args 1 = entryFrame m ([.ref b] : List Value).toArray 1 by rw [ha], lg_entry_eq]
  generalize (lg_sl ([.ref b]) ++ List.replicate (1 - (lg_sl ([.ref b])).length) Slot.unset).toArray = ls at hl ⊢
  have hl : lv_has ls 1 [(0, .ref b)] := hl
  refine lv_aload_n hx hb d_Logger_init_0 rfl (lv_at hl 0 rfl) ?_
  refine W.objInit hx hb hown (C.2.2.2.2 _ gw_32) (C.2.2.2.2 _ gw_24) (C.2.2.2.2 _ gw_25) rfl (by rw [hml]; exact hl.1) rfl d_Logger_init_1 (Nat.le_of_ble_eq_true rfl) (Nat.le_of_ble_eq_true rfl) ?_
  refine W.eq (g2 := F0 m 4 ls []) rfl ?_
  have hbL : b ∈ u.1 := hw.2.2.2.2.1 b (by have : u.2.1.1 b = (gAt u b).1 := rfl; omega)
  refine lv_aload_n hx hb d_Logger_init_4 rfl (lv_at hl 0 rfl) ?_
  refine gu_new C hw gn_Logger_9 (Nat.le_of_ble_eq_true rfl) (Nat.le_of_ble_eq_true rfl) d_Logger_init_5 (fun r u1 H1 k1 k2 k3 k4 hw => ?_)
  have hbr := ne_of_mem k1 hbL
  refine lv_dup hx hb d_Logger_init_8 rfl ?_
  refine lv_sipush (v := 500) hx hb d_Logger_init_9 (by decide) ?_
  refine gu_cI (As := [.int 500]) C hw hNs (c_SortedRow_init (N := 500) l D T z u1 (by decide) (by decide) (by decide) (by rw [k3]; rfl)) gi_Logger_11 rfl hl.1 ⟨Nat.le_of_ble_eq_true rfl, Nat.le_of_ble_eq_true rfl, Nat.le_of_ble_eq_true rfl, Nat.le_of_ble_eq_true rfl⟩ (Nat.le_of_ble_eq_true rfl) rfl d_Logger_init_12 (fun u2 H2 locs hP hw => ?_)
  obtain ⟨w, n1, n2, n3⟩ := hP
  have hw1 : w ∉ u1.1 := n1.2.1 w (List.mem_singleton.mpr rfl)
  have hr1 : r ∈ u1.1 := by rw [k2]; exact List.mem_append_right _ (List.mem_singleton.mpr rfl)
  have hb1 : b ∈ u1.1 := by rw [k2]; exact List.mem_append_left _ hbL
  have hrw := ne_of_mem hw1 hr1
  have hbw := ne_of_mem hw1 hb1
  have fb : gAt u2 b = gAt u b := by rw [n1.2.2.2 b (fun h => hbw (List.mem_singleton.mp h)) hbr, k4 b hbr]
  refine gu_putR C hw gq_Logger_14 hin (by rw [fb]; exact ht) rfl rfl d_Logger_init_15 (fun u3 H3 locs k5 k6 k7 hw => ?_)
  refine lv_aload_n hx hb d_Logger_init_18 rfl (lv_at hl 0 rfl) ?_
  refine lv_iconst (v := 1) hx hb d_Logger_init_19 (by decide) ?_
  refine gu_putI C hw gp_Logger_20 (by rw [k6, fb]; exact ht) rfl rfl d_Logger_init_20 (fun u4 H4 locs k8 k9 k10 hw => ?_)
  refine W.widen (Nat.le_of_ble_eq_true rfl) (Nat.le_of_ble_eq_true rfl) (W.vret hx hb hr (fun t ht _ => ⟨⟨u4, rfl, ⟨r, w, ?_, ?_, ?_, ?_⟩, ga_o hw ht⟩, hw.2.2.2.1.F ht⟩) hw.2.2.2.1.2.2 d_Logger_init_23)
  · exact (((gNew.one b k1 k2 k4).trans n1 (Or.inl (List.mem_singleton.mpr rfl))).trans (gNew.put k5 k7) (Or.inr rfl)).trans (gNew.put k8 k10) (Or.inr rfl)
  · rw [k10 r (fun e => hbr e.symm), k7 r (fun e => hbr e.symm), n3, k3]
  · rw [k10 w (fun e => hbw e.symm), k7 w (fun e => hbw e.symm), n2]
  · rw [k9, k6, fb]
def gTold (h : Nat) : gCell := (28, 8, (fun j => if j < 8 then some (h + 1 + j) else none), (fun _ => 0), (fun _ => 0))
def P_Replies (u : gG) (b : Nat) (v : gG) : Prop := ∃ q1 h g w, gNew u v ([q1] ++ (List.range 9).map (fun j => h + j) ++ [g, w]) b ∧ gAt v b = gPut (gPut (gPut (gAt u b) 0 q1) 1 h) 2 g ∧ gAt v q1 = gBl 22 8 ∧ gAt v h = gTold h ∧ (∀ j, j < 8 → gAt v (h + 1 + j) = gBl 21 3) ∧ gAt v g = gPut (gBl 7 0) 0 w ∧ gAt v w = gBl 21 64
def rm_Replies_init : Room := { frames := 2, locals := 33, cells := 12, slots := 106 }
theorem gmU_new {u : gG} {h : Nat} (hf : ∀ j, j < 9 → h + j ∉ u.1) (b : Nat) : gNew u (gmU u h) ((List.range 9).map (fun j => h + j)) b := by
  refine ⟨rfl, fun a ha => ?_, ?_, fun a ha _ => ?_⟩
  · obtain ⟨j, hj, rfl⟩ := List.mem_map.mp ha
    exact hf j (List.mem_range.mp hj)
  · exact List.pairwise_map.mpr (List.Pairwise.imp (fun hne e => hne (by omega)) (List.nodup_range (n := 9)))
  · rw [gmU_at]
    by_cases h1 : a = h
    · exact absurd (List.mem_map.mpr ⟨0, by decide, by omega⟩) ha
    · by_cases h2 : h < a ∧ a < h + 9
      · exact absurd (List.mem_map.mpr ⟨a - h, List.mem_range.mpr (by omega), by omega⟩) ha
      · rw [if_neg h1, if_neg h2]
set_option maxHeartbeats 4000000 in
set_option maxRecDepth 100000 in
theorem c_Replies_init (l : Launch) (D : va_G) (T : Nat → ClassId) (z : Nat) (u : gG) {b : Nat} (ht : (gAt u b).1 = 5) : gu_Nv l y_Replies_init prog_6_method_1_code 1 rm_Replies_init [.ref b] D T z u (P_Replies u b) := by
  refine Met.ofW (cc := prog_6_method_1_code) (maxL := 1) (ret := none) (by decide) rfl ?_
  intro p e s m args below meth c s₁ B hml hv
  obtain ⟨ha, hv, hNs⟩ := hv
  have hx := B.exec
  have hb := B.bytes
  have hr := B.returns
  have hin : meth.name = "<init>" := (name_of_methodNamed B.named B.method).1
  have hts := atoms_spec (ws := .code y_Replies_init prog_6_method_1_code 1 none :: ga_ws) B.pre
  have hown : s.vm.findClass "RankHouse$Replies" = some m.cls := findClass_of_methodNamed B.named
  have C : CallFix p m c prog_6_method_1_code 1 s args ga_ws "RankHouse$Replies" := ⟨hx, hb, hml, hown, fun w h => hts w (List.mem_cons_of_mem _ h)⟩
  have hw : gWu D T z u s s.heap [] := ga_start hv
  have hl := lv_entry ([.ref b]) (n := 1) (Nat.le_of_ble_eq_true rfl)
  rw [show entryFrame m args 1 = entryFrame m ([.ref b] : List Value).toArray 1 by rw [ha], lg_entry_eq]
  generalize (lg_sl ([.ref b]) ++ List.replicate (1 - (lg_sl ([.ref b])).length) Slot.unset).toArray = ls at hl ⊢
  have hl : lv_has ls 1 [(0, .ref b)] := hl
  refine lv_aload_n hx hb d_Replies_init_0 rfl (lv_at hl 0 rfl) ?_
  refine W.objInit hx hb hown (C.2.2.2.2 _ gw_320) (C.2.2.2.2 _ gw_24) (C.2.2.2.2 _ gw_25) rfl (by rw [hml]; exact hl.1) rfl d_Replies_init_1 (Nat.le_of_ble_eq_true rfl) (Nat.le_of_ble_eq_true rfl) ?_
  refine W.eq (g2 := F0 m 4 ls []) rfl ?_
  have hbL : b ∈ u.1 := hw.2.2.2.2.1 b (by have : u.2.1.1 b = (gAt u b).1 := rfl; omega)
  refine lv_aload_n hx hb d_Replies_init_4 rfl (lv_at hl 0 rfl) ?_
  refine lv_bipush (v := 8) hx hb d_Replies_init_5 (by decide) ?_
  refine gu_newZ (N := 8) C hw (by decide) (by decide) (by decide) (Nat.le_of_ble_eq_true rfl) (Nat.le_of_ble_eq_true rfl) d_Replies_init_7 (fun q1 u1 H1 k1 k2 k3 k4 hw => ?_)
  have hbq := ne_of_mem k1 hbL
  refine gu_putR C hw gq_Replies_9 hin (by rw [k4 b hbq]; exact ht) rfl rfl d_Replies_init_9 (fun u2 H2 locs k5 k6 k7 hw => ?_)
  have g2 : gNew u u2 [q1] b := (gNew.one b k1 k2 k4).trans (gNew.put k5 k7) (Or.inr rfl)
  have f1 : gAt u2 q1 = gBl 22 8 := by rw [k7 q1 (fun e => hbq e.symm), k3]
  have f2 : gAt u2 b = gPut (gAt u b) 0 q1 := by rw [k6, k4 b hbq]
  have m2b : b ∈ u2.1 := by rw [g2.1]; exact List.mem_append_left _ hbL
  have m2q : q1 ∈ u2.1 := by rw [g2.1]; exact List.mem_append_right _ (List.mem_singleton.mpr rfl)
  refine lv_aload_n hx hb d_Replies_init_12 rfl (lv_at hl 0 rfl) ?_
  refine lv_bipush (v := 8) hx hb d_Replies_init_13 (by decide) ?_
  refine lv_iconst (v := 3) hx hb d_Replies_init_15 (by decide) ?_
  refine gu_newM C hw (Nat.le_of_ble_eq_true rfl) (Nat.le_of_ble_eq_true rfl) d_Replies_init_16 (fun h H3 locs hf hw => ?_)
  have g3 := gmU_new hf b
  have nh : ∀ a, a ∈ u2.1 → a ∉ (List.range 9).map (fun j => h + j) := fun a ha hm => g3.2.1 a hm ha
  have nbh : b ≠ h := fun e => nh b m2b (List.mem_map.mpr ⟨0, by decide, by omega⟩)
  have f3 : gAt (gmU u2 h) b = gPut (gAt u b) 0 q1 := by
    rw [gmU_at, if_neg nbh, if_neg (fun hh => nh b m2b (List.mem_map.mpr ⟨b - h, List.mem_range.mpr (by omega), by omega⟩)), f2]
  refine gu_putR C hw gq_Replies_17 hin (by rw [f3]; exact ht) rfl rfl d_Replies_init_20 (fun u4 H4 locs k8 k9 k10 hw => ?_)
  have g4 : gNew u u4 ([q1] ++ (List.range 9).map (fun j => h + j)) b := by
    have := (g2.trans g3 (Or.inr rfl)).trans (gNew.put k8 k10) (Or.inr rfl)
    rw [List.append_nil] at this
    exact this
  have m4 : ∀ a, a ∈ u2.1 → a ∈ u4.1 := fun a ha => by rw [k8]; exact List.mem_append_left _ ha
  have m4h : ∀ j, j < 9 → h + j ∈ u4.1 := fun j hj => by rw [k8]; exact List.mem_append_right _ (List.mem_map.mpr ⟨j, List.mem_range.mpr hj, rfl⟩)
  have nbj : ∀ j, j < 9 → h + j ≠ b := fun j hj e => nh b m2b (List.mem_map.mpr ⟨j, List.mem_range.mpr hj, e⟩)
  have f4 : gAt u4 b = gPut (gPut (gAt u b) 0 q1) 1 h := by rw [k9, f3]
  have f5 : gAt u4 q1 = gBl 22 8 := by
    rw [k10 q1 (fun e => hbq e.symm), gmU_at, if_neg (fun e => nh q1 m2q (List.mem_map.mpr ⟨0, by decide, by omega⟩)), if_neg (fun hh => nh q1 m2q (List.mem_map.mpr ⟨q1 - h, List.mem_range.mpr (by omega), by omega⟩)), f1]
  have f6 : gAt u4 h = gTold h := by
    rw [k10 h (fun e => nbh e.symm), gmU_at, if_pos rfl]
    rfl
  have f7 : ∀ j, j < 8 → gAt u4 (h + 1 + j) = gBl 21 3 := fun j hj => by
    have := nbj (1 + j) (by omega)
    rw [k10 (h + 1 + j) (by omega), gmU_at, if_neg (by omega), if_pos (by omega)]
  refine lv_aload_n hx hb d_Replies_init_23 rfl (lv_at hl 0 rfl) ?_
  refine gu_new C hw gn_Replies_20 (Nat.le_of_ble_eq_true rfl) (Nat.le_of_ble_eq_true rfl) d_Replies_init_24 (fun g u5 H5 k11 k12 k13 k14 hw => ?_)
  refine lv_dup hx hb d_Replies_init_27 rfl ?_
  refine lv_bipush (v := 64) hx hb d_Replies_init_28 (by decide) ?_
  refine gu_cI (As := [.int 64]) C hw hNs (c_SortedRow_init (N := 64) l D T z u5 (by decide) (by decide) (by decide) (by rw [k13]; rfl)) gi_Replies_22 rfl hl.1 ⟨Nat.le_of_ble_eq_true rfl, Nat.le_of_ble_eq_true rfl, Nat.le_of_ble_eq_true rfl, Nat.le_of_ble_eq_true rfl⟩ (Nat.le_of_ble_eq_true rfl) rfl d_Replies_init_30 (fun u6 H6 locs hP hw => ?_)
  obtain ⟨w, n1, n2, n3⟩ := hP
  have hw1 : w ∉ u5.1 := n1.2.1 w (List.mem_singleton.mpr rfl)
  have m5 : ∀ a, a ∈ u4.1 → a ∈ u5.1 := fun a ha => by rw [k12]; exact List.mem_append_left _ ha
  have keep : ∀ a, a ∈ u4.1 → gAt u6 a = gAt u4 a := fun a ha => by
    have e1 := ne_of_mem k11 ha
    have e2 := ne_of_mem hw1 (m5 a ha)
    rw [n1.2.2.2 a (fun hh => e2 (List.mem_singleton.mp hh)) e1, k14 a e1]
  have hgw : g ≠ w := ne_of_mem hw1 (by rw [k12]; exact List.mem_append_right _ (List.mem_singleton.mpr rfl))
  have ngb : b ≠ g := ne_of_mem k11 (m4 b m2b)
  have nwb : b ≠ w := ne_of_mem hw1 (m5 b (m4 b m2b))
  refine gu_putR C hw gq_Replies_25 hin (by rw [keep b (m4 b m2b), f4]; exact ht) rfl rfl d_Replies_init_33 (fun u7 H7 locs k15 k16 k17 hw => ?_)
  refine W.widen (Nat.le_of_ble_eq_true rfl) (Nat.le_of_ble_eq_true rfl) (W.vret hx hb hr (fun t ht _ => ⟨⟨u7, rfl, ⟨q1, h, g, w, ?_, ?_, ?_, ?_, fun j hj => ?_, ?_, ?_⟩, ga_o hw ht⟩, hw.2.2.2.1.F ht⟩) hw.2.2.2.1.2.2 d_Replies_init_36)
  · have := ((g4.trans (gNew.one b k11 k12 k14) (Or.inr rfl)).trans n1 (Or.inl (List.mem_append_right _ (List.mem_singleton.mpr rfl)))).trans (gNew.put k15 k17) (Or.inr rfl)
    rw [List.append_nil, List.append_assoc _ [g] [w]] at this
    exact this
  · rw [k16, keep b (m4 b m2b), f4]
  · rw [k17 q1 (fun e => hbq e.symm), keep q1 (m4 q1 m2q), f5]
  · rw [k17 h (fun e => nbh e.symm), keep h (m4h 0 (by omega)), f6]
  · have e1 := nbj (1 + j) (by omega)
    have e2 := m4h (1 + j) (by omega)
    rw [← Nat.add_assoc] at e1 e2
    rw [k17 _ e1, keep _ e2, f7 j hj]
  · rw [k17 g (fun e => ngb e.symm), n3, k13]
  · rw [k17 w (fun e => nwb e.symm), n2]
