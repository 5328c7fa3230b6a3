-- Constructors: Question, Post
theorem gNew.keep {u v : gG} {N : List Nat} {a b : Nat} (h : gNew u v N b) (ha : a ∈ u.1) (hne : a ≠ b) : gAt v a = gAt u a := h.2.2.2 a (fun hm => h.2.1 a hm ha) hne
theorem gNew.mem {u v : gG} {N : List Nat} {a b : Nat} (h : gNew u v N b) (ha : a ∈ u.1) : a ∈ v.1 := by rw [h.1]; exact List.mem_append_left _ ha
theorem gNew.memN {u v : gG} {N : List Nat} {a b : Nat} (h : gNew u v N b) (ha : a ∈ N) : a ∈ v.1 := by rw [h.1]; exact List.mem_append_right _ ha
theorem gNew.ne {u v : gG} {N : List Nat} {a b d : Nat} (h : gNew u v N b) (ha : a ∈ u.1) (hd : d ∈ N) : a ≠ d := fun e => h.2.1 d hd (by rw [← e]; exact ha)
theorem gNew.nil {u : gG} {b : Nat} : gNew u u [] b := gNew.put rfl (fun _ _ => rfl)
theorem inc_nI (i : Nat) : nI i + Int32.ofInt 1 = nI (i + 1) := nI_add i 1
/-- i references are in -/
def gRow (t n : Nat) (rr : Nat → Nat) (i : Nat) : gCell := (t, n, (fun l => if l < i then some (rr l) else none), (fun _ => 0), (fun _ => 0))
theorem gRow_0 (t n : Nat) (rr : Nat → Nat) : gBl t n = gRow t n rr 0 := rfl
theorem gRow_put (t n : Nat) (rr : Nat → Nat) (i r : Nat) : gPut (gRow t n rr i) i r = gRow t n (va_up rr i r) (i + 1) := by
  unfold gPut gRow
  dsimp only
  congr 3
  funext l
  unfold va_up
  by_cases e : l = i
  · rw [if_pos e, if_pos (by omega), if_pos e]
  · rw [if_neg e, if_neg e]
    dsimp only
    by_cases e2 : l < i
    · rw [if_pos e2, if_pos (by omega)]
    · rw [if_neg e2, if_neg (by omega)]
theorem flat_congr {f g : Nat → List Nat} {n : Nat} (h : ∀ l, l < n → f l = g l) : (List.range n).flatMap f = (List.range n).flatMap g := by
  induction n with
  | zero => rfl
  | succ n ih =>
    rw [List.range_succ, List.flatMap_append, List.flatMap_append, ih (fun l hl => h l (by omega))]
    simp only [List.flatMap_cons, List.flatMap_nil, h n (by omega)]
theorem flat_succ {f : Nat → List Nat} {n : Nat} : (List.range (n + 1)).flatMap f = (List.range n).flatMap f ++ f n := by
  rw [List.range_succ, List.flatMap_append]
  simp only [List.flatMap_cons, List.flatMap_nil, List.append_nil]
def P_Question (u : gG) (b : Nat) (v : gG) : Prop := ∃ mk fr rp q1 h g w sc as, ∃ rr vv : Nat → Nat, gNew u v ([mk, fr, rp] ++ ([q1] ++ (List.range 9).map (fun j => h + j) ++ [g, w]) ++ [sc, as] ++ (List.range 8).flatMap (fun l => [rr l, vv l])) b ∧ gAt v b = gPut (gPut (gPut (gPut (gPut (gAt u b) 0 mk) 1 fr) 2 rp) 3 sc) 4 as ∧ gAt v mk = gBl 21 8 ∧ gAt v fr = gRow 27 8 rr 8 ∧ gAt v rp = gPut (gPut (gPut (gBl 5 0) 0 q1) 1 h) 2 g ∧ gAt v q1 = gBl 22 8 ∧ gAt v h = gTold h ∧ (∀ j, j < 8 → gAt v (h + 1 + j) = gBl 21 3) ∧ gAt v g = gPut (gBl 7 0) 0 w ∧ gAt v w = gBl 21 64 ∧ gAt v sc = gBl 6 0 ∧ gAt v as = gBl 21 3 ∧ ∀ l, l < 8 → gAt v (rr l) = gPut (gBl 7 0) 0 (vv l) ∧ gAt v (vv l) = gBl 21 500
def rm_Question_init : Room := { frames := 3, locals := 53, cells := 33, slots := 4153 }
set_option maxHeartbeats 4000000 in
set_option maxRecDepth 100000 in
theorem c_Question_init (l : Launch) (D : va_G) (T : Nat → ClassId) (z : Nat) (u : gG) {b : Nat} (ht : (gAt u b).1 = 4) : gu_Nv l y_Question_init prog_5_method_1_code 2 rm_Question_init [.ref b] D T z u (P_Question u b) := by
  refine Met.ofW (cc := prog_5_method_1_code) (maxL := 2) (ret := none) (by decide) rfl ?_
  intro p e s m args below meth c s₁ B hml hv
  obtain ⟨ha, hv, hNs⟩ := hv
  have hx := B.exec
  have hb := B.bytes
  have hr := B.returns
  have hin : meth.name = "<init>" := (name_of_methodNamed B.named B.method).1
  have hts := atoms_spec (ws := .code y_Question_init prog_5_method_1_code 2 none :: ga_ws) B.pre
  have hown : s.vm.findClass "RankHouse$Question" = some m.cls := findClass_of_methodNamed B.named
  have C : CallFix p m c prog_5_method_1_code 2 s args ga_ws "RankHouse$Question" := ⟨hx, hb, hml, hown, fun w h => hts w (List.mem_cons_of_mem _ h)⟩
  have hw : gWu D T z u s s.heap [] := ga_start hv
  have hl := lv_entry ([.ref b]) (n := 2) (Nat.le_of_ble_eq_true rfl)
  rw [show entryFrame m args 2 = entryFrame m ([.ref b] : List Value).toArray 2 by rw [ha], lg_entry_eq]
  generalize (lg_sl ([.ref b]) ++ List.replicate (2 - (lg_sl ([.ref b])).length) Slot.unset).toArray = ls at hl ⊢
  have hl : lv_has ls 2 [(0, .ref b)] := hl
  refine lv_aload_n hx hb d_Question_init_0 rfl (lv_at hl 0 rfl) ?_
  refine W.objInit hx hb hown (C.2.2.2.2 _ gw_312) (C.2.2.2.2 _ gw_24) (C.2.2.2.2 _ gw_25) rfl (by rw [hml]; exact hl.1) rfl d_Question_init_1 (Nat.le_of_ble_eq_true rfl) (Nat.le_of_ble_eq_true rfl) ?_
  refine W.eq (g2 := F0 m 4 ls []) rfl ?_
  have hbL : b ∈ u.1 := hw.2.2.2.2.1 b (by have : u.2.1.1 b = (gAt u b).1 := rfl; omega)
  refine lv_aload_n hx hb d_Question_init_4 rfl (lv_at hl 0 rfl) ?_
  refine lv_bipush (v := 8) hx hb d_Question_init_5 (by decide) ?_
  refine gu_newI (N := 8) C hw (by decide) (by decide) (by decide) (Nat.le_of_ble_eq_true rfl) (Nat.le_of_ble_eq_true rfl) d_Question_init_7 (fun mk u1 H1 a1 a2 a3 a4 hw => ?_)
  have n1 := gNew.one b a1 a2 a4
  have bmk := ne_of_mem a1 hbL
  refine gu_putR C hw gq_Question_9 hin (by rw [a4 b bmk]; exact ht) rfl rfl d_Question_init_9 (fun u2 H2 locs a5 a6 a7 hw => ?_)
  have n2 : gNew u u2 [mk] b := n1.trans (gNew.put a5 a7) (Or.inr rfl)
  have e2 : gAt u2 b = gPut (gAt u b) 0 mk := by rw [a6, a4 b bmk]
  have x2 : gAt u2 mk = gBl 21 8 := by rw [a7 mk bmk.symm, a3]
  have M2 : b ∈ u2.1 := n2.mem hbL
  have K2 : mk ∈ u2.1 := n2.memN (List.mem_singleton.mpr rfl)
  refine lv_aload_n hx hb d_Question_init_12 rfl (lv_at hl 0 rfl) ?_
  refine lv_bipush (v := 8) hx hb d_Question_init_13 (by decide) ?_
  refine gu_newR (t := 6) (N := 8) (Cn := "RankHouse$SortedRow") C hw rfl (by decide) (by decide) gw_313 (by decide) (by decide) (by decide) (by decide) (Nat.le_of_ble_eq_true rfl) (Nat.le_of_ble_eq_true rfl) d_Question_init_15 (fun fr u3 H3 b1 b2 b3 b4 hw => ?_)
  have bfr := ne_of_mem b1 M2
  have kfr := ne_of_mem b1 K2
  refine gu_putR C hw gq_Question_17 hin (by rw [b4 b bfr, e2]; exact ht) rfl rfl d_Question_init_18 (fun u4 H4 locs b5 b6 b7 hw => ?_)
  have n4 : gNew u u4 [mk, fr] b := (n2.trans (gNew.one b b1 b2 b4) (Or.inr rfl)).trans (gNew.put b5 b7) (Or.inr rfl)
  have e4 : gAt u4 b = gPut (gPut (gAt u b) 0 mk) 1 fr := by rw [b6, b4 b bfr, e2]
  have x4 : gAt u4 mk = gBl 21 8 := by rw [b7 mk bmk.symm, b4 mk kfr, x2]
  have y4 : gAt u4 fr = gBl 27 8 := by rw [b7 fr bfr.symm, b3]
  have M4 : b ∈ u4.1 := n4.mem hbL
  have K4 : mk ∈ u4.1 := n4.memN (by simp)
  have F4 : fr ∈ u4.1 := n4.memN (by simp)
  refine lv_aload_n hx hb d_Question_init_21 rfl (lv_at hl 0 rfl) ?_
  refine gu_new C hw gn_Question_21 (Nat.le_of_ble_eq_true rfl) (Nat.le_of_ble_eq_true rfl) d_Question_init_22 (fun rp u5 H5 c1 c2 c3 c4 hw => ?_)
  have n5 := gNew.one b c1 c2 c4
  refine lv_dup hx hb d_Question_init_25 rfl ?_
  refine gu_cN (As := []) C hw hNs (c_Replies_init l D T z u5 (by rw [c3]; rfl)) gi_Question_23 rfl hl.1 ⟨Nat.le_of_ble_eq_true rfl, Nat.le_of_ble_eq_true rfl, Nat.le_of_ble_eq_true rfl, Nat.le_of_ble_eq_true rfl⟩ (Nat.le_of_ble_eq_true rfl) rfl d_Question_init_26 (fun u6 H6 locs hP hw => ?_)
  obtain ⟨q1, h, g, w, n6, r0, r1, r2, r3, r4, r5⟩ := hP
  have n46 := n5.trans n6 (Or.inl (List.mem_singleton.mpr rfl))
  have keep6 : ∀ a, a ∈ u4.1 → gAt u6 a = gAt u4 a := fun a ha => by rw [n6.keep (n5.mem ha) (n5.ne ha (List.mem_singleton.mpr rfl)), c4 a (n5.ne ha (List.mem_singleton.mpr rfl))]
  rw [c3] at r0
  have brp : b ≠ rp := n5.ne M4 (List.mem_singleton.mpr rfl)
  refine gu_putR C hw gq_Question_24 hin (by rw [keep6 b M4, e4]; exact ht) rfl rfl d_Question_init_29 (fun u7 H7 locs c5 c6 c7 hw => ?_)
  have n47 : gNew u4 u7 ([rp] ++ ([q1] ++ (List.range 9).map (fun j => h + j) ++ [g, w])) b := by
    have := n46.trans (gNew.put c5 c7) (Or.inr rfl)
    rw [List.append_nil] at this
    exact this
  have n7 := n4.trans n47 (Or.inr rfl)
  have e7 : gAt u7 b = gPut (gPut (gPut (gAt u b) 0 mk) 1 fr) 2 rp := by rw [c6, keep6 b M4, e4]
  have x7 : gAt u7 mk = gBl 21 8 := by rw [n47.keep K4 bmk.symm, x4]
  have y7 : gAt u7 fr = gBl 27 8 := by rw [n47.keep F4 bfr.symm, y4]
  have nbN : ∀ a, a ∈ ([q1] ++ (List.range 9).map (fun j => h + j) ++ [g, w]) → a ≠ b := fun a ha e => n6.2.1 a ha (by rw [e]; exact n5.mem M4)
  have z7 : gAt u7 rp = gPut (gPut (gPut (gBl 5 0) 0 q1) 1 h) 2 g := by rw [c7 rp brp.symm, r0]
  have s1 : gAt u7 q1 = gBl 22 8 := by rw [c7 q1 (nbN q1 (by simp)), r1]
  have mh : ∀ j, j < 9 → h + j ∈ ([q1] ++ (List.range 9).map (fun j => h + j) ++ [g, w]) := fun j hj => List.mem_append_left _ (List.mem_append_right _ (List.mem_map.mpr ⟨j, List.mem_range.mpr hj, rfl⟩))
  have s2 : gAt u7 h = gTold h := by rw [c7 h (nbN h (mh 0 (by omega))), r2]
  have s3 : ∀ j, j < 8 → gAt u7 (h + 1 + j) = gBl 21 3 := fun j hj => by
    have := nbN _ (mh (1 + j) (by omega))
    rw [← Nat.add_assoc] at this
    rw [c7 _ this, r3 j hj]
  have s4 : gAt u7 g = gPut (gBl 7 0) 0 w := by rw [c7 g (nbN g (by simp)), r4]
  have s5 : gAt u7 w = gBl 21 64 := by rw [c7 w (nbN w (by simp)), r5]
  have M7 : b ∈ u7.1 := n7.mem hbL
  refine lv_aload_n hx hb d_Question_init_32 rfl (lv_at hl 0 rfl) ?_
  refine gu_new C hw gn_Question_28 (Nat.le_of_ble_eq_true rfl) (Nat.le_of_ble_eq_true rfl) d_Question_init_33 (fun sc u8 H8 g1 g2 g3 g4 hw => ?_)
  have n8 := gNew.one b g1 g2 g4
  have bsc := ne_of_mem g1 M7
  refine lv_dup hx hb d_Question_init_36 rfl ?_
  refine gu_cN (As := []) C hw hNs (c_Search_init l D T z u8 (by rw [g3]; rfl)) gi_Question_30 rfl hl.1 ⟨Nat.le_of_ble_eq_true rfl, Nat.le_of_ble_eq_true rfl, Nat.le_of_ble_eq_true rfl, Nat.le_of_ble_eq_true rfl⟩ (Nat.le_of_ble_eq_true rfl) rfl d_Question_init_37 (fun u8' H8 locs hP hw => ?_)
  rw [hP] at hw
  refine gu_putR C hw gq_Question_31 hin (by rw [g4 b bsc, e7]; exact ht) rfl rfl d_Question_init_40 (fun u9 H9 locs g5 g6 g7 hw => ?_)
  have n79 : gNew u7 u9 [sc] b := n8.trans (gNew.put g5 g7) (Or.inr rfl)
  have e9 : gAt u9 b = gPut (gPut (gPut (gPut (gAt u b) 0 mk) 1 fr) 2 rp) 3 sc := by rw [g6, g4 b bsc, e7]
  have x9 : gAt u9 sc = gBl 6 0 := by rw [g7 sc bsc.symm, g3]
  have M9 : b ∈ u9.1 := n79.mem M7
  have SC9 : sc ∈ u9.1 := n79.memN (List.mem_singleton.mpr rfl)
  refine lv_aload_n hx hb d_Question_init_43 rfl (lv_at hl 0 rfl) ?_
  refine lv_iconst (v := 3) hx hb d_Question_init_44 (by decide) ?_
  refine gu_newI (N := 3) C hw (by decide) (by decide) (by decide) (Nat.le_of_ble_eq_true rfl) (Nat.le_of_ble_eq_true rfl) d_Question_init_45 (fun as u10 H10 i1 i2 i3 i4 hw => ?_)
  have bas := ne_of_mem i1 M9
  refine gu_putR C hw gq_Question_35 hin (by rw [i4 b bas, e9]; exact ht) rfl rfl d_Question_init_47 (fun u11 H11 locs i5 i6 i7 hw => ?_)
  have n911 : gNew u9 u11 [as] b := (gNew.one b i1 i2 i4).trans (gNew.put i5 i7) (Or.inr rfl)
  have n711 : gNew u7 u11 [sc, as] b := n79.trans n911 (Or.inr rfl)
  have n11 := n7.trans n711 (Or.inr rfl)
  have e11 : gAt u11 b = gPut (gPut (gPut (gPut (gPut (gAt u b) 0 mk) 1 fr) 2 rp) 3 sc) 4 as := by rw [i6, i4 b bas, e9]
  have x11 : gAt u11 as = gBl 21 3 := by rw [i7 as bas.symm, i3]
  have y11 : gAt u11 sc = gBl 6 0 := by rw [n911.keep SC9 bsc.symm, x9]
  have M11 : b ∈ u11.1 := n911.mem M9
  have F7 : fr ∈ u7.1 := n47.mem F4
  have z11 : gAt u11 fr = gBl 27 8 := by rw [n711.keep F7 bfr.symm, y7]
  have F11 : fr ∈ u11.1 := n711.mem F7
  have keep11 : ∀ a, a ∈ u7.1 → a ≠ b → gAt u11 a = gAt u7 a := fun a ha hne => n711.keep ha hne
  refine lv_iconst (v := 0) hx hb d_Question_init_50 (by decide) ?_
  refine lv_istore_n hx hb d_Question_init_51 rfl hl (by decide) rfl (fun ls hl => ?_)
  have hl : lv_has ls 2 [(1, .int (nI 0)), (0, .ref b)] := hl
  -- the loop
  have loop : ∀ (k i : Nat) (v : gG) (H : Heap) (locs : List Loc) (ls : Array Slot) (rr vv : Nat → Nat), i + k = 8 → lv_has ls 2 [(1, .int (nI i)), (0, .ref b)] → gWu D T z v s H locs → gNew u11 v ((List.range i).flatMap (fun l => [rr l, vv l])) fr → gAt v fr = gRow 27 8 rr i → (∀ l, l < i → gAt v (rr l) = gPut (gBl 7 0) 0 (vv l) ∧ gAt v (vv l) = gBl 21 500) → W p l e rm_Question_init s m args below meth c H locs (17 + 2 * i) (137 + 502 * i) (MQ below (va_Qv (fun (v : gG) => P_Question u b v) (fun v t => ga_O D T z v.1 v.2.1 v.2.2.1 v.2.2.2 t) (ga_A z)) args s rm_Question_init.cells rm_Question_init.slots (ga_A z)) (F0 m 52 ls []) := by
    intro k
    induction k with
    | zero =>
      intro i v H locs ls rr vv hi hl hw nv fv rv
      obtain rfl : i = 8 := by omega
      refine lv_iload_n hx hb d_Question_init_52 rfl (lv_at hl 0 rfl) ?_
      refine lv_bipush (v := 8) hx hb d_Question_init_53 (by decide) ?_
      refine lv_icmp_ge (tgt := 80) hx hb d_Question_init_55 (by decide) (fun _ => ?_) (fun hn => absurd (by decide) hn)
      have kv : ∀ a, a ∈ u11.1 → a ≠ fr → gAt v a = gAt u11 a := fun a ha hne => nv.keep ha hne
      have nfin := n11.trans nv (Or.inl (by simp))
      have m7 : ∀ a, a ∈ u7.1 → a ∈ u11.1 := fun a ha => n711.mem ha
      have in7 : ∀ a, a ∈ ([rp] ++ ([q1] ++ (List.range 9).map (fun j => h + j) ++ [g, w])) → a ∈ u7.1 ∧ a ≠ b ∧ a ≠ fr := fun a ha => ⟨n47.memN ha, (n47.ne M4 ha).symm, (n47.ne F4 ha).symm⟩
      have get : ∀ a, a ∈ ([rp] ++ ([q1] ++ (List.range 9).map (fun j => h + j) ++ [g, w])) → gAt v a = gAt u7 a := fun a ha => by
        obtain ⟨j1, j2, j3⟩ := in7 a ha
        rw [kv a (m7 a j1) j3, keep11 a j1 j2]
      refine W.widen (Nat.le_of_ble_eq_true rfl) (Nat.le_of_ble_eq_true rfl) (W.vret hx hb hr (fun t ht _ => ⟨⟨v, rfl, ⟨mk, fr, rp, q1, h, g, w, sc, as, rr, vv, ?_, ?_, ?_, ?_, ?_, ?_, ?_, fun j hj => ?_, ?_, ?_, ?_, ?_, rv⟩, ga_o hw ht⟩, hw.2.2.2.1.F ht⟩) hw.2.2.2.1.2.2 d_Question_init_80)
      · exact nfin
      · rw [kv b M11 bfr, e11]
      · rw [kv mk (m7 mk (n47.mem K4)) kfr, keep11 mk (n47.mem K4) bmk.symm, x7]
      · exact fv
      · rw [get rp (by simp), z7]
      · rw [get q1 (by simp), s1]
      · rw [get h (List.mem_append_right _ (mh 0 (by omega))), s2]
      · have := get _ (List.mem_append_right _ (mh (1 + j) (by omega)))
        rw [← Nat.add_assoc] at this
        rw [this, s3 j hj]
      · rw [get g (by simp), s4]
      · rw [get w (by simp), s5]
      · rw [kv sc (n911.mem SC9) (n79.ne F7 (List.mem_singleton.mpr rfl)).symm, y11]
      · rw [kv as (n911.memN (List.mem_singleton.mpr rfl)) (n911.ne (n79.mem F7) (List.mem_singleton.mpr rfl)).symm, x11]
    | succ k ih =>
      intro i v H locs ls rr vv hi hl hw nv fv rv
      have hi8 : i < 8 := by omega
      refine lv_iload_n hx hb d_Question_init_52 rfl (lv_at hl 0 rfl) ?_
      refine lv_bipush (v := 8) hx hb d_Question_init_53 (by decide) ?_
      refine lv_icmp_ge (tgt := 80) hx hb d_Question_init_55 (by decide) (fun hp => absurd hp (by rw [ev_K2 (by omega) (by decide)]; omega)) (fun _ => ?_)
      refine lv_aload_n hx hb d_Question_init_58 rfl (lv_at hl 1 rfl) ?_
      have evb : gAt v b = gAt u11 b := nv.keep M11 bfr
      refine gu_getR (b := fr) C hw gf_Question_17 (by rw [evb, e11]; exact ht) (by rw [evb, e11]; rfl) d_Question_init_59 ?_
      refine lv_iload_n hx hb d_Question_init_62 rfl (lv_at hl 0 rfl) ?_
      refine gu_new C hw gn_Question_15 (by show 17 + 2 * i + 1 ≤ 33; omega) (by show 137 + 502 * i + 2 ≤ 4153; omega) d_Question_init_63 (fun r w1 H1 k1 k2 k3 k4 hw => ?_)
      refine lv_dup hx hb d_Question_init_66 rfl ?_
      refine lv_sipush (v := 500) hx hb d_Question_init_67 (by decide) ?_
      refine gu_cI (As := [.int 500]) C hw hNs (c_SortedRow_init (N := 500) l D T z w1 (by decide) (by decide) (by decide) (by rw [k3]; rfl)) gi_Question_38 rfl hl.1 ⟨Nat.le_of_ble_eq_true rfl, Nat.le_of_ble_eq_true rfl, by show 17 + 2 * i + 1 + 1 ≤ 33; omega, by show 137 + 502 * i + 2 + 500 ≤ 4153; omega⟩ (Nat.le_of_ble_eq_true rfl) rfl d_Question_init_70 (fun w2 H2 locs hP hw => ?_)
      obtain ⟨y, m1, m2, m3⟩ := hP
      have o1 := gNew.one fr k1 k2 k4
      have o2 : gNew v w2 [r, y] fr := o1.trans m1 (Or.inl (List.mem_singleton.mpr rfl))
      have Fv : fr ∈ v.1 := nv.mem F11
      have kf : gAt w2 fr = gRow 27 8 rr i := by rw [m1.keep (o1.mem Fv) (o1.ne Fv (List.mem_singleton.mpr rfl)), k4 fr (ne_of_mem k1 Fv), fv]
      refine gu_rast (t := 6) (N := 2) (k := i) (Cn := "RankHouse$SortedRow") (Tb := F_6) (ci := 6) C hw (by rw [kf]; rfl) (by decide) rfl rfl (by decide) (by rw [m3, k3]; rfl) (nI_clamp (by omega)) (by rw [kf]; exact nI_in (N := 8) (by omega) (by omega)) d_Question_init_73 (fun w3 H3 locs k5 k6 k7 hw => ?_)
      refine lv_iinc (k := 0) hx hb d_Question_init_74 hl rfl (inc_nI i) (by decide) rfl (fun ls hl => ?_)
      refine lv_goto (tgt := 52) hx hb d_Question_init_77 (by decide) ?_
      have o3 : gNew v w3 [r, y] fr := o2.trans (gNew.put k5 k7) (Or.inr rfl)
      have rne : r ≠ fr := (ne_of_mem k1 Fv).symm
      have yne : y ≠ fr := (m1.ne (o1.mem Fv) (List.mem_singleton.mpr rfl)).symm
      have old : ∀ l, l < i → va_up rr i r l = rr l ∧ va_up vv i y l = vv l := fun l hl => ⟨va_up_ne _ _ (by omega), va_up_ne _ _ (by omega)⟩
      refine W.widen (show 17 + 2 * i + 1 + 1 ≤ 17 + 2 * (i + 1) by omega) (show 137 + 502 * i + 2 + 500 ≤ 137 + 502 * (i + 1) by omega) (ih (i + 1) w3 H3 locs ls (va_up rr i r) (va_up vv i y) (by omega) hl hw ?_ ?_ (fun l hl => ?_))
      · rw [flat_succ, va_up_self, va_up_self, flat_congr (g := fun l => [rr l, vv l]) (fun l hl => by rw [(old l hl).1, (old l hl).2])]
        exact nv.trans o3 (Or.inr rfl)
      · rw [k6, kf, gRow_put]
      · by_cases e : l = i
        · subst e
          rw [va_up_self, va_up_self, k7 r rne, m3, k3, k7 y yne, m2]
          exact ⟨rfl, rfl⟩
        · have hl' : l < i := by omega
          rw [(old l hl').1, (old l hl').2]
          have q1 : rr l ∈ v.1 := nv.memN (List.mem_flatMap.mpr ⟨l, List.mem_range.mpr hl', by simp⟩)
          have q2 : vv l ∈ v.1 := nv.memN (List.mem_flatMap.mpr ⟨l, List.mem_range.mpr hl', by simp⟩)
          have q3 : rr l ≠ fr := (nv.ne F11 (List.mem_flatMap.mpr ⟨l, List.mem_range.mpr hl', by simp⟩)).symm
          have q4 : vv l ≠ fr := (nv.ne F11 (List.mem_flatMap.mpr ⟨l, List.mem_range.mpr hl', by simp⟩)).symm
          rw [o3.keep q1 q3, o3.keep q2 q4]
          exact rv l hl'
  exact loop 8 0 u11 H11 locs ls (fun _ => 0) (fun _ => 0) (by omega) hl hw gNew.nil z11 (fun l hl => by omega)
