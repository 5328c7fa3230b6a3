-- Constructors: Post, RankHouse, RankHouseModel
def gOrd (i : Nat) : gCell := (21, 97, (fun _ => none), (fun k => if k < i then nI k else 0), (fun _ => 0))
theorem gOrd_put (i : Nat) : gPi (gOrd i) i (nI i) = gOrd (i + 1) := by
  unfold gPi gOrd
  dsimp only
  congr 4
  funext k
  unfold upd
  by_cases e : k = i
  · rw [if_pos e, if_pos (by omega), e]
  · rw [if_neg e]
    dsimp only
    by_cases e2 : k < i
    · rw [if_pos e2, if_pos (by omega)]
    · rw [if_neg e2, if_neg (by omega)]
def P_Post (u : gG) (b : Nat) (v : gG) : Prop := ∃ sh od, ∃ rr ww : Nat → Nat, gNew u v ([sh, od] ++ (List.range 97).flatMap (fun k => [rr k, ww k])) b ∧ gAt v b = gPut (gPut (gAt u b) 0 sh) 1 od ∧ gAt v sh = gRow 26 97 rr 97 ∧ gAt v od = gOrd 97 ∧ ∀ k, k < 97 → gAt v (rr k) = gPut (gBl 1 0) 0 (ww k) ∧ gAt v (ww k) = gBl 21 64
def rm_Post_init : Room := { frames := 2, locals := 32, cells := 196, slots := 7275 }
set_option maxHeartbeats 4000000 in
set_option maxRecDepth 100000 in
theorem c_Post_init (l : Launch) (D : va_G) (T : Nat → ClassId) (z : Nat) (u : gG) {b : Nat} (ht : (gAt u b).1 = 3) : gu_Nv l y_Post_init prog_4_method_1_code 2 rm_Post_init [.ref b] D T z u (P_Post u b) := by
  refine Met.ofW (cc := prog_4_method_1_code) (maxL := 2) (ret := none) (by decide) rfl ?_
  intro p e s m args below meth c s₁ B hml hv
  obtain ⟨ha, hv, hNs⟩ := hv
  have hx := B.exec
  have hb := B.bytes
  have hr := B.returns
  have hin : meth.name = "<init>" := (name_of_methodNamed B.named B.method).1
  have hts := atoms_spec (ws := .code y_Post_init prog_4_method_1_code 2 none :: ga_ws) B.pre
  have hown : s.vm.findClass "RankHouse$Post" = some m.cls := findClass_of_methodNamed B.named
  have C : CallFix p m c prog_4_method_1_code 2 s args ga_ws "RankHouse$Post" := ⟨hx, hb, hml, hown, fun w h => hts w (List.mem_cons_of_mem _ h)⟩
  have hw : gWu D T z u s s.heap [] := ga_start hv
  have hl := lv_entry ([.ref b]) (n := 2) (Nat.le_of_ble_eq_true rfl)
  rw [show entryFrame m args 2 = entryFrame m ([.ref b] : List Value).toArray 2 by rw [ha], lg_entry_eq]
  generalize (lg_sl ([.ref b]) ++ List.replicate (2 - (lg_sl ([.ref b])).length) Slot.unset).toArray = ls at hl ⊢
  have hl : lv_has ls 2 [(0, .ref b)] := hl
  refine lv_aload_n hx hb d_Post_init_0 rfl (lv_at hl 0 rfl) ?_
  refine W.objInit hx hb hown (C.2.2.2.2 _ gw_67) (C.2.2.2.2 _ gw_24) (C.2.2.2.2 _ gw_25) rfl (by rw [hml]; exact hl.1) rfl d_Post_init_1 (Nat.le_of_ble_eq_true rfl) (Nat.le_of_ble_eq_true rfl) ?_
  refine W.eq (g2 := F0 m 4 ls []) rfl ?_
  have hbL : b ∈ u.1 := hw.2.2.2.2.1 b (by have : u.2.1.1 b = (gAt u b).1 := rfl; omega)
  refine lv_aload_n hx hb d_Post_init_4 rfl (lv_at hl 0 rfl) ?_
  refine lv_bipush (v := 97) hx hb d_Post_init_5 (by decide) ?_
  refine gu_newR (t := 5) (N := 97) (Cn := "RankHouse$Letter") C hw rfl (by decide) (by decide) gw_68 (by decide) (by decide) (by decide) (by decide) (Nat.le_of_ble_eq_true rfl) (Nat.le_of_ble_eq_true rfl) d_Post_init_7 (fun sh u1 H1 a1 a2 a3 a4 hw => ?_)
  have bsh := ne_of_mem a1 hbL
  refine gu_putR C hw gq_Post_11 hin (by rw [a4 b bsh]; exact ht) rfl rfl d_Post_init_10 (fun u2 H2 locs a5 a6 a7 hw => ?_)
  have n2 : gNew u u2 [sh] b := (gNew.one b a1 a2 a4).trans (gNew.put a5 a7) (Or.inr rfl)
  have e2 : gAt u2 b = gPut (gAt u b) 0 sh := by rw [a6, a4 b bsh]
  have x2 : gAt u2 sh = gBl 26 97 := by rw [a7 sh bsh.symm, a3]
  have M2 : b ∈ u2.1 := n2.mem hbL
  have S2 : sh ∈ u2.1 := n2.memN (List.mem_singleton.mpr rfl)
  refine lv_aload_n hx hb d_Post_init_13 rfl (lv_at hl 0 rfl) ?_
  refine lv_bipush (v := 97) hx hb d_Post_init_14 (by decide) ?_
  refine gu_newI (N := 97) C hw (by decide) (by decide) (by decide) (Nat.le_of_ble_eq_true rfl) (Nat.le_of_ble_eq_true rfl) d_Post_init_16 (fun od u3 H3 b1 b2 b3 b4 hw => ?_)
  have bod := ne_of_mem b1 M2
  have sod := ne_of_mem b1 S2
  refine gu_putR C hw gq_Post_17 hin (by rw [b4 b bod, e2]; exact ht) rfl rfl d_Post_init_18 (fun u4 H4 locs b5 b6 b7 hw => ?_)
  have n4 : gNew u u4 [sh, od] b := (n2.trans (gNew.one b b1 b2 b4) (Or.inr rfl)).trans (gNew.put b5 b7) (Or.inr rfl)
  have e4 : gAt u4 b = gPut (gPut (gAt u b) 0 sh) 1 od := by rw [b6, b4 b bod, e2]
  have x4 : gAt u4 sh = gBl 26 97 := by rw [b7 sh bsh.symm, b4 sh sod, x2]
  have y4 : gAt u4 od = gBl 21 97 := by rw [b7 od bod.symm, b3]
  refine lv_iconst (v := 0) hx hb d_Post_init_21 (by decide) ?_
  refine lv_istore_n hx hb d_Post_init_22 rfl hl (by decide) rfl (fun ls hl => ?_)
  have hl : lv_has ls 2 [(1, .int (nI 0)), (0, .ref b)] := hl
  have loop : ∀ (k i : Nat) (v : gG) (H : Heap) (locs : List Loc) (ls : Array Slot) (rr ww : Nat → Nat), i + k = 97 → lv_has ls 2 [(1, .int (nI i)), (0, .ref b)] → gWu D T z v s H locs → gNew u v ([sh, od] ++ (List.range i).flatMap (fun l => [rr l, ww l])) b → gAt v b = gPut (gPut (gAt u b) 0 sh) 1 od → gAt v sh = gRow 26 97 rr i → gAt v od = gOrd i → (∀ l, l < i → gAt v (rr l) = gPut (gBl 1 0) 0 (ww l) ∧ gAt v (ww l) = gBl 21 64) → W p l e rm_Post_init s m args below meth c H locs (2 + 2 * i) (194 + 73 * i) (MQ below (va_Qv (fun (v : gG) => P_Post u b v) (fun v t => ga_O D T z v.1 v.2.1 v.2.2.1 v.2.2.2 t) (ga_A z)) args s rm_Post_init.cells rm_Post_init.slots (ga_A z)) (F0 m 23 ls []) := by
    intro k
    induction k with
    | zero =>
      intro i v H locs ls rr ww hi hl hw nv ev sv ov rv
      obtain rfl : i = 97 := by omega
      refine lv_iload_n hx hb d_Post_init_23 rfl (lv_at hl 0 rfl) ?_
      refine lv_bipush (v := 96) hx hb d_Post_init_24 (by decide) ?_
      refine lv_icmp_gt (tgt := 55) hx hb d_Post_init_26 (by decide) (fun _ => ?_) (fun hn => absurd (by decide) hn)
      exact W.widen (Nat.le_of_ble_eq_true rfl) (Nat.le_of_ble_eq_true rfl) (W.vret hx hb hr (fun t ht _ => ⟨⟨v, rfl, ⟨sh, od, rr, ww, nv, ev, sv, ov, rv⟩, ga_o hw ht⟩, hw.2.2.2.1.F ht⟩) hw.2.2.2.1.2.2 d_Post_init_55)
    | succ k ih =>
      intro i v H locs ls rr ww hi hl hw nv ev sv ov rv
      have Mb : b ∈ v.1 := nv.mem hbL
      have Ms : sh ∈ v.1 := nv.memN (List.mem_append_left _ (by simp))
      have Mo : od ∈ v.1 := nv.memN (List.mem_append_left _ (by simp))
      refine lv_iload_n hx hb d_Post_init_23 rfl (lv_at hl 0 rfl) ?_
      refine lv_bipush (v := 96) hx hb d_Post_init_24 (by decide) ?_
      refine lv_icmp_gt (tgt := 55) hx hb d_Post_init_26 (by decide) (fun hp => absurd hp (by rw [ev_K4 (by omega) (by decide)]; omega)) (fun _ => ?_)
      refine lv_aload_n hx hb d_Post_init_29 rfl (lv_at hl 1 rfl) ?_
      refine gu_getR (b := sh) C hw gf_Post_11 (by rw [ev]; exact ht) (by rw [ev]; rfl) d_Post_init_30 ?_
      refine lv_iload_n hx hb d_Post_init_33 rfl (lv_at hl 0 rfl) ?_
      refine gu_new C hw gn_Post_9 (by show 2 + 2 * i + 1 ≤ 196; omega) (by show 194 + 73 * i + 9 ≤ 7275; omega) d_Post_init_34 (fun r w1 H1 k1 k2 k3 k4 hw => ?_)
      have o1 := gNew.one b k1 k2 k4
      refine lv_dup hx hb d_Post_init_37 rfl ?_
      refine gu_cN (As := []) C hw hNs (c_Letter_init l D T z w1 (by rw [k3]; rfl)) gi_Post_21 rfl hl.1 ⟨Nat.le_of_ble_eq_true rfl, Nat.le_of_ble_eq_true rfl, by show 2 + 2 * i + 1 + 1 ≤ 196; omega, by show 194 + 73 * i + 9 + 64 ≤ 7275; omega⟩ (Nat.le_of_ble_eq_true rfl) rfl d_Post_init_38 (fun w2 H2 locs hP hw => ?_)
      obtain ⟨y, m1, m2, m3⟩ := hP
      have o2 : gNew v w2 [r, y] b := o1.trans m1 (Or.inl (List.mem_singleton.mpr rfl))
      have keep2 : ∀ a, a ∈ v.1 → gAt w2 a = gAt v a := fun a ha => by rw [m1.keep (o1.mem ha) (o1.ne ha (List.mem_singleton.mpr rfl)), k4 a (ne_of_mem k1 ha)]
      refine gu_rast (t := 5) (N := 9) (k := i) (Cn := "RankHouse$Letter") (Tb := F_0) (ci := 0) C hw (by rw [keep2 sh Ms, sv]; rfl) (by decide) rfl rfl (by decide) (by rw [m3, k3]; rfl) (nI_clamp (by omega)) (by rw [keep2 sh Ms, sv]; exact nI_in (N := 97) (by omega) (by omega)) d_Post_init_41 (fun w3 H3 locs k5 k6 k7 hw => ?_)
      refine lv_aload_n hx hb d_Post_init_42 rfl (lv_at hl 1 rfl) ?_
      have e3 : gAt w3 b = gPut (gPut (gAt u b) 0 sh) 1 od := by rw [k7 b bsh, keep2 b Mb, ev]
      have o3' : gAt w3 od = gOrd i := by rw [k7 od sod.symm, keep2 od Mo, ov]
      refine gu_getR (b := od) C hw gf_Post_17 (by rw [e3]; exact ht) (by rw [e3]; rfl) d_Post_init_43 ?_
      refine lv_iload_n hx hb d_Post_init_46 rfl (lv_at hl 0 rfl) ?_
      refine lv_iload_n hx hb d_Post_init_47 rfl (lv_at hl 0 rfl) ?_
      refine gu_iast (k := i) C hw (by rw [o3']; rfl) (nI_clamp (by omega)) (by rw [o3']; exact nI_in (N := 97) (by omega) (by omega)) d_Post_init_48 (fun w4 H4 locs k8 k9 k10 hw => ?_)
      refine lv_iinc (k := 0) hx hb d_Post_init_49 hl rfl (inc_nI i) (by decide) rfl (fun ls hl => ?_)
      refine lv_goto (tgt := 23) hx hb d_Post_init_52 (by decide) ?_
      have hsN : sh ∈ ([sh, od] ++ (List.range i).flatMap (fun l => [rr l, ww l])) := List.mem_append_left _ (by simp)
      have hoN : od ∈ ([sh, od] ++ (List.range i).flatMap (fun l => [rr l, ww l])) := List.mem_append_left _ (by simp)
      have nn : gNew u w4 (([sh, od] ++ (List.range i).flatMap (fun l => [rr l, ww l])) ++ [r, y]) b := by
        have := ((nv.trans o2 (Or.inr rfl)).trans (gNew.put k5 k7) (Or.inl (List.mem_append_left _ hsN))).trans (gNew.put k8 k10) (Or.inl (by rw [List.append_nil]; exact List.mem_append_left _ hoN))
        rw [List.append_nil, List.append_nil] at this
        exact this
      have rs : r ≠ sh := (ne_of_mem k1 Ms).symm
      have ro : r ≠ od := (ne_of_mem k1 Mo).symm
      have ys : y ≠ sh := (m1.ne (o1.mem Ms) (List.mem_singleton.mpr rfl)).symm
      have yo : y ≠ od := (m1.ne (o1.mem Mo) (List.mem_singleton.mpr rfl)).symm
      have old : ∀ l, l < i → va_up rr i r l = rr l ∧ va_up ww i y l = ww l := fun l hl => ⟨va_up_ne _ _ (by omega), va_up_ne _ _ (by omega)⟩
      refine W.widen (show 2 + 2 * i + 1 + 1 ≤ 2 + 2 * (i + 1) by omega) (show 194 + 73 * i + 9 + 64 ≤ 194 + 73 * (i + 1) by omega) (ih (i + 1) w4 H4 locs ls (va_up rr i r) (va_up ww i y) (by omega) hl hw ?_ ?_ ?_ ?_ (fun l hl => ?_))
      · rw [flat_succ, va_up_self, va_up_self, flat_congr (g := fun l => [rr l, ww l]) (fun l hl => by rw [(old l hl).1, (old l hl).2]), ← List.append_assoc]
        exact nn
      · rw [k10 b bod, e3]
      · rw [k10 sh sod, k6, keep2 sh Ms, sv, gRow_put]
      · rw [k9, o3', gOrd_put]
      · by_cases e : l = i
        · subst e
          rw [va_up_self, va_up_self, k10 r ro, k7 r rs, m3, k3, k10 y yo, k7 y ys, m2]
          exact ⟨rfl, rfl⟩
        · have hl' : l < i := by omega
          rw [(old l hl').1, (old l hl').2]
          have g1 : rr l ∈ (List.range i).flatMap (fun l => [rr l, ww l]) := List.mem_flatMap.mpr ⟨l, List.mem_range.mpr hl', by simp⟩
          have g2 : ww l ∈ (List.range i).flatMap (fun l => [rr l, ww l]) := List.mem_flatMap.mpr ⟨l, List.mem_range.mpr hl', by simp⟩
          have nd := List.nodup_append.mp nv.2.2.1
          have c1 : ∀ x, x ∈ (List.range i).flatMap (fun l => [rr l, ww l]) → x ≠ sh ∧ x ≠ od := fun x hx => ⟨fun e => nd.2.2 sh (by simp) x hx e.symm, fun e => nd.2.2 od (by simp) x hx e.symm⟩
          rw [k10 _ (c1 _ g1).2, k7 _ (c1 _ g1).1, keep2 _ (nv.memN (List.mem_append_right _ g1)), k10 _ (c1 _ g2).2, k7 _ (c1 _ g2).1, keep2 _ (nv.memN (List.mem_append_right _ g2))]
          exact rv l hl'
  exact loop 97 0 u4 H4 locs ls (fun _ => 0) (fun _ => 0) (by omega) hl hw n4 e4 x4 y4 (fun l hl => by omega)
/-- the reference's arrays made so far -/
def MI (u : gG) (b : Nat) (F : List Nat) (v : gG) : Prop := ∃ R : Nat → Nat, gNew u v (F.map R) b ∧ (gAt v b).1 = 9 ∧ (gAt v b).2.2.2 = (gAt u b).2.2.2 ∧ (∀ f, f ∈ F → (gAt v b).2.2.1 f = some (R f)) ∧ ∀ f, f ∈ F → gAt v (R f) = gBl (rT f) (rN f)
theorem MI.mem {u v : gG} {b : Nat} {F : List Nat} (h : MI u b F v) (hb : b ∈ u.1) : b ∈ v.1 := by
  obtain ⟨R, h1, -⟩ := h
  exact h1.mem hb
theorem MI.tag {u v : gG} {b : Nat} {F : List Nat} (h : MI u b F v) : (gAt v b).1 = 9 := by
  obtain ⟨R, -, h2, -⟩ := h
  exact h2
theorem MI.step {u v v1 v2 : gG} {b f q : Nat} {F : List Nat} (h : MI u b F v) (hb : b ∈ u.1) (hf : f ∉ F) (k1 : q ∉ v.1) (k2 : v1.1 = v.1 ++ [q]) (k3 : gAt v1 q = gBl (rT f) (rN f)) (k4 : ∀ a, a ≠ q → gAt v1 a = gAt v a) (k5 : v2.1 = v1.1) (k6 : gAt v2 b = gPut (gAt v1 b) f q) (k7 : ∀ d, d ≠ b → gAt v2 d = gAt v1 d) : MI u b (F ++ [f]) v2 := by
  have hbv := h.mem hb
  obtain ⟨R, h1, h2, h3, h4, h5⟩ := h
  have bq := ne_of_mem k1 hbv
  have e1 : gAt v2 b = gPut (gAt v b) f q := by rw [k6, k4 b bq]
  have old : ∀ g, g ∈ F → va_up R f q g = R g := fun g hg => va_up_ne _ _ (fun e => hf (by rw [← e]; exact hg))
  refine ⟨va_up R f q, ?_, by rw [e1]; exact h2, by rw [e1]; exact h3, fun g hg => ?_, fun g hg => ?_⟩
  · have := (h1.trans (gNew.one b k1 k2 k4) (Or.inr rfl)).trans (gNew.put k5 k7) (Or.inr rfl)
    rw [List.append_nil] at this
    rw [List.map_append, List.map_singleton, va_up_self, List.map_congr_left old]
    exact this
  · rcases List.mem_append.mp hg with hg | hg
    · rw [e1, old g hg]
      show va_up _ f _ g = _
      rw [va_up_ne _ _ (fun e => hf (by rw [← e]; exact hg))]
      exact h4 g hg
    · rw [List.mem_singleton.mp hg, e1, va_up_self]
      exact va_up_self _ _ _
  · rcases List.mem_append.mp hg with hg | hg
    · have hm : R g ∈ v.1 := h1.memN (List.mem_map.mpr ⟨g, hg, rfl⟩)
      have hnb : R g ≠ b := (h1.ne hb (List.mem_map.mpr ⟨g, hg, rfl⟩)).symm
      rw [old g hg, k7 _ hnb, k4 _ (ne_of_mem k1 hm)]
      exact h5 g hg
    · rw [List.mem_singleton.mp hg, va_up_self, k7 q bq.symm, k3]
def mFl : List Nat := [1, 2, 3, 5, 6, 7, 8, 9, 10, 11, 12, 13, 14, 15, 16, 17, 18, 19, 20, 21, 22, 23, 24, 25, 26, 27, 28, 29, 30, 31, 33, 34, 35, 36]
def rm_M_init : Room := { frames := 1, locals := 12, cells := 34, slots := 15768 }
set_option maxHeartbeats 4000000 in
set_option maxRecDepth 100000 in
theorem c_M_init (l : Launch) (D : va_G) (T : Nat → ClassId) (z : Nat) (u : gG) {b : Nat} (ht : (gAt u b).1 = 9) : gu_Nv l y_M_init prog_10_method_1_code 1 rm_M_init [.ref b] D T z u (MI u b mFl) := by
  refine Met.ofW (cc := prog_10_method_1_code) (maxL := 1) (ret := none) (by decide) rfl ?_
  intro p e s m args below meth c s₁ B hml hv
  obtain ⟨ha, hv, hNs⟩ := hv
  have hx := B.exec
  have hb := B.bytes
  have hr := B.returns
  have hin : meth.name = "<init>" := (name_of_methodNamed B.named B.method).1
  have hts := atoms_spec (ws := .code y_M_init prog_10_method_1_code 1 none :: ga_ws) B.pre
  have hown : s.vm.findClass "RankHouseModel" = some m.cls := findClass_of_methodNamed B.named
  have C : CallFix p m c prog_10_method_1_code 1 s args ga_ws "RankHouseModel" := ⟨hx, hb, hml, hown, fun w h => hts w (List.mem_cons_of_mem _ h)⟩
  have hw : gWu D T z u s s.heap [] := ga_start hv
  have hl := lv_entry ([.ref b]) (n := 1) (Nat.le_of_ble_eq_true rfl)
  rw [show entryFrame m args 1 = entryFrame m ([.ref b] : List Value).toArray 1 by rw [ha], lg_entry_eq]
  generalize (lg_sl ([.ref b]) ++ List.replicate (1 - (lg_sl ([.ref b])).length) Slot.unset).toArray = ls at hl ⊢
  have hl : lv_has ls 1 [(0, .ref b)] := hl
  refine lv_aload_n hx hb d_M_init_0 rfl (lv_at hl 0 rfl) ?_
  refine W.objInit hx hb hown (C.2.2.2.2 _ gw_840) (C.2.2.2.2 _ gw_24) (C.2.2.2.2 _ gw_25) rfl (by rw [hml]; exact hl.1) rfl d_M_init_1 (Nat.le_of_ble_eq_true rfl) (Nat.le_of_ble_eq_true rfl) ?_
  refine W.eq (g2 := F0 m 4 ls []) rfl ?_
  have hbL : b ∈ u.1 := hw.2.2.2.2.1 b (by have : u.2.1.1 b = (gAt u b).1 := rfl; omega)
  have mi : MI u b [] u := ⟨fun _ => 0, gNew.nil, ht, rfl, fun f hf => absurd hf List.not_mem_nil, fun f hf => absurd hf List.not_mem_nil⟩
  refine lv_aload_n hx hb d_M_init_4 rfl (lv_at hl 0 rfl) ?_
  refine lv_bipush (v := 8) hx hb d_M_init_5 (by decide) ?_
  refine gu_newZ (N := 8) C hw (by decide) (by decide) (by decide) (Nat.le_of_ble_eq_true rfl) (Nat.le_of_ble_eq_true rfl) d_M_init_7 (fun q u1 H1 k1 k2 k3 k4 hw => ?_)
  refine gu_putR C hw gq_M_7 hin (by rw [k4 b (ne_of_mem k1 (mi.mem hbL))]; exact mi.tag) rfl rfl d_M_init_9 (fun u2 H2 locs k5 k6 k7 hw => ?_)
  have mi := mi.step (f := 1) hbL (by decide) k1 k2 k3 k4 k5 k6 k7
  refine lv_aload_n hx hb d_M_init_12 rfl (lv_at hl 0 rfl) ?_
  refine lv_bipush (v := 8) hx hb d_M_init_13 (by decide) ?_
  refine gu_newI (N := 8) C hw (by decide) (by decide) (by decide) (Nat.le_of_ble_eq_true rfl) (Nat.le_of_ble_eq_true rfl) d_M_init_15 (fun q u1 H1 k1 k2 k3 k4 hw => ?_)
  refine gu_putR C hw gq_M_13 hin (by rw [k4 b (ne_of_mem k1 (mi.mem hbL))]; exact mi.tag) rfl rfl d_M_init_17 (fun u2 H2 locs k5 k6 k7 hw => ?_)
  have mi := mi.step (f := 2) hbL (by decide) k1 k2 k3 k4 k5 k6 k7
  refine lv_aload_n hx hb d_M_init_20 rfl (lv_at hl 0 rfl) ?_
  refine lv_sipush (v := 4000) hx hb d_M_init_21 (by decide) ?_
  refine gu_newI (N := 4000) C hw (by decide) (by decide) (by decide) (Nat.le_of_ble_eq_true rfl) (Nat.le_of_ble_eq_true rfl) d_M_init_24 (fun q u1 H1 k1 k2 k3 k4 hw => ?_)
  refine gu_putR C hw gq_M_17 hin (by rw [k4 b (ne_of_mem k1 (mi.mem hbL))]; exact mi.tag) rfl rfl d_M_init_26 (fun u2 H2 locs k5 k6 k7 hw => ?_)
  have mi := mi.step (f := 3) hbL (by decide) k1 k2 k3 k4 k5 k6 k7
  refine lv_aload_n hx hb d_M_init_29 rfl (lv_at hl 0 rfl) ?_
  refine lv_bipush (v := 8) hx hb d_M_init_30 (by decide) ?_
  refine gu_newI (N := 8) C hw (by decide) (by decide) (by decide) (Nat.le_of_ble_eq_true rfl) (Nat.le_of_ble_eq_true rfl) d_M_init_32 (fun q u1 H1 k1 k2 k3 k4 hw => ?_)
  refine gu_putR C hw gq_M_20 hin (by rw [k4 b (ne_of_mem k1 (mi.mem hbL))]; exact mi.tag) rfl rfl d_M_init_34 (fun u2 H2 locs k5 k6 k7 hw => ?_)
  have mi := mi.step (f := 5) hbL (by decide) k1 k2 k3 k4 k5 k6 k7
  refine lv_aload_n hx hb d_M_init_37 rfl (lv_at hl 0 rfl) ?_
  refine lv_bipush (v := 8) hx hb d_M_init_38 (by decide) ?_
  refine gu_newI (N := 8) C hw (by decide) (by decide) (by decide) (Nat.le_of_ble_eq_true rfl) (Nat.le_of_ble_eq_true rfl) d_M_init_40 (fun q u1 H1 k1 k2 k3 k4 hw => ?_)
  refine gu_putR C hw gq_M_23 hin (by rw [k4 b (ne_of_mem k1 (mi.mem hbL))]; exact mi.tag) rfl rfl d_M_init_42 (fun u2 H2 locs k5 k6 k7 hw => ?_)
  have mi := mi.step (f := 6) hbL (by decide) k1 k2 k3 k4 k5 k6 k7
  refine lv_aload_n hx hb d_M_init_45 rfl (lv_at hl 0 rfl) ?_
  refine lv_bipush (v := 8) hx hb d_M_init_46 (by decide) ?_
  refine gu_newI (N := 8) C hw (by decide) (by decide) (by decide) (Nat.le_of_ble_eq_true rfl) (Nat.le_of_ble_eq_true rfl) d_M_init_48 (fun q u1 H1 k1 k2 k3 k4 hw => ?_)
  refine gu_putR C hw gq_M_26 hin (by rw [k4 b (ne_of_mem k1 (mi.mem hbL))]; exact mi.tag) rfl rfl d_M_init_50 (fun u2 H2 locs k5 k6 k7 hw => ?_)
  have mi := mi.step (f := 7) hbL (by decide) k1 k2 k3 k4 k5 k6 k7
  refine lv_aload_n hx hb d_M_init_53 rfl (lv_at hl 0 rfl) ?_
  refine lv_bipush (v := 8) hx hb d_M_init_54 (by decide) ?_
  refine gu_newI (N := 8) C hw (by decide) (by decide) (by decide) (Nat.le_of_ble_eq_true rfl) (Nat.le_of_ble_eq_true rfl) d_M_init_56 (fun q u1 H1 k1 k2 k3 k4 hw => ?_)
  refine gu_putR C hw gq_M_29 hin (by rw [k4 b (ne_of_mem k1 (mi.mem hbL))]; exact mi.tag) rfl rfl d_M_init_58 (fun u2 H2 locs k5 k6 k7 hw => ?_)
  have mi := mi.step (f := 8) hbL (by decide) k1 k2 k3 k4 k5 k6 k7
  refine lv_aload_n hx hb d_M_init_61 rfl (lv_at hl 0 rfl) ?_
  refine lv_bipush (v := 8) hx hb d_M_init_62 (by decide) ?_
  refine gu_newI (N := 8) C hw (by decide) (by decide) (by decide) (Nat.le_of_ble_eq_true rfl) (Nat.le_of_ble_eq_true rfl) d_M_init_64 (fun q u1 H1 k1 k2 k3 k4 hw => ?_)
  refine gu_putR C hw gq_M_32 hin (by rw [k4 b (ne_of_mem k1 (mi.mem hbL))]; exact mi.tag) rfl rfl d_M_init_66 (fun u2 H2 locs k5 k6 k7 hw => ?_)
  have mi := mi.step (f := 9) hbL (by decide) k1 k2 k3 k4 k5 k6 k7
  refine lv_aload_n hx hb d_M_init_69 rfl (lv_at hl 0 rfl) ?_
  refine lv_bipush (v := 8) hx hb d_M_init_70 (by decide) ?_
  refine gu_newI (N := 8) C hw (by decide) (by decide) (by decide) (Nat.le_of_ble_eq_true rfl) (Nat.le_of_ble_eq_true rfl) d_M_init_72 (fun q u1 H1 k1 k2 k3 k4 hw => ?_)
  refine gu_putR C hw gq_M_35 hin (by rw [k4 b (ne_of_mem k1 (mi.mem hbL))]; exact mi.tag) rfl rfl d_M_init_74 (fun u2 H2 locs k5 k6 k7 hw => ?_)
  have mi := mi.step (f := 10) hbL (by decide) k1 k2 k3 k4 k5 k6 k7
  refine lv_aload_n hx hb d_M_init_77 rfl (lv_at hl 0 rfl) ?_
  refine lv_bipush (v := 8) hx hb d_M_init_78 (by decide) ?_
  refine gu_newI (N := 8) C hw (by decide) (by decide) (by decide) (Nat.le_of_ble_eq_true rfl) (Nat.le_of_ble_eq_true rfl) d_M_init_80 (fun q u1 H1 k1 k2 k3 k4 hw => ?_)
  refine gu_putR C hw gq_M_38 hin (by rw [k4 b (ne_of_mem k1 (mi.mem hbL))]; exact mi.tag) rfl rfl d_M_init_82 (fun u2 H2 locs k5 k6 k7 hw => ?_)
  have mi := mi.step (f := 11) hbL (by decide) k1 k2 k3 k4 k5 k6 k7
  refine lv_aload_n hx hb d_M_init_85 rfl (lv_at hl 0 rfl) ?_
  refine lv_bipush (v := 8) hx hb d_M_init_86 (by decide) ?_
  refine gu_newI (N := 8) C hw (by decide) (by decide) (by decide) (Nat.le_of_ble_eq_true rfl) (Nat.le_of_ble_eq_true rfl) d_M_init_88 (fun q u1 H1 k1 k2 k3 k4 hw => ?_)
  refine gu_putR C hw gq_M_41 hin (by rw [k4 b (ne_of_mem k1 (mi.mem hbL))]; exact mi.tag) rfl rfl d_M_init_90 (fun u2 H2 locs k5 k6 k7 hw => ?_)
  have mi := mi.step (f := 12) hbL (by decide) k1 k2 k3 k4 k5 k6 k7
  refine lv_aload_n hx hb d_M_init_93 rfl (lv_at hl 0 rfl) ?_
  refine lv_bipush (v := 8) hx hb d_M_init_94 (by decide) ?_
  refine gu_newI (N := 8) C hw (by decide) (by decide) (by decide) (Nat.le_of_ble_eq_true rfl) (Nat.le_of_ble_eq_true rfl) d_M_init_96 (fun q u1 H1 k1 k2 k3 k4 hw => ?_)
  refine gu_putR C hw gq_M_44 hin (by rw [k4 b (ne_of_mem k1 (mi.mem hbL))]; exact mi.tag) rfl rfl d_M_init_98 (fun u2 H2 locs k5 k6 k7 hw => ?_)
  have mi := mi.step (f := 13) hbL (by decide) k1 k2 k3 k4 k5 k6 k7
  refine lv_aload_n hx hb d_M_init_101 rfl (lv_at hl 0 rfl) ?_
  refine lv_bipush (v := 8) hx hb d_M_init_102 (by decide) ?_
  refine gu_newI (N := 8) C hw (by decide) (by decide) (by decide) (Nat.le_of_ble_eq_true rfl) (Nat.le_of_ble_eq_true rfl) d_M_init_104 (fun q u1 H1 k1 k2 k3 k4 hw => ?_)
  refine gu_putR C hw gq_M_47 hin (by rw [k4 b (ne_of_mem k1 (mi.mem hbL))]; exact mi.tag) rfl rfl d_M_init_106 (fun u2 H2 locs k5 k6 k7 hw => ?_)
  have mi := mi.step (f := 14) hbL (by decide) k1 k2 k3 k4 k5 k6 k7
  refine lv_aload_n hx hb d_M_init_109 rfl (lv_at hl 0 rfl) ?_
  refine lv_bipush (v := 8) hx hb d_M_init_110 (by decide) ?_
  refine gu_newI (N := 8) C hw (by decide) (by decide) (by decide) (Nat.le_of_ble_eq_true rfl) (Nat.le_of_ble_eq_true rfl) d_M_init_112 (fun q u1 H1 k1 k2 k3 k4 hw => ?_)
  refine gu_putR C hw gq_M_50 hin (by rw [k4 b (ne_of_mem k1 (mi.mem hbL))]; exact mi.tag) rfl rfl d_M_init_114 (fun u2 H2 locs k5 k6 k7 hw => ?_)
  have mi := mi.step (f := 15) hbL (by decide) k1 k2 k3 k4 k5 k6 k7
  refine lv_aload_n hx hb d_M_init_117 rfl (lv_at hl 0 rfl) ?_
  refine lv_bipush (v := 8) hx hb d_M_init_118 (by decide) ?_
  refine gu_newI (N := 8) C hw (by decide) (by decide) (by decide) (Nat.le_of_ble_eq_true rfl) (Nat.le_of_ble_eq_true rfl) d_M_init_120 (fun q u1 H1 k1 k2 k3 k4 hw => ?_)
  refine gu_putR C hw gq_M_53 hin (by rw [k4 b (ne_of_mem k1 (mi.mem hbL))]; exact mi.tag) rfl rfl d_M_init_122 (fun u2 H2 locs k5 k6 k7 hw => ?_)
  have mi := mi.step (f := 16) hbL (by decide) k1 k2 k3 k4 k5 k6 k7
  refine lv_aload_n hx hb d_M_init_125 rfl (lv_at hl 0 rfl) ?_
  refine lv_bipush (v := 64) hx hb d_M_init_126 (by decide) ?_
  refine gu_newI (N := 64) C hw (by decide) (by decide) (by decide) (Nat.le_of_ble_eq_true rfl) (Nat.le_of_ble_eq_true rfl) d_M_init_128 (fun q u1 H1 k1 k2 k3 k4 hw => ?_)
  refine gu_putR C hw gq_M_56 hin (by rw [k4 b (ne_of_mem k1 (mi.mem hbL))]; exact mi.tag) rfl rfl d_M_init_130 (fun u2 H2 locs k5 k6 k7 hw => ?_)
  have mi := mi.step (f := 17) hbL (by decide) k1 k2 k3 k4 k5 k6 k7
  refine lv_aload_n hx hb d_M_init_133 rfl (lv_at hl 0 rfl) ?_
  refine lv_bipush (v := 8) hx hb d_M_init_134 (by decide) ?_
  refine gu_newI (N := 8) C hw (by decide) (by decide) (by decide) (Nat.le_of_ble_eq_true rfl) (Nat.le_of_ble_eq_true rfl) d_M_init_136 (fun q u1 H1 k1 k2 k3 k4 hw => ?_)
  refine gu_putR C hw gq_M_59 hin (by rw [k4 b (ne_of_mem k1 (mi.mem hbL))]; exact mi.tag) rfl rfl d_M_init_138 (fun u2 H2 locs k5 k6 k7 hw => ?_)
  have mi := mi.step (f := 18) hbL (by decide) k1 k2 k3 k4 k5 k6 k7
  refine lv_aload_n hx hb d_M_init_141 rfl (lv_at hl 0 rfl) ?_
  refine lv_bipush (v := 8) hx hb d_M_init_142 (by decide) ?_
  refine gu_newI (N := 8) C hw (by decide) (by decide) (by decide) (Nat.le_of_ble_eq_true rfl) (Nat.le_of_ble_eq_true rfl) d_M_init_144 (fun q u1 H1 k1 k2 k3 k4 hw => ?_)
  refine gu_putR C hw gq_M_62 hin (by rw [k4 b (ne_of_mem k1 (mi.mem hbL))]; exact mi.tag) rfl rfl d_M_init_146 (fun u2 H2 locs k5 k6 k7 hw => ?_)
  have mi := mi.step (f := 19) hbL (by decide) k1 k2 k3 k4 k5 k6 k7
  refine lv_aload_n hx hb d_M_init_149 rfl (lv_at hl 0 rfl) ?_
  refine lv_bipush (v := 8) hx hb d_M_init_150 (by decide) ?_
  refine gu_newI (N := 8) C hw (by decide) (by decide) (by decide) (Nat.le_of_ble_eq_true rfl) (Nat.le_of_ble_eq_true rfl) d_M_init_152 (fun q u1 H1 k1 k2 k3 k4 hw => ?_)
  refine gu_putR C hw gq_M_65 hin (by rw [k4 b (ne_of_mem k1 (mi.mem hbL))]; exact mi.tag) rfl rfl d_M_init_154 (fun u2 H2 locs k5 k6 k7 hw => ?_)
  have mi := mi.step (f := 20) hbL (by decide) k1 k2 k3 k4 k5 k6 k7
  refine lv_aload_n hx hb d_M_init_157 rfl (lv_at hl 0 rfl) ?_
  refine lv_bipush (v := 8) hx hb d_M_init_158 (by decide) ?_
  refine gu_newI (N := 8) C hw (by decide) (by decide) (by decide) (Nat.le_of_ble_eq_true rfl) (Nat.le_of_ble_eq_true rfl) d_M_init_160 (fun q u1 H1 k1 k2 k3 k4 hw => ?_)
  refine gu_putR C hw gq_M_68 hin (by rw [k4 b (ne_of_mem k1 (mi.mem hbL))]; exact mi.tag) rfl rfl d_M_init_162 (fun u2 H2 locs k5 k6 k7 hw => ?_)
  have mi := mi.step (f := 21) hbL (by decide) k1 k2 k3 k4 k5 k6 k7
  refine lv_aload_n hx hb d_M_init_165 rfl (lv_at hl 0 rfl) ?_
  refine lv_bipush (v := 8) hx hb d_M_init_166 (by decide) ?_
  refine gu_newZ (N := 8) C hw (by decide) (by decide) (by decide) (Nat.le_of_ble_eq_true rfl) (Nat.le_of_ble_eq_true rfl) d_M_init_168 (fun q u1 H1 k1 k2 k3 k4 hw => ?_)
  refine gu_putR C hw gq_M_71 hin (by rw [k4 b (ne_of_mem k1 (mi.mem hbL))]; exact mi.tag) rfl rfl d_M_init_170 (fun u2 H2 locs k5 k6 k7 hw => ?_)
  have mi := mi.step (f := 22) hbL (by decide) k1 k2 k3 k4 k5 k6 k7
  refine lv_aload_n hx hb d_M_init_173 rfl (lv_at hl 0 rfl) ?_
  refine lv_bipush (v := 8) hx hb d_M_init_174 (by decide) ?_
  refine gu_newI (N := 8) C hw (by decide) (by decide) (by decide) (Nat.le_of_ble_eq_true rfl) (Nat.le_of_ble_eq_true rfl) d_M_init_176 (fun q u1 H1 k1 k2 k3 k4 hw => ?_)
  refine gu_putR C hw gq_M_74 hin (by rw [k4 b (ne_of_mem k1 (mi.mem hbL))]; exact mi.tag) rfl rfl d_M_init_178 (fun u2 H2 locs k5 k6 k7 hw => ?_)
  have mi := mi.step (f := 23) hbL (by decide) k1 k2 k3 k4 k5 k6 k7
  refine lv_aload_n hx hb d_M_init_181 rfl (lv_at hl 0 rfl) ?_
  refine lv_bipush (v := 8) hx hb d_M_init_182 (by decide) ?_
  refine gu_newI (N := 8) C hw (by decide) (by decide) (by decide) (Nat.le_of_ble_eq_true rfl) (Nat.le_of_ble_eq_true rfl) d_M_init_184 (fun q u1 H1 k1 k2 k3 k4 hw => ?_)
  refine gu_putR C hw gq_M_77 hin (by rw [k4 b (ne_of_mem k1 (mi.mem hbL))]; exact mi.tag) rfl rfl d_M_init_186 (fun u2 H2 locs k5 k6 k7 hw => ?_)
  have mi := mi.step (f := 24) hbL (by decide) k1 k2 k3 k4 k5 k6 k7
  refine lv_aload_n hx hb d_M_init_189 rfl (lv_at hl 0 rfl) ?_
  refine lv_bipush (v := 8) hx hb d_M_init_190 (by decide) ?_
  refine gu_newI (N := 8) C hw (by decide) (by decide) (by decide) (Nat.le_of_ble_eq_true rfl) (Nat.le_of_ble_eq_true rfl) d_M_init_192 (fun q u1 H1 k1 k2 k3 k4 hw => ?_)
  refine gu_putR C hw gq_M_80 hin (by rw [k4 b (ne_of_mem k1 (mi.mem hbL))]; exact mi.tag) rfl rfl d_M_init_194 (fun u2 H2 locs k5 k6 k7 hw => ?_)
  have mi := mi.step (f := 25) hbL (by decide) k1 k2 k3 k4 k5 k6 k7
  refine lv_aload_n hx hb d_M_init_197 rfl (lv_at hl 0 rfl) ?_
  refine lv_bipush (v := 8) hx hb d_M_init_198 (by decide) ?_
  refine gu_newJ (N := 8) C hw (by decide) (by decide) (by decide) (Nat.le_of_ble_eq_true rfl) (Nat.le_of_ble_eq_true rfl) d_M_init_200 (fun q u1 H1 k1 k2 k3 k4 hw => ?_)
  refine gu_putR C hw gq_M_83 hin (by rw [k4 b (ne_of_mem k1 (mi.mem hbL))]; exact mi.tag) rfl rfl d_M_init_202 (fun u2 H2 locs k5 k6 k7 hw => ?_)
  have mi := mi.step (f := 26) hbL (by decide) k1 k2 k3 k4 k5 k6 k7
  refine lv_aload_n hx hb d_M_init_205 rfl (lv_at hl 0 rfl) ?_
  refine lv_bipush (v := 64) hx hb d_M_init_206 (by decide) ?_
  refine gu_newZ (N := 64) C hw (by decide) (by decide) (by decide) (Nat.le_of_ble_eq_true rfl) (Nat.le_of_ble_eq_true rfl) d_M_init_208 (fun q u1 H1 k1 k2 k3 k4 hw => ?_)
  refine gu_putR C hw gq_M_87 hin (by rw [k4 b (ne_of_mem k1 (mi.mem hbL))]; exact mi.tag) rfl rfl d_M_init_210 (fun u2 H2 locs k5 k6 k7 hw => ?_)
  have mi := mi.step (f := 27) hbL (by decide) k1 k2 k3 k4 k5 k6 k7
  refine lv_aload_n hx hb d_M_init_213 rfl (lv_at hl 0 rfl) ?_
  refine lv_sipush (v := 256) hx hb d_M_init_214 (by decide) ?_
  refine gu_newI (N := 256) C hw (by decide) (by decide) (by decide) (Nat.le_of_ble_eq_true rfl) (Nat.le_of_ble_eq_true rfl) d_M_init_217 (fun q u1 H1 k1 k2 k3 k4 hw => ?_)
  refine gu_putR C hw gq_M_90 hin (by rw [k4 b (ne_of_mem k1 (mi.mem hbL))]; exact mi.tag) rfl rfl d_M_init_219 (fun u2 H2 locs k5 k6 k7 hw => ?_)
  have mi := mi.step (f := 28) hbL (by decide) k1 k2 k3 k4 k5 k6 k7
  refine lv_aload_n hx hb d_M_init_222 rfl (lv_at hl 0 rfl) ?_
  refine lv_bipush (v := 64) hx hb d_M_init_223 (by decide) ?_
  refine gu_newJ (N := 64) C hw (by decide) (by decide) (by decide) (Nat.le_of_ble_eq_true rfl) (Nat.le_of_ble_eq_true rfl) d_M_init_225 (fun q u1 H1 k1 k2 k3 k4 hw => ?_)
  refine gu_putR C hw gq_M_93 hin (by rw [k4 b (ne_of_mem k1 (mi.mem hbL))]; exact mi.tag) rfl rfl d_M_init_227 (fun u2 H2 locs k5 k6 k7 hw => ?_)
  have mi := mi.step (f := 29) hbL (by decide) k1 k2 k3 k4 k5 k6 k7
  refine lv_aload_n hx hb d_M_init_230 rfl (lv_at hl 0 rfl) ?_
  refine lv_bipush (v := 64) hx hb d_M_init_231 (by decide) ?_
  refine gu_newI (N := 64) C hw (by decide) (by decide) (by decide) (Nat.le_of_ble_eq_true rfl) (Nat.le_of_ble_eq_true rfl) d_M_init_233 (fun q u1 H1 k1 k2 k3 k4 hw => ?_)
  refine gu_putR C hw gq_M_96 hin (by rw [k4 b (ne_of_mem k1 (mi.mem hbL))]; exact mi.tag) rfl rfl d_M_init_235 (fun u2 H2 locs k5 k6 k7 hw => ?_)
  have mi := mi.step (f := 30) hbL (by decide) k1 k2 k3 k4 k5 k6 k7
  refine lv_aload_n hx hb d_M_init_238 rfl (lv_at hl 0 rfl) ?_
  refine lv_sipush (v := 4096) hx hb d_M_init_239 (by decide) ?_
  refine gu_newI (N := 4096) C hw (by decide) (by decide) (by decide) (Nat.le_of_ble_eq_true rfl) (Nat.le_of_ble_eq_true rfl) d_M_init_242 (fun q u1 H1 k1 k2 k3 k4 hw => ?_)
  refine gu_putR C hw gq_M_99 hin (by rw [k4 b (ne_of_mem k1 (mi.mem hbL))]; exact mi.tag) rfl rfl d_M_init_244 (fun u2 H2 locs k5 k6 k7 hw => ?_)
  have mi := mi.step (f := 31) hbL (by decide) k1 k2 k3 k4 k5 k6 k7
  refine lv_aload_n hx hb d_M_init_247 rfl (lv_at hl 0 rfl) ?_
  refine lv_sipush (v := 672) hx hb d_M_init_248 (by decide) ?_
  refine gu_newI (N := 672) C hw (by decide) (by decide) (by decide) (Nat.le_of_ble_eq_true rfl) (Nat.le_of_ble_eq_true rfl) d_M_init_251 (fun q u1 H1 k1 k2 k3 k4 hw => ?_)
  refine gu_putR C hw gq_M_102 hin (by rw [k4 b (ne_of_mem k1 (mi.mem hbL))]; exact mi.tag) rfl rfl d_M_init_253 (fun u2 H2 locs k5 k6 k7 hw => ?_)
  have mi := mi.step (f := 33) hbL (by decide) k1 k2 k3 k4 k5 k6 k7
  refine lv_aload_n hx hb d_M_init_256 rfl (lv_at hl 0 rfl) ?_
  refine lv_sipush (v := 6144) hx hb d_M_init_257 (by decide) ?_
  refine gu_newI (N := 6144) C hw (by decide) (by decide) (by decide) (Nat.le_of_ble_eq_true rfl) (Nat.le_of_ble_eq_true rfl) d_M_init_260 (fun q u1 H1 k1 k2 k3 k4 hw => ?_)
  refine gu_putR C hw gq_M_105 hin (by rw [k4 b (ne_of_mem k1 (mi.mem hbL))]; exact mi.tag) rfl rfl d_M_init_262 (fun u2 H2 locs k5 k6 k7 hw => ?_)
  have mi := mi.step (f := 34) hbL (by decide) k1 k2 k3 k4 k5 k6 k7
  refine lv_aload_n hx hb d_M_init_265 rfl (lv_at hl 0 rfl) ?_
  refine lv_bipush (v := 96) hx hb d_M_init_266 (by decide) ?_
  refine gu_newJ (N := 96) C hw (by decide) (by decide) (by decide) (Nat.le_of_ble_eq_true rfl) (Nat.le_of_ble_eq_true rfl) d_M_init_268 (fun q u1 H1 k1 k2 k3 k4 hw => ?_)
  refine gu_putR C hw gq_M_108 hin (by rw [k4 b (ne_of_mem k1 (mi.mem hbL))]; exact mi.tag) rfl rfl d_M_init_270 (fun u2 H2 locs k5 k6 k7 hw => ?_)
  have mi := mi.step (f := 35) hbL (by decide) k1 k2 k3 k4 k5 k6 k7
  refine lv_aload_n hx hb d_M_init_273 rfl (lv_at hl 0 rfl) ?_
  refine lv_bipush (v := 64) hx hb d_M_init_274 (by decide) ?_
  refine gu_newI (N := 64) C hw (by decide) (by decide) (by decide) (Nat.le_of_ble_eq_true rfl) (Nat.le_of_ble_eq_true rfl) d_M_init_276 (fun q u1 H1 k1 k2 k3 k4 hw => ?_)
  refine gu_putR C hw gq_M_111 hin (by rw [k4 b (ne_of_mem k1 (mi.mem hbL))]; exact mi.tag) rfl rfl d_M_init_278 (fun u2 H2 locs k5 k6 k7 hw => ?_)
  have mi := mi.step (f := 36) hbL (by decide) k1 k2 k3 k4 k5 k6 k7
  exact W.widen (Nat.le_of_ble_eq_true rfl) (Nat.le_of_ble_eq_true rfl) (W.vret hx hb hr (fun t ht _ => ⟨⟨u2, rfl, mi, ga_o hw ht⟩, hw.2.2.2.1.F ht⟩) hw.2.2.2.1.2.2 d_M_init_281)
