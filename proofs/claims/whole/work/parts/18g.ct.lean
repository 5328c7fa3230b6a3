-- The constructor of RankHouse
def P_H (u : gG) (b : Nat) (v : gG) : Prop := ∃ la qa po sh od, ∃ Lg Sr Vl rr ww : Nat → Nat, gNew u v ([la] ++ (List.range 8).flatMap (fun l => [Lg l, Sr l, Vl l]) ++ [qa, po] ++ ([sh, od] ++ (List.range 97).flatMap (fun k => [rr k, ww k]))) b ∧ gAt v b = gPut (gPut (gPut (gAt u b) 0 la) 1 qa) 2 po ∧ gAt v la = gRow 24 8 Lg 8 ∧ gAt v qa = gBl 25 8 ∧ gAt v po = gPut (gPut (gBl 3 0) 0 sh) 1 od ∧ gAt v sh = gRow 26 97 rr 97 ∧ gAt v od = gOrd 97 ∧ (∀ l, l < 8 → gAt v (Lg l) = gPi (gPut (gBl 2 0) 0 (Sr l)) 1 1 ∧ gAt v (Sr l) = gPut (gBl 7 0) 0 (Vl l) ∧ gAt v (Vl l) = gBl 21 500) ∧ ∀ k, k < 97 → gAt v (rr k) = gPut (gBl 1 0) 0 (ww k) ∧ gAt v (ww k) = gBl 21 64
def rm_H_init : Room := { frames := 3, locals := 53, cells := 223, slots := 11326 }
set_option maxHeartbeats 4000000 in
set_option maxRecDepth 100000 in
theorem c_H_init (l : Launch) (D : va_G) (T : Nat → ClassId) (z : Nat) (u : gG) {b : Nat} (ht : (gAt u b).1 = 8) : gu_Nv l y_H_init prog_1_method_1_code 2 rm_H_init [.ref b] D T z u (P_H u b) := by
  refine Met.ofW (cc := prog_1_method_1_code) (maxL := 2) (ret := none) (by decide) rfl ?_
  intro p e s m args below meth c s₁ B hml hv
  obtain ⟨ha, hv, hNs⟩ := hv
  have hx := B.exec
  have hb := B.bytes
  have hr := B.returns
  have hin : meth.name = "<init>" := (name_of_methodNamed B.named B.method).1
  have hts := atoms_spec (ws := .code y_H_init prog_1_method_1_code 2 none :: ga_ws) B.pre
  have hown : s.vm.findClass "RankHouse" = some m.cls := findClass_of_methodNamed B.named
  have C : CallFix p m c prog_1_method_1_code 2 s args ga_ws "RankHouse" := ⟨hx, hb, hml, hown, fun w h => hts w (List.mem_cons_of_mem _ h)⟩
  have hw : gWu D T z u s s.heap [] := ga_start hv
  have hl := lv_entry ([.ref b]) (n := 2) (Nat.le_of_ble_eq_true rfl)
  rw [show entryFrame m args 2 = entryFrame m ([.ref b] : List Value).toArray 2 by rw [ha], lg_entry_eq]
  generalize (lg_sl ([.ref b]) ++ List.replicate (2 - (lg_sl ([.ref b])).length) Slot.unset).toArray = ls at hl ⊢
  have hl : lv_has ls 2 [(0, .ref b)] := hl
  refine lv_aload_n hx hb d_H_init_0 rfl (lv_at hl 0 rfl) ?_
  refine W.objInit hx hb hown (C.2.2.2.2 _ gw_23) (C.2.2.2.2 _ gw_24) (C.2.2.2.2 _ gw_25) rfl (by rw [hml]; exact hl.1) rfl d_H_init_1 (Nat.le_of_ble_eq_true rfl) (Nat.le_of_ble_eq_true rfl) ?_
  refine W.eq (g2 := F0 m 4 ls []) rfl ?_
  have hbL : b ∈ u.1 := hw.2.2.2.2.1 b (by have : u.2.1.1 b = (gAt u b).1 := rfl; omega)
  refine lv_aload_n hx hb d_H_init_4 rfl (lv_at hl 0 rfl) ?_
  refine lv_bipush (v := 8) hx hb d_H_init_5 (by decide) ?_
  refine gu_newR (t := 3) (N := 8) (Cn := "RankHouse$Logger") C hw rfl (by decide) (by decide) gw_26 (by decide) (by decide) (by decide) (by decide) (Nat.le_of_ble_eq_true rfl) (Nat.le_of_ble_eq_true rfl) d_H_init_7 (fun la u1 H1 a1 a2 a3 a4 hw => ?_)
  have bla := ne_of_mem a1 hbL
  refine gu_putR C hw gq_H_11 hin (by rw [a4 b bla]; exact ht) rfl rfl d_H_init_10 (fun u2 H2 locs a5 a6 a7 hw => ?_)
  have n2 : gNew u u2 [la] b := (gNew.one b a1 a2 a4).trans (gNew.put a5 a7) (Or.inr rfl)
  have e2 : gAt u2 b = gPut (gAt u b) 0 la := by rw [a6, a4 b bla]
  have x2 : gAt u2 la = gBl 24 8 := by rw [a7 la bla.symm, a3]
  refine lv_iconst (v := 0) hx hb d_H_init_13 (by decide) ?_
  refine lv_istore_n hx hb d_H_init_14 rfl hl (by decide) rfl (fun ls hl => ?_)
  have hl : lv_has ls 2 [(1, .int (nI 0)), (0, .ref b)] := hl
  have loop : ∀ (k i : Nat) (v : gG) (H : Heap) (locs : List Loc) (ls : Array Slot) (Lg Sr Vl : Nat → Nat), i + k = 8 → lv_has ls 2 [(1, .int (nI i)), (0, .ref b)] → gWu D T z v s H locs → gNew u v ([la] ++ (List.range i).flatMap (fun l => [Lg l, Sr l, Vl l])) b → gAt v b = gPut (gAt u b) 0 la → gAt v la = gRow 24 8 Lg i → (∀ l, l < i → gAt v (Lg l) = gPi (gPut (gBl 2 0) 0 (Sr l)) 1 1 ∧ gAt v (Sr l) = gPut (gBl 7 0) 0 (Vl l) ∧ gAt v (Vl l) = gBl 21 500) → W p l e rm_H_init s m args below meth c H locs (1 + 3 * i) (8 + 504 * i) (MQ below (va_Qv (fun (v : gG) => P_H u b v) (fun v t => ga_O D T z v.1 v.2.1 v.2.2.1 v.2.2.2 t) (ga_A z)) args s rm_H_init.cells rm_H_init.slots (ga_A z)) (F0 m 15 ls []) := by
    intro k
    induction k with
    | zero =>
      intro i v H locs ls Lg Sr Vl hi hl hw nv ev sv rv
      obtain rfl : i = 8 := by omega
      have Mb : b ∈ v.1 := nv.mem hbL
      have Ml : la ∈ v.1 := nv.memN (List.mem_append_left _ (by simp))
      refine lv_iload_n hx hb d_H_init_15 rfl (lv_at hl 0 rfl) ?_
      refine lv_bipush (v := 8) hx hb d_H_init_16 (by decide) ?_
      refine lv_icmp_ge (tgt := 40) hx hb d_H_init_18 (by decide) (fun _ => ?_) (fun hn => absurd (by decide) hn)
      refine lv_aload_n hx hb d_H_init_40 rfl (lv_at hl 1 rfl) ?_
      refine lv_bipush (v := 8) hx hb d_H_init_41 (by decide) ?_
      refine gu_newR (t := 4) (N := 8) (Cn := "RankHouse$Question") C hw rfl (by decide) (by decide) gw_60 (by decide) (by decide) (by decide) (by decide) (Nat.le_of_ble_eq_true rfl) (Nat.le_of_ble_eq_true rfl) d_H_init_43 (fun qa v1 H1 b1 b2 b3 b4 hw => ?_)
      have bqa := ne_of_mem b1 Mb
      refine gu_putR C hw gq_H_18 hin (by rw [b4 b bqa, ev]; exact ht) rfl rfl d_H_init_46 (fun v2 H2 locs b5 b6 b7 hw => ?_)
      have o2 : gNew v v2 [qa] b := (gNew.one b b1 b2 b4).trans (gNew.put b5 b7) (Or.inr rfl)
      have e3 : gAt v2 b = gPut (gPut (gAt u b) 0 la) 1 qa := by rw [b6, b4 b bqa, ev]
      have x3 : gAt v2 qa = gBl 25 8 := by rw [b7 qa bqa.symm, b3]
      have Mb2 : b ∈ v2.1 := o2.mem Mb
      have Mq2 : qa ∈ v2.1 := o2.memN (List.mem_singleton.mpr rfl)
      refine lv_aload_n hx hb d_H_init_49 rfl (lv_at hl 1 rfl) ?_
      refine gu_new C hw gn_H_22 (Nat.le_of_ble_eq_true rfl) (Nat.le_of_ble_eq_true rfl) d_H_init_50 (fun po v3 H3 c1 c2 c3 c4 hw => ?_)
      have o3 := gNew.one b c1 c2 c4
      refine lv_dup hx hb d_H_init_53 rfl ?_
      refine gu_cI (As := []) C hw hNs (c_Post_init l D T z v3 (by rw [c3]; rfl)) gi_H_24 rfl hl.1 ⟨Nat.le_of_ble_eq_true rfl, Nat.le_of_ble_eq_true rfl, Nat.le_of_ble_eq_true rfl, Nat.le_of_ble_eq_true rfl⟩ (Nat.le_of_ble_eq_true rfl) rfl d_H_init_54 (fun v4 H4 locs hP hw => ?_)
      obtain ⟨sh, od, rr, ww, m1, m2, m3, m4, m5⟩ := hP
      have o4 := o3.trans m1 (Or.inl (List.mem_singleton.mpr rfl))
      have keep4 : ∀ a, a ∈ v2.1 → gAt v4 a = gAt v2 a := fun a ha => by rw [m1.keep (o3.mem ha) (o3.ne ha (List.mem_singleton.mpr rfl)), c4 a (ne_of_mem c1 ha)]
      rw [c3] at m2
      refine gu_putR C hw gq_H_25 hin (by rw [keep4 b Mb2, e3]; exact ht) rfl rfl d_H_init_57 (fun v5 H5 locs c5 c6 c7 hw => ?_)
      have o5 : gNew v2 v5 ([po] ++ ([sh, od] ++ (List.range 97).flatMap (fun k => [rr k, ww k]))) b := by
        have := o4.trans (gNew.put c5 c7) (Or.inr rfl)
        rw [List.append_nil] at this
        exact this
      have nfin := (nv.trans o2 (Or.inr rfl)).trans o5 (Or.inr rfl)
      have k5 : ∀ a, a ∈ v2.1 → a ≠ b → gAt v5 a = gAt v2 a := fun a ha hne => o5.keep ha hne
      have kN : ∀ a, a ∈ ([sh, od] ++ (List.range 97).flatMap (fun k => [rr k, ww k])) → a ≠ b := fun a ha e => m1.2.1 a ha (by rw [e]; exact o3.mem Mb2)
      have kv : ∀ a, a ∈ v.1 → a ≠ b → gAt v5 a = gAt v a := fun a ha hne => by rw [k5 a (o2.mem ha) hne, o2.keep ha hne]
      refine W.widen (Nat.le_of_ble_eq_true rfl) (Nat.le_of_ble_eq_true rfl) (W.vret hx hb hr (fun t ht _ => ⟨⟨v5, rfl, ⟨la, qa, po, sh, od, Lg, Sr, Vl, rr, ww, ?_, ?_, ?_, ?_, ?_, ?_, ?_, fun l hl => ?_, fun k hk => ?_⟩, ga_o hw ht⟩, hw.2.2.2.1.F ht⟩) hw.2.2.2.1.2.2 d_H_init_60)
      · have e9 : ([la] ++ (List.range 8).flatMap (fun l => [Lg l, Sr l, Vl l]) ++ [qa]) ++ ([po] ++ ([sh, od] ++ (List.range 97).flatMap (fun k => [rr k, ww k]))) = [la] ++ (List.range 8).flatMap (fun l => [Lg l, Sr l, Vl l]) ++ [qa, po] ++ ([sh, od] ++ (List.range 97).flatMap (fun k => [rr k, ww k])) := by
          simp only [List.append_assoc, List.cons_append, List.nil_append]
        rw [← e9]
        exact nfin
      · rw [c6, keep4 b Mb2, e3]
      · rw [kv la Ml bla.symm, sv]
      · rw [k5 qa Mq2 bqa.symm, x3]
      · rw [c7 po (ne_of_mem c1 Mb2).symm, m2]
      · rw [c7 sh (kN sh (by simp)), m3]
      · rw [c7 od (kN od (by simp)), m4]
      · have g0 : ∀ x, x ∈ [Lg l, Sr l, Vl l] → x ∈ v.1 ∧ x ≠ b := fun x hx => by
          have hm : x ∈ [la] ++ (List.range 8).flatMap (fun l => [Lg l, Sr l, Vl l]) := List.mem_append_right _ (List.mem_flatMap.mpr ⟨l, List.mem_range.mpr hl, hx⟩)
          exact ⟨nv.memN hm, (nv.ne hbL hm).symm⟩
        rw [kv _ (g0 (Lg l) (by simp)).1 (g0 (Lg l) (by simp)).2, kv _ (g0 (Sr l) (by simp)).1 (g0 (Sr l) (by simp)).2, kv _ (g0 (Vl l) (by simp)).1 (g0 (Vl l) (by simp)).2]
        exact rv l hl
      · have g1 : rr k ∈ ([sh, od] ++ (List.range 97).flatMap (fun k => [rr k, ww k])) := List.mem_append_right _ (List.mem_flatMap.mpr ⟨k, List.mem_range.mpr hk, by simp⟩)
        have g2 : ww k ∈ ([sh, od] ++ (List.range 97).flatMap (fun k => [rr k, ww k])) := List.mem_append_right _ (List.mem_flatMap.mpr ⟨k, List.mem_range.mpr hk, by simp⟩)
        rw [c7 _ (kN _ g1), c7 _ (kN _ g2)]
        exact m5 k hk
    | succ k ih =>
      intro i v H locs ls Lg Sr Vl hi hl hw nv ev sv rv
      have Mb : b ∈ v.1 := nv.mem hbL
      have Ml : la ∈ v.1 := nv.memN (List.mem_append_left _ (by simp))
      refine lv_iload_n hx hb d_H_init_15 rfl (lv_at hl 0 rfl) ?_
      refine lv_bipush (v := 8) hx hb d_H_init_16 (by decide) ?_
      refine lv_icmp_ge (tgt := 40) hx hb d_H_init_18 (by decide) (fun hp => absurd hp (by rw [ev_K2 (by omega) (by decide)]; omega)) (fun _ => ?_)
      refine lv_aload_n hx hb d_H_init_21 rfl (lv_at hl 1 rfl) ?_
      refine gu_getR (b := la) C hw gf_H_11 (by rw [ev]; exact ht) (by rw [ev]; rfl) d_H_init_22 ?_
      refine lv_iload_n hx hb d_H_init_25 rfl (lv_at hl 0 rfl) ?_
      refine gu_new C hw gn_H_9 (by show 1 + 3 * i + 1 ≤ 223; omega) (by show 8 + 504 * i + 2 ≤ 11326; omega) d_H_init_26 (fun r w1 H1 k1 k2 k3 k4 hw => ?_)
      have o1 := gNew.one b k1 k2 k4
      refine lv_dup hx hb d_H_init_29 rfl ?_
      refine gu_cN (As := []) C hw hNs (c_Logger_init l D T z w1 (by rw [k3]; rfl)) gi_H_15 rfl hl.1 ⟨Nat.le_of_ble_eq_true rfl, Nat.le_of_ble_eq_true rfl, by show 1 + 3 * i + 1 + 2 ≤ 223; omega, by show 8 + 504 * i + 2 + 502 ≤ 11326; omega⟩ (Nat.le_of_ble_eq_true rfl) rfl d_H_init_30 (fun w2 H2 locs hP hw => ?_)
      obtain ⟨x, y, m1, m2, m3, m4⟩ := hP
      have o2 : gNew v w2 [r, x, y] b := o1.trans m1 (Or.inl (List.mem_singleton.mpr rfl))
      have keep2 : ∀ a, a ∈ v.1 → gAt w2 a = gAt v a := fun a ha => by rw [m1.keep (o1.mem ha) (o1.ne ha (List.mem_singleton.mpr rfl)), k4 a (ne_of_mem k1 ha)]
      rw [k3] at m4
      refine gu_rast (t := 3) (N := 2) (k := i) (Cn := "RankHouse$Logger") (Tb := F_1) (ci := 1) C hw (by rw [keep2 la Ml, sv]; rfl) (by decide) rfl rfl (by decide) (by rw [m4]; rfl) (nI_clamp (by omega)) (by rw [keep2 la Ml, sv]; exact nI_in (N := 8) (by omega) (by omega)) d_H_init_33 (fun w3 H3 locs k5 k6 k7 hw => ?_)
      refine lv_iinc (k := 0) hx hb d_H_init_34 hl rfl (inc_nI i) (by decide) rfl (fun ls hl => ?_)
      refine lv_goto (tgt := 15) hx hb d_H_init_37 (by decide) ?_
      have hsN : la ∈ ([la] ++ (List.range i).flatMap (fun l => [Lg l, Sr l, Vl l])) := List.mem_append_left _ (by simp)
      have nn : gNew u w3 (([la] ++ (List.range i).flatMap (fun l => [Lg l, Sr l, Vl l])) ++ [r, x, y]) b := by
        have := (nv.trans o2 (Or.inr rfl)).trans (gNew.put k5 k7) (Or.inl (List.mem_append_left _ hsN))
        rw [List.append_nil] at this
        exact this
      have nl : ∀ a, a ∈ [r, x, y] → a ≠ la := fun a ha => (o2.ne Ml ha).symm
      have old : ∀ l, l < i → va_up Lg i r l = Lg l ∧ va_up Sr i x l = Sr l ∧ va_up Vl i y l = Vl l := fun l hl => ⟨va_up_ne _ _ (by omega), va_up_ne _ _ (by omega), va_up_ne _ _ (by omega)⟩
      refine W.widen (show 1 + 3 * i + 1 + 2 ≤ 1 + 3 * (i + 1) by omega) (show 8 + 504 * i + 2 + 502 ≤ 8 + 504 * (i + 1) by omega) (ih (i + 1) w3 H3 locs ls (va_up Lg i r) (va_up Sr i x) (va_up Vl i y) (by omega) hl hw ?_ ?_ ?_ (fun l hl => ?_))
      · rw [flat_succ, va_up_self, va_up_self, va_up_self, flat_congr (g := fun l => [Lg l, Sr l, Vl l]) (fun l hl => by rw [(old l hl).1, (old l hl).2.1, (old l hl).2.2]), ← List.append_assoc]
        exact nn
      · rw [k7 b bla, keep2 b Mb, ev]
      · rw [k6, keep2 la Ml, sv, gRow_put]
      · by_cases e : l = i
        · subst e
          rw [va_up_self, va_up_self, va_up_self, k7 r (nl r (by simp)), m4, k7 x (nl x (by simp)), m2, k7 y (nl y (by simp)), m3]
          exact ⟨rfl, rfl, rfl⟩
        · have hl' : l < i := by omega
          rw [(old l hl').1, (old l hl').2.1, (old l hl').2.2]
          have g0 : ∀ x, x ∈ [Lg l, Sr l, Vl l] → x ∈ v.1 ∧ x ≠ la := fun x hx => by
            have hm : x ∈ (List.range i).flatMap (fun l => [Lg l, Sr l, Vl l]) := List.mem_flatMap.mpr ⟨l, List.mem_range.mpr hl', hx⟩
            exact ⟨nv.memN (List.mem_append_right _ hm), fun e => (List.nodup_append.mp nv.2.2.1).2.2 la (by simp) x hm e.symm⟩
          have q1 := g0 (Lg l) (by simp)
          have q2 := g0 (Sr l) (by simp)
          have q3 := g0 (Vl l) (by simp)
          rw [k7 _ q1.2, keep2 _ q1.1, k7 _ q2.2, keep2 _ q2.1, k7 _ q3.2, keep2 _ q3.1]
          exact rv l hl'
  exact loop 8 0 u2 H2 locs ls (fun _ => 0) (fun _ => 0) (fun _ => 0) (by omega) hl hw n2 e2 x2 (fun l hl => by omega)
