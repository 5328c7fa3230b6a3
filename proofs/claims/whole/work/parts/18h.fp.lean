-- freePlace, ask: makers that may throw
def gu_Xq (l : Launch) (y : MethodName) (cc : ByteArray) (nL : Nat) (ret : Option FieldType) (rm : Room) (As : List Value) (D : va_G) (T : Nat → ClassId) (z : Nat) (u : gG) (ex : Nat) (P : Option Nat → gG → Prop) : Prop :=
  vx_Met l y (.code y cc nL ret :: ga_ws) rm (va_Pc As (fun U => ga_Q D T z u.1 u.2.1 u.2.2.1 u.2.2.2 U ∧ gx_N U)) (va_Qq (fun (r' : Option Nat) (v : gG) => ex = 0 ∧ P r' v) (fun v t => ga_O D T z v.1 v.2.1 v.2.2.1 v.2.2.2 t) (ga_A z)) (ga_XC ex D T z u.1 u.2.1 u.2.2.1 u.2.2.2) rm.cells rm.slots (ga_A z)
def gu_Xi (l : Launch) (y : MethodName) (cc : ByteArray) (nL : Nat) (ret : Option FieldType) (rm : Room) (As : List Value) (D : va_G) (T : Nat → ClassId) (z : Nat) (u : gG) (ex : Nat) (P : Int32 → gG → Prop) : Prop :=
  vx_Met l y (.code y cc nL ret :: ga_ws) rm (va_Pc As (fun U => ga_Q D T z u.1 u.2.1 u.2.2.1 u.2.2.2 U ∧ gx_N U)) (va_Qi (fun (r' : Int32) (v : gG) => ex = 0 ∧ P r' v) (fun v t => ga_O D T z v.1 v.2.1 v.2.2.1 v.2.2.2 t) (ga_A z)) (ga_XC ex D T z u.1 u.2.1 u.2.2.1 u.2.2.2) rm.cells rm.slots (ga_A z)
section GV
variable {p : Program} {l : Launch} {e : Env} {R : Room} {s : State} {m : MethodId} {args : Array Value} {below : List Frame} {meth : Method} {c : Code} {H : Heap} {locs : List Loc} {cells slots : Nat} {Q : State → Prop} {cc : ByteArray} {pc nL : Nat} {ls : Array Slot} {rest st0 : List Value} {own : String} {D : va_G} {T : Nat → ClassId} {z : Nat} {u : gG} {y : MethodName} {bytes : ByteArray} {maxL n idx ci b : Nat} {ret : Option FieldType} {rm : Room} {As : List Value} {ex : Nat}
theorem gu_preV (hw : gWu D T z u s H locs) (hN : gx_N s) {N : Nat} {Cn : String} {Tb : u_T} (hb : u.2.1.1 b = ci + 1) (hci : ci < 20) (hc : ga_cl[ci]? = some (Cn, Tb, N)) (As : List Value) : PreV s H Cn b (va_Pc (.ref b :: As) (fun U => ga_Q D T z u.1 u.2.1 u.2.2.1 u.2.2.2 U ∧ gx_N U)) As := by
  obtain ⟨q0, hq⟩ := ga_at hw (a := b) (by omega)
  rw [ga_Eo hb hci] at hq
  exact ⟨fun a U g mk q => ⟨q.1, (ga_blind (.ref b :: As) a U g mk ⟨q.1, q.2.1⟩).2, q.2.2.same rfl⟩, va_recv hw.2.2.1 hw.1 hc hq, fun U hU hW => ⟨rfl, ga_in hw hU hW, hN.moved hW⟩⟩
theorem gu_xVq {P : Option Nat → gG → Prop} (C : CallFix p m c cc nL s args ga_ws own) (hw : gWu D T z u s H locs) (hN : gx_N s) (hM : gu_Xq l y bytes maxL ret rm (.ref b :: As) D T z u ex P) (hy : ga_Y own idx ci y bytes maxL ret n) (hb : u.2.1.1 b = ci + 1) (hn : As.length = n) (hsz : ls.size = nL) (hR : rm.frames + 1 ≤ R.frames ∧ 8 + (maxL + 11) + rm.locals ≤ R.locals ∧ cells + rm.cells ≤ R.cells ∧ slots + rm.slots ≤ R.slots) (hrest : (rest.map fun v => v.category).sum ≤ 8) (hst : st0 = As.reverse ++ .ref b :: rest) (hdg : decode cc pc = .ok (.invokevirtual idx, 3))
    (kx : ¬ ex = 0 → ∀ (ce : Cell) (q9 : Addr) (H1 : Heap) (locs1 : List Loc), gWu D T z u s H1 locs1 → H1[q9]? = some ce → ce.vm = .none → s.vm.findClass (ga_ex ex) = some ce.cls → vx_W p l e R s m args below meth c H1 locs1 (cells + rm.cells) (slots + rm.slots) Q (F0 m pc ls rest) q9)
    (kk : ex = 0 → ∀ (r : Option Nat) (v : gG) (H1 : Heap) (locs1 : List Loc), P r v → gWu D T z v s H1 locs1 → W p l e R s m args below meth c H1 locs1 (cells + rm.cells) (slots + rm.slots) Q (F0 m (pc + 3) ls (va_rf r :: rest))) : W p l e R s m args below meth c H locs cells slots Q (F0 m pc ls st0) := by
  have hy' := hy
  obtain ⟨hci, ⟨Tb, N, hcl⟩, -, -, -, -, -, h6, h7, h8⟩ := hy'
  refine gx_callq (vx_runV (As := As) (rest := rest) C hM (cwV n C.2.2.2.2 (ga_goodV hy) rfl rfl rfl ⟨rfl, h6, h7, h8⟩ ⟨hR.1, hR.2.1⟩) (gu_preV hw hN hb hci hcl As) rfl hn hsz hst (lv_room hrest) hdg ⟨hR.2.2.1, hR.2.2.2⟩) hw.2.2.2.1 (fun q _ h => h) (fun q h => h) (fun q _ h => h) (fun E ce q9 v t H1 locs1 ht hvm hp hB _ _ hS hc hv hcl => ?_) (fun r' v t H1 locs1 ht hvm hr hB _ _ hS => ?_)
  · obtain ⟨rfl, hB⟩ := hB
    exact kx hp ce q9 H1 locs1 (ga_out hw ht hS hB) hc hv hcl
  · exact kk hr.1 r' v H1 locs1 hr.2 (ga_out hw ht hS hB)
theorem gu_xVi {P : Int32 → gG → Prop} (C : CallFix p m c cc nL s args ga_ws own) (hw : gWu D T z u s H locs) (hN : gx_N s) (hM : gu_Xi l y bytes maxL ret rm (.ref b :: As) D T z u ex P) (hy : ga_Y own idx ci y bytes maxL ret n) (hb : u.2.1.1 b = ci + 1) (hn : As.length = n) (hsz : ls.size = nL) (hR : rm.frames + 1 ≤ R.frames ∧ 8 + (maxL + 11) + rm.locals ≤ R.locals ∧ cells + rm.cells ≤ R.cells ∧ slots + rm.slots ≤ R.slots) (hrest : (rest.map fun v => v.category).sum ≤ 8) (hst : st0 = As.reverse ++ .ref b :: rest) (hdg : decode cc pc = .ok (.invokevirtual idx, 3))
    (kx : ¬ ex = 0 → ∀ (ce : Cell) (q9 : Addr) (H1 : Heap) (locs1 : List Loc), gWu D T z u s H1 locs1 → H1[q9]? = some ce → ce.vm = .none → s.vm.findClass (ga_ex ex) = some ce.cls → vx_W p l e R s m args below meth c H1 locs1 (cells + rm.cells) (slots + rm.slots) Q (F0 m pc ls rest) q9)
    (kk : ex = 0 → ∀ (r : Int32) (v : gG) (H1 : Heap) (locs1 : List Loc), P r v → gWu D T z v s H1 locs1 → W p l e R s m args below meth c H1 locs1 (cells + rm.cells) (slots + rm.slots) Q (F0 m (pc + 3) ls (.int r :: rest))) : W p l e R s m args below meth c H locs cells slots Q (F0 m pc ls st0) := by
  have hy' := hy
  obtain ⟨hci, ⟨Tb, N, hcl⟩, -, -, -, -, -, h6, h7, h8⟩ := hy'
  refine vx_calli (vx_runV (As := As) (rest := rest) C hM (cwV n C.2.2.2.2 (ga_goodV hy) rfl rfl rfl ⟨rfl, h6, h7, h8⟩ ⟨hR.1, hR.2.1⟩) (gu_preV hw hN hb hci hcl As) rfl hn hsz hst (lv_room hrest) hdg ⟨hR.2.2.1, hR.2.2.2⟩) hw.2.2.2.1 (fun q _ h => h) (fun q h => h) (fun q _ h => h) (fun E ce q9 v t H1 locs1 ht hvm hp hB _ _ hS hc hv hcl => ?_) (fun r' v t H1 locs1 ht hvm hr hB _ _ hS => ?_)
  · obtain ⟨rfl, hB⟩ := hB
    exact kx hp ce q9 H1 locs1 (ga_out hw ht hS hB) hc hv hcl
  · exact kk hr.1 r' v H1 locs1 hr.2 (ga_out hw ht hS hB)
end GV
theorem isT1 {u : gG} {b : Nat} (h : (gAt u b).1 = 4) (h6 : ¬ (gAt u b).2.2.2.1 6 ≤ 0) : f_Question_isThere u.2.1 u.2.2.1 u.2.2.2 b = some 1 := by
  rw [f_Question_isThere, gd_in (show u.2.1.1 b = 4 from h), if_neg (show ¬ u.2.2.1 b 6 ≤ 0 from h6), f_Question_isThere_b12, gd_in (Or.inr rfl)]
theorem isT0 {u : gG} {b : Nat} (h : (gAt u b).1 = 4) (h6 : (gAt u b).2.2.2.1 6 = 0) : f_Question_isThere u.2.1 u.2.2.1 u.2.2.2 b = some 0 := by
  have h6' : u.2.2.1 b 6 ≤ 0 := by
    have : u.2.2.1 b 6 = 0 := h6
    rw [this]
    exact Int32.le_refl 0
  rw [f_Question_isThere, gd_in (show u.2.1.1 b = 4 from h), if_pos h6', f_Question_isThere_b12, gd_in (Or.inl rfl)]
/-- a new question at place i -/
def P_free (u : gG) (qa i b0 : Nat) (v : gG) : Prop := ∃ u1 u2, b0 ∉ u.1 ∧ u1.1 = u.1 ++ [b0] ∧ gAt u1 b0 = gBl 4 0 ∧ (∀ a, a ≠ b0 → gAt u1 a = gAt u a) ∧ P_Question u1 b0 u2 ∧ v.1 = u2.1 ∧ gAt v qa = gPut (gAt u2 qa) i b0 ∧ ∀ d, d ≠ qa → gAt v d = gAt u2 d
/-- what freePlace does: the first i places are taken -/
def FPc (u : gG) (h0 ex : Nat) (P : Option Nat → gG → Prop) : Prop := ∃ qa i, (gAt u h0).1 = 8 ∧ (gAt u h0).2.2.1 1 = some qa ∧ (gAt u qa).1 = 25 ∧ (gAt u qa).2.1 = 8 ∧ (∀ j, j < i → ∃ b, (gAt u qa).2.2.1 j = some b ∧ (gAt u b).1 = 4 ∧ ¬ (gAt u b).2.2.2.1 6 ≤ 0) ∧ ((i < 8 ∧ ex = 0 ∧ ∃ b0, (gAt u qa).2.2.1 i = some b0 ∧ (gAt u b0).1 = 4 ∧ (gAt u b0).2.2.2.1 6 = 0 ∧ P (some b0) u) ∨ (i < 8 ∧ ex = 0 ∧ (gAt u qa).2.2.1 i = none ∧ ∀ b0 v, P_free u qa i b0 v → P (some b0) v) ∨ (i = 8 ∧ ex = 3))
def rm_H_freePlace : Room := { frames := 6, locals := 90, cells := 34, slots := 4172 }
set_option maxHeartbeats 4000000 in
set_option maxRecDepth 100000 in
theorem c_H_freePlace (l : Launch) (D : va_G) (T : Nat → ClassId) (z : Nat) (u : gG) {h0 ex : Nat} {P : Option Nat → gG → Prop} (hl9 : l.stackTraces = false) (hF : FPc u h0 ex P) : gu_Xq l y_H_freePlace prog_1_method_31_code 2 (Option.some (Jvm.ClassFile.FieldType.object "RankHouse$Question")) rm_H_freePlace [.ref h0] D T z u ex P := by
  obtain ⟨qa, i, f1, f2, f3, f4, f5, f6⟩ := hF
  refine vx_ofW (cc := prog_1_method_31_code) (maxL := 2) (ret := (Option.some (Jvm.ClassFile.FieldType.object "RankHouse$Question"))) (by decide) rfl ?_
  intro p e s m args below meth c s₁ B hml hno hv
  obtain ⟨ha, hv, hNs⟩ := hv
  have hx := B.exec
  have hb := B.bytes
  have hr := B.returns
  have hts := atoms_spec (ws := .code y_H_freePlace prog_1_method_31_code 2 (Option.some (Jvm.ClassFile.FieldType.object "RankHouse$Question")) :: ga_ws) B.pre
  have hown : s.vm.findClass "RankHouse" = some m.cls := findClass_of_methodNamed B.named
  have hlocks := B.notSynchronized
  have C : CallFix p m c prog_1_method_31_code 2 s args ga_ws "RankHouse" := ⟨hx, hb, hml, hown, fun w h => hts w (List.mem_cons_of_mem _ h)⟩
  have hw : gWu D T z u s s.heap [] := ga_start hv
  have hl := lv_entry ([.ref h0]) (n := 2) (Nat.le_of_ble_eq_true rfl)
  rw [show entryFrame m args 2 = entryFrame m ([.ref h0] : List Value).toArray 2 by rw [ha], lg_entry_eq]
  generalize (lg_sl ([.ref h0]) ++ List.replicate (2 - (lg_sl ([.ref h0])).length) Slot.unset).toArray = ls at hl ⊢
  have hl : lv_has ls 2 [(0, .ref h0)] := hl
  have hi8 : i ≤ 8 := by rcases f6 with h | h | h <;> omega
  have q0 : h0 ∈ u.1 := hw.2.2.2.2.1 h0 (by have : u.2.1.1 h0 = (gAt u h0).1 := rfl; omega)
  have qq : qa ∈ u.1 := hw.2.2.2.2.1 qa (by have : u.2.1.1 qa = (gAt u qa).1 := rfl; omega)
  have hne0 : h0 ≠ qa := fun e => by rw [e, f3] at f1; exact absurd f1 (by decide)
  refine lv_iconst (v := 0) hx hb d_H_freePlace_0 (by decide) ?_
  refine lv_istore_n hx hb d_H_freePlace_1 rfl hl (by decide) rfl (fun ls hl => ?_)
  have hl : lv_has ls 2 [(1, .int (nI 0)), (0, .ref h0)] := hl
  -- the walk from pc 30 on, at place j which holds b0
  have tail : ∀ (j b0 : Nat) (v : gG) (cells slots : Nat) (H : Heap) (locs : List Loc) (ls : Array Slot), j < 8 → lv_has ls 2 [(1, .int (nI j)), (0, .ref h0)] → gWu D T z v s H locs → (gAt v h0).1 = 8 → (gAt v h0).2.2.1 1 = some qa → (gAt v qa).1 = 25 → (gAt v qa).2.1 = 8 → (gAt v qa).2.2.1 j = some b0 → (gAt v b0).1 = 4 → (gAt v b0).2.2.2.1 6 = 0 → ex = 0 → P (some b0) v → cells ≤ 34 → slots ≤ 4172 → W p l e rm_H_freePlace s m args below meth c H locs cells slots (vx_MQ below (va_Qq (fun (r' : Option Nat) (v : gG) => ex = 0 ∧ P r' v) (fun v t => ga_O D T z v.1 v.2.1 v.2.2.1 v.2.2.2 t) (ga_A z)) (ga_XC ex D T z u.1 u.2.1 u.2.2.1 u.2.2.2) args s rm_H_freePlace.cells rm_H_freePlace.slots (ga_A z)) (F0 m 30 ls []) := by
    intro j b0 v cells slots H locs ls hj hl hw g1 g2 g3 g4 g5 g6 g7 hex hP hc hs
    have hin : ¬ (nI j < 0 ∨ v.2.1.2.1 qa ≤ (nI j).toNatClampNeg) := by
      rw [show v.2.1.2.1 qa = 8 from g4]
      exact nI_in (by omega) (by omega)
    have hrr : v.2.1.2.2 qa (nI j).toNatClampNeg = some b0 := by
      rw [nI_clamp (by omega)]
      exact g5
    refine lv_aload_n hx hb d_H_freePlace_30 rfl (lv_at hl 1 rfl) ?_
    refine gu_getR (b := qa) C hw gf_H_18 g1 g2 d_H_freePlace_31 ?_
    refine lv_iload_n hx hb d_H_freePlace_34 rfl (lv_at hl 0 rfl) ?_
    refine ga_rald (t := 25) C hw g3 (by decide) rfl rfl hin hrr d_H_freePlace_35 ?_
    refine ga_cVi (As := []) C hw (c_Question_isThere l D T z v.1 (isT0 g6 g7)) gy_H_146 g6 rfl hl.1 ⟨Nat.le_of_ble_eq_true rfl, Nat.le_of_ble_eq_true rfl, rfl, rfl, hc, hs⟩ (Nat.le_of_ble_eq_true rfl) rfl d_H_freePlace_36 (fun H locs hw => ?_)
    refine lv_if_ne (tgt := 49) hx hb d_H_freePlace_39 (by decide) (fun hn => absurd rfl hn) (fun _ => ?_)
    refine lv_aload_n hx hb d_H_freePlace_42 rfl (lv_at hl 1 rfl) ?_
    refine gu_getR (b := qa) C hw gf_H_18 g1 g2 d_H_freePlace_43 ?_
    refine lv_iload_n hx hb d_H_freePlace_46 rfl (lv_at hl 0 rfl) ?_
    refine ga_rald (t := 25) C hw g3 (by decide) rfl rfl hin hrr d_H_freePlace_47 ?_
    exact W.widen hc hs (vx_ret (W.aret (v := va_rf (some b0)) hx hb hr (Or.inl ⟨_, rfl⟩) (ga_rfq _) (fun t ht _ => ⟨⟨some b0, v, rfl, ⟨hex, hP⟩, ga_o hw ht⟩, hw.2.2.2.1.F ht⟩) hw.2.2.2.1.2.2 d_H_freePlace_48))
  have loop : ∀ (k j : Nat) (H : Heap) (locs : List Loc) (ls : Array Slot), j + k = i → lv_has ls 2 [(1, .int (nI j)), (0, .ref h0)] → gWu D T z u s H locs → W p l e rm_H_freePlace s m args below meth c H locs 0 0 (vx_MQ below (va_Qq (fun (r' : Option Nat) (v : gG) => ex = 0 ∧ P r' v) (fun v t => ga_O D T z v.1 v.2.1 v.2.2.1 v.2.2.2 t) (ga_A z)) (ga_XC ex D T z u.1 u.2.1 u.2.2.1 u.2.2.2) args s rm_H_freePlace.cells rm_H_freePlace.slots (ga_A z)) (F0 m 2 ls []) := by
    intro k
    induction k with
    | zero =>
      intro j H locs ls hj hl hw
      obtain rfl : j = i := by omega
      refine lv_iload_n hx hb d_H_freePlace_2 rfl (lv_at hl 0 rfl) ?_
      refine lv_bipush (v := 8) hx hb d_H_freePlace_3 (by decide) ?_
      rcases f6 with ⟨h8, hex, b0, g1, g2, g3, g4⟩ | ⟨h8, hex, g1, g2⟩ | ⟨rfl, hex⟩
      · refine lv_icmp_ge (tgt := 55) hx hb d_H_freePlace_5 (by decide) (fun hp => absurd hp (by rw [ev_K2 (by omega) (by decide)]; omega)) (fun _ => ?_)
        refine lv_aload_n hx hb d_H_freePlace_8 rfl (lv_at hl 1 rfl) ?_
        refine gu_getR (b := qa) C hw gf_H_18 f1 f2 d_H_freePlace_9 ?_
        refine lv_iload_n hx hb d_H_freePlace_12 rfl (lv_at hl 0 rfl) ?_
        refine ga_rald (t := 25) (r := some b0) C hw f3 (by decide) rfl rfl (by rw [show u.2.1.2.1 qa = 8 from f4]; exact nI_in (by omega) (by omega)) (by rw [nI_clamp (by omega)]; exact g1) d_H_freePlace_13 ?_
        refine lv_ifnonnull (tgt := 30) hx hb d_H_freePlace_14 (by decide) ?_
        exact tail j b0 u 0 0 H locs ls h8 hl hw f1 f2 f3 f4 g1 g2 g3 hex g4 (by omega) (by omega)
      · refine lv_icmp_ge (tgt := 55) hx hb d_H_freePlace_5 (by decide) (fun hp => absurd hp (by rw [ev_K2 (by omega) (by decide)]; omega)) (fun _ => ?_)
        refine lv_aload_n hx hb d_H_freePlace_8 rfl (lv_at hl 1 rfl) ?_
        refine gu_getR (b := qa) C hw gf_H_18 f1 f2 d_H_freePlace_9 ?_
        refine lv_iload_n hx hb d_H_freePlace_12 rfl (lv_at hl 0 rfl) ?_
        refine ga_rald (t := 25) (r := none) C hw f3 (by decide) rfl rfl (by rw [show u.2.1.2.1 qa = 8 from f4]; exact nI_in (by omega) (by omega)) (by rw [nI_clamp (by omega)]; exact g1) d_H_freePlace_13 ?_
        refine lv_ifnonnullN hx hb d_H_freePlace_14 ?_
        refine lv_aload_n hx hb d_H_freePlace_17 rfl (lv_at hl 1 rfl) ?_
        refine gu_getR (b := qa) C hw gf_H_18 f1 f2 d_H_freePlace_18 ?_
        refine lv_iload_n hx hb d_H_freePlace_21 rfl (lv_at hl 0 rfl) ?_
        refine gu_new C hw gn_H_16 (Nat.le_of_ble_eq_true rfl) (Nat.le_of_ble_eq_true rfl) d_H_freePlace_22 (fun b0 u1 H1 k1 k2 k3 k4 hw => ?_)
        refine lv_dup hx hb d_H_freePlace_25 rfl ?_
        refine gu_cI (As := []) C hw hNs (c_Question_init l D T z u1 (by rw [k3]; rfl)) gi_H_234 rfl hl.1 ⟨Nat.le_of_ble_eq_true rfl, Nat.le_of_ble_eq_true rfl, Nat.le_of_ble_eq_true rfl, Nat.le_of_ble_eq_true rfl⟩ (Nat.le_of_ble_eq_true rfl) rfl d_H_freePlace_26 (fun u2 H2 locs hPq hw => ?_)
        have hPq' := hPq
        obtain ⟨mk, fr, rp, q1, h, g, w, sc, as, rr, vv, nn, eb, -⟩ := hPq'
        have hq1 : qa ∈ u1.1 := by rw [k2]; exact List.mem_append_left _ qq
        have h01 : h0 ∈ u1.1 := by rw [k2]; exact List.mem_append_left _ q0
        have eqa : gAt u2 qa = gAt u qa := by rw [nn.keep hq1 (ne_of_mem k1 qq), k4 qa (ne_of_mem k1 qq)]
        have eh0 : gAt u2 h0 = gAt u h0 := by rw [nn.keep h01 (ne_of_mem k1 q0), k4 h0 (ne_of_mem k1 q0)]
        rw [k3] at eb
        refine gu_rast (t := 4) (N := 19) (k := j) (Cn := "RankHouse$Question") (Tb := F_3) (ci := 3) C hw (by rw [eqa]; exact f3) (by decide) rfl rfl (by decide) (by rw [eb]; rfl) (nI_clamp (by omega)) (by rw [eqa, f4]; exact nI_in (by omega) (by omega)) d_H_freePlace_29 (fun u3 H3 locs k5 k6 k7 hw => ?_)
        have eb3 : gAt u3 b0 = gAt u2 b0 := k7 b0 (ne_of_mem k1 qq).symm
        refine tail j b0 u3 _ _ H3 locs ls h8 hl hw (by rw [k7 h0 hne0, eh0]; exact f1) (by rw [k7 h0 hne0, eh0]; exact f2) (by rw [k6, eqa]; exact f3) (by rw [k6, eqa]; exact f4) (by rw [k6]; exact va_up_self _ _ _) (by rw [eb3, eb]; rfl) (by rw [eb3, eb]; rfl) hex (g2 b0 u3 ⟨u1, u2, k1, k2, k3, k4, hPq, k5, k6, k7⟩) (Nat.le_of_ble_eq_true rfl) (Nat.le_of_ble_eq_true rfl)
      · refine lv_icmp_ge (tgt := 55) hx hb d_H_freePlace_5 (by decide) (fun _ => ?_) (fun hn => absurd (by decide) hn)
        subst hex
        exact ga_throw C hl9 hno hlocks hw gt_H_freePlace_55 hl.1 (Nat.le_of_ble_eq_true rfl) (Nat.le_of_ble_eq_true rfl) (Nat.le_of_ble_eq_true rfl) (Nat.le_of_ble_eq_true rfl) (Nat.le_of_ble_eq_true rfl)
    | succ k ih =>
      intro j H locs ls hj hl hw
      obtain ⟨b0, g1, g2, g3⟩ := f5 j (by omega)
      have hin : ¬ (nI j < 0 ∨ u.2.1.2.1 qa ≤ (nI j).toNatClampNeg) := by
        rw [show u.2.1.2.1 qa = 8 from f4]
        exact nI_in (by omega) (by omega)
      have hrr : u.2.1.2.2 qa (nI j).toNatClampNeg = some b0 := by
        rw [nI_clamp (by omega)]
        exact g1
      refine lv_iload_n hx hb d_H_freePlace_2 rfl (lv_at hl 0 rfl) ?_
      refine lv_bipush (v := 8) hx hb d_H_freePlace_3 (by decide) ?_
      refine lv_icmp_ge (tgt := 55) hx hb d_H_freePlace_5 (by decide) (fun hp => absurd hp (by rw [ev_K2 (by omega) (by decide)]; omega)) (fun _ => ?_)
      refine lv_aload_n hx hb d_H_freePlace_8 rfl (lv_at hl 1 rfl) ?_
      refine gu_getR (b := qa) C hw gf_H_18 f1 f2 d_H_freePlace_9 ?_
      refine lv_iload_n hx hb d_H_freePlace_12 rfl (lv_at hl 0 rfl) ?_
      refine ga_rald (t := 25) C hw f3 (by decide) rfl rfl hin hrr d_H_freePlace_13 ?_
      refine lv_ifnonnull (tgt := 30) hx hb d_H_freePlace_14 (by decide) ?_
      refine lv_aload_n hx hb d_H_freePlace_30 rfl (lv_at hl 1 rfl) ?_
      refine gu_getR (b := qa) C hw gf_H_18 f1 f2 d_H_freePlace_31 ?_
      refine lv_iload_n hx hb d_H_freePlace_34 rfl (lv_at hl 0 rfl) ?_
      refine ga_rald (t := 25) C hw f3 (by decide) rfl rfl hin hrr d_H_freePlace_35 ?_
      refine ga_cVi (As := []) C hw (c_Question_isThere l D T z u.1 (isT1 g2 g3)) gy_H_146 g2 rfl hl.1 ⟨Nat.le_of_ble_eq_true rfl, Nat.le_of_ble_eq_true rfl, rfl, rfl, Nat.le_of_ble_eq_true rfl, Nat.le_of_ble_eq_true rfl⟩ (Nat.le_of_ble_eq_true rfl) rfl d_H_freePlace_36 (fun H locs hw => ?_)
      refine lv_if_ne (tgt := 49) hx hb d_H_freePlace_39 (by decide) (fun _ => ?_) (fun hp => absurd hp (by decide))
      refine lv_iinc (k := 0) hx hb d_H_freePlace_49 hl rfl (inc_nI j) (by decide) rfl (fun ls hl => ?_)
      refine lv_goto (tgt := 2) hx hb d_H_freePlace_52 (by decide) ?_
      exact ih (j + 1) H locs ls (by omega) hl hw
  exact loop i 0 s.heap [] ls (by omega) hl hw
