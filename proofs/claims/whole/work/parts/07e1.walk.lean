section WALK
variable {p : Program} {l : Launch} {e : Env} {s : State} {m : MethodId} {args : Array Value} {below : List Frame} {meth : Method} {c : Code} {Q : State → Prop} {D : va_G} {T : Nat → ClassId} {z : Nat} {L : List Nat} {S : gS}
set_option maxHeartbeats 4000000 in
set_option maxRecDepth 100000 in
theorem m_H_needLogger_b10 {I : gMI} {J : gMJ} {zz : Nat} (hl9 : l.stackTraces = false) (hret : ∀ (pc cells slots : Nat) (ls : Array Slot) (H : Heap) (locs : List Loc), (0) = zz → decode prog_1_method_22_code pc = .ok (.return_, 1) → cells ≤ rm_H_needLogger.cells → slots ≤ rm_H_needLogger.slots → ga_W D T z L S I J s H locs → W p l e rm_H_needLogger s m args below meth c H locs cells slots Q (F0 m pc ls [])) (hnew : ∀ (pc ey cells slots : Nat) (ls : Array Slot) (rest : List Value) (H : Heap) (locs : List Loc), (ey) = zz → ga_TH "RankHouse" prog_1_method_22_code pc ey → ls.size = 1 → (rest.map fun v => v.category).sum ≤ 8 → cells + 1 ≤ rm_H_needLogger.cells → slots + 6 ≤ rm_H_needLogger.slots → ga_W D T z L S I J s H locs → W p l e rm_H_needLogger s m args below meth c H locs cells slots Q (F0 m pc ls rest)) (C : CallFix p m c prog_1_method_22_code 1 s args ga_ws "RankHouse") : f_H_needLogger_b10 S I J = some zz → ∀ (ls : Array Slot) (H : Heap) (locs : List Loc), lv_has ls 1 [] → ga_W D T z L S I J s H locs → W p l e rm_H_needLogger s m args below meth c H locs 0 0 Q (F0 m 10 ls []) := by
  intro hF ls H locs hl hw
  have hx := C.1
  have hb := C.2.1
  rw [f_H_needLogger_b10] at hF
  exact hnew _ _ _ _ _ _ _ _ (Option.some.inj hF) gt_H_needLogger_10 hl.1 (Nat.le_of_ble_eq_true rfl) (Nat.le_of_ble_eq_true rfl) (Nat.le_of_ble_eq_true rfl) hw
set_option maxHeartbeats 4000000 in
set_option maxRecDepth 100000 in
theorem c_H_needLogger (l : Launch) (D : va_G) (T : Nat → ClassId) (z : Nat) (L : List Nat) {S : gS} {I : gMI} {J : gMJ} {p0 : Int32} {ex : Nat} (hl9 : l.stackTraces = false) (hF : f_H_needLogger S I J p0 = some (ex)) : ga_Xv l y_H_needLogger prog_1_method_22_code 1 (Option.none : Option Jvm.ClassFile.FieldType) rm_H_needLogger [.int p0] D T z L S I J ex I J := by
  refine vx_ofW (cc := prog_1_method_22_code) (maxL := 1) (ret := (Option.none : Option Jvm.ClassFile.FieldType)) (by decide) rfl ?_
  intro p e s m args below meth c s₁ B hml hno hv
  obtain ⟨ha, hv⟩ := hv
  have hx := B.exec
  have hb := B.bytes
  have hr := B.returns
  have hts := atoms_spec (ws := .code y_H_needLogger prog_1_method_22_code 1 (Option.none : Option Jvm.ClassFile.FieldType) :: ga_ws) B.pre
  have hown : s.vm.findClass "RankHouse" = some m.cls := findClass_of_methodNamed B.named
  have hlocks := B.notSynchronized
  have C : CallFix p m c prog_1_method_22_code 1 s args ga_ws "RankHouse" := ⟨hx, hb, hml, hown, fun w h => hts w (List.mem_cons_of_mem _ h)⟩
  have hw := ga_start hv
  have hl := lv_entry ([.int p0]) (n := 1) (Nat.le_of_ble_eq_true rfl)
  rw [show entryFrame m args 1 = entryFrame m ([.int p0] : List Value).toArray 1 by rw [ha], lg_entry_eq]
  generalize (lg_sl ([.int p0]) ++ List.replicate (1 - (lg_sl ([.int p0])).length) Slot.unset).toArray = ls at hl ⊢
  have hl : lv_has ls 1 [(0, .int p0)] := hl
  have key : ∀ Q : State → Prop, (∀ (pc cells slots : Nat) (ls : Array Slot) (H : Heap) (locs : List Loc), (0) = (ex) → decode prog_1_method_22_code pc = .ok (.return_, 1) → cells ≤ rm_H_needLogger.cells → slots ≤ rm_H_needLogger.slots → ga_W D T z L S I J s H locs → W p l e rm_H_needLogger s m args below meth c H locs cells slots Q (F0 m pc ls [])) → (∀ (pc ey cells slots : Nat) (ls : Array Slot) (rest : List Value) (H : Heap) (locs : List Loc), (ey) = (ex) → ga_TH "RankHouse" prog_1_method_22_code pc ey → ls.size = 1 → (rest.map fun v => v.category).sum ≤ 8 → cells + 1 ≤ rm_H_needLogger.cells → slots + 6 ≤ rm_H_needLogger.slots → ga_W D T z L S I J s H locs → W p l e rm_H_needLogger s m args below meth c H locs cells slots Q (F0 m pc ls rest)) → W p l e rm_H_needLogger s m args below meth c s.heap [] 0 0 Q (F0 m 0 ls []) := by
    intro Q hret hnew
    rw [f_H_needLogger] at hF
    refine lv_iload_n hx hb d_H_needLogger_0 rfl (lv_at hl 0 rfl) ?_
    by_cases h1 : p0 < 0
    · rw [if_pos h1] at hF
      refine lv_if_lt (tgt := 10) hx hb d_H_needLogger_1 (by decide) (fun _ => ?_) (fun hn => absurd h1 hn)
      refine W.widen (k := 0) (n := 0) (Nat.le_of_ble_eq_true rfl) (Nat.le_of_ble_eq_true rfl) ?_
      exact m_H_needLogger_b10 hl9 hret hnew C hF _ _ _ (lv_sub hl [] rfl) hw
    · rw [if_neg h1] at hF
      refine lv_if_lt (tgt := 10) hx hb d_H_needLogger_1 (by decide) (fun hp => absurd hp h1) (fun _ => ?_)
      refine lv_iload_n hx hb d_H_needLogger_4 rfl (lv_at hl 0 rfl) ?_
      refine lv_bipush (v := 8) hx hb d_H_needLogger_5 (by decide) ?_
      by_cases h2 : p0 < (8 : Int32)
      · rw [if_pos h2] at hF
        refine lv_icmp_lt (tgt := 20) hx hb d_H_needLogger_7 (by decide) (fun _ => ?_) (fun hn => absurd h2 hn)
        exact hret _ _ _ _ _ _ (Option.some.inj hF) d_H_needLogger_20 (Nat.le_of_ble_eq_true rfl) (Nat.le_of_ble_eq_true rfl) hw
      · rw [if_neg h2] at hF
        refine lv_icmp_lt (tgt := 20) hx hb d_H_needLogger_7 (by decide) (fun hp => absurd hp h2) (fun _ => ?_)
        refine W.widen (k := 0) (n := 0) (Nat.le_of_ble_eq_true rfl) (Nat.le_of_ble_eq_true rfl) ?_
        exact m_H_needLogger_b10 hl9 hret hnew C hF _ _ _ (lv_sub hl [] rfl) hw
  refine key _ (fun pc cells slots ls H locs he hd hc hs hw => ?_) (fun pc ey cells slots ls rest H locs he ht hsz hre hc hs hw => ?_)
  · cases he
    exact W.widen hc hs (vx_ret (W.vret hx hb hr (fun t ht _ => ⟨⟨(), rfl, rfl, ga_o hw ht⟩, hw.2.2.2.1.F ht⟩) hw.2.2.2.1.2.2 hd))
  · cases he
    exact ga_throw C hl9 hno hlocks hw ht hsz hre (Nat.le_of_ble_eq_true rfl) (Nat.le_of_ble_eq_true rfl) hc hs
set_option maxHeartbeats 4000000 in
set_option maxRecDepth 100000 in
theorem c_H_loggerOf (l : Launch) (D : va_G) (T : Nat → ClassId) (z : Nat) (L : List Nat) {S : gS} {I : gMI} {J : gMJ} {p0 : Nat} {p1 : Int32} {ex : Nat} {r : Option Nat} (hl9 : l.stackTraces = false) (hF : f_H_loggerOf S I J p0 p1 = some (ex, r)) : ga_Xq l y_H_loggerOf prog_1_method_23_code 2 (Option.some (Jvm.ClassFile.FieldType.object "RankHouse$Logger")) rm_H_loggerOf [.ref p0, .int p1] D T z L S I J ex r I J := by
  refine vx_ofW (cc := prog_1_method_23_code) (maxL := 2) (ret := (Option.some (Jvm.ClassFile.FieldType.object "RankHouse$Logger"))) (by decide) rfl ?_
  intro p e s m args below meth c s₁ B hml hno hv
  obtain ⟨ha, hv⟩ := hv
  have hx := B.exec
  have hb := B.bytes
  have hr := B.returns
  have hts := atoms_spec (ws := .code y_H_loggerOf prog_1_method_23_code 2 (Option.some (Jvm.ClassFile.FieldType.object "RankHouse$Logger")) :: ga_ws) B.pre
  have hown : s.vm.findClass "RankHouse" = some m.cls := findClass_of_methodNamed B.named
  have hlocks := B.notSynchronized
  have C : CallFix p m c prog_1_method_23_code 2 s args ga_ws "RankHouse" := ⟨hx, hb, hml, hown, fun w h => hts w (List.mem_cons_of_mem _ h)⟩
  have hw := ga_start hv
  have hl := lv_entry ([.ref p0, .int p1]) (n := 2) (Nat.le_of_ble_eq_true rfl)
  rw [show entryFrame m args 2 = entryFrame m ([.ref p0, .int p1] : List Value).toArray 2 by rw [ha], lg_entry_eq]
  generalize (lg_sl ([.ref p0, .int p1]) ++ List.replicate (2 - (lg_sl ([.ref p0, .int p1])).length) Slot.unset).toArray = ls at hl ⊢
  have hl : lv_has ls 2 [(0, .ref p0), (1, .int p1)] := hl
  have key : ∀ Q : State → Prop, (∀ (pc cells slots : Nat) (ls : Array Slot) (H : Heap) (locs : List Loc) (x : Option Nat), (0, x) = (ex, r) → decode prog_1_method_23_code pc = .ok (.areturn, 1) → cells ≤ rm_H_loggerOf.cells → slots ≤ rm_H_loggerOf.slots → ga_W D T z L S I J s H locs → W p l e rm_H_loggerOf s m args below meth c H locs cells slots Q (F0 m pc ls [va_rf x])) → (∀ (pc ey cells slots : Nat) (ls : Array Slot) (rest : List Value) (H : Heap) (locs : List Loc) (ce : Cell) (q9 : Addr), (ey, none) = (ex, r) → ¬ ey = 0 → cells ≤ rm_H_loggerOf.cells → slots ≤ rm_H_loggerOf.slots → ga_W D T z L S I J s H locs → H[q9]? = some ce → ce.vm = .none → s.vm.findClass (ga_ex ey) = some ce.cls → vx_W p l e rm_H_loggerOf s m args below meth c H locs cells slots Q (F0 m pc ls rest) q9) → W p l e rm_H_loggerOf s m args below meth c s.heap [] 0 0 Q (F0 m 0 ls []) := by
    intro Q hret hthr
    rw [f_H_loggerOf] at hF
    refine lv_iload_n hx hb d_H_loggerOf_0 rfl (lv_at hl 1 rfl) ?_
    obtain ⟨e1, c2, hF⟩ := ob_ex hF
    refine ga_xSv (As := [.int p1]) C hw (c_H_needLogger l D T z L hl9 c2) gs_H_203 rfl hl.1 ⟨Nat.le_of_ble_eq_true rfl, Nat.le_of_ble_eq_true rfl, Nat.le_of_ble_eq_true rfl, Nat.le_of_ble_eq_true rfl⟩ (Nat.le_of_ble_eq_true rfl) rfl d_H_loggerOf_1 (fun hne ce q9 H locs hw hce hcv hcl => ?_) (fun h0 H locs hw => ?_)
    · rw [if_neg hne] at hF
      exact hthr _ _ _ _ _ _ _ _ _ _ (Option.some.inj hF) hne (Nat.le_of_ble_eq_true rfl) (Nat.le_of_ble_eq_true rfl) hw hce hcv hcl
    · rw [if_pos h0] at hF
      refine lv_aload_n hx hb d_H_loggerOf_4 rfl (lv_at hl 0 rfl) ?_
      obtain ⟨t3, hF⟩ := gd_ex hF
      obtain ⟨r4, hr4, hF⟩ := ob_ex hF
      refine ga_getR C hw gf_H_11 t3 hr4 d_H_loggerOf_5 ?_
      refine lv_iload_n hx hb d_H_loggerOf_8 rfl (lv_at hl 1 rfl) ?_
      obtain ⟨t5, hF⟩ := gd_ex hF
      obtain ⟨b6, hF⟩ := gd_ex hF
      obtain ⟨r7, hr7, hF⟩ := ob_ex hF
      refine ga_rald C hw t5 (by decide) rfl rfl b6 hr7 d_H_loggerOf_9 ?_
      exact hret _ _ _ _ _ _ _ (Option.some.inj hF) d_H_loggerOf_10 (Nat.le_of_ble_eq_true rfl) (Nat.le_of_ble_eq_true rfl) hw
  refine key _ (fun pc cells slots ls H locs x he hd hc hs hw => ?_) (fun pc ey cells slots ls rest H locs ce q9 he hne hc hs hw hce hcv hcl => ?_)
  · cases he
    exact W.widen hc hs (vx_ret (W.aret (v := va_rf _) hx hb hr (Or.inl ⟨_, rfl⟩) (ga_rfq _) (fun t ht _ => ⟨⟨_, (), rfl, ⟨rfl, rfl⟩, ga_o hw ht⟩, hw.2.2.2.1.F ht⟩) hw.2.2.2.1.2.2 hd))
  · cases he
    exact vx_out (fun x hx => (hno x hx).elim) hlocks hce hcv hcl (fun t ht _ => ⟨(), hne, ⟨rfl, ga_o hw ht⟩, hw.2.2.2.1.F ht⟩) hw.2.2.2.1.2.2 hc hs
set_option maxHeartbeats 4000000 in
set_option maxRecDepth 100000 in
theorem c_H_needUp (l : Launch) (D : va_G) (T : Nat → ClassId) (z : Nat) (L : List Nat) {S : gS} {I : gMI} {J : gMJ} {p0 : Nat} {ex : Nat} (hl9 : l.stackTraces = false) (hF : f_H_needUp S I J p0 = some (ex)) : ga_Xv l y_H_needUp prog_1_method_24_code 1 (Option.none : Option Jvm.ClassFile.FieldType) rm_H_needUp [.ref p0] D T z L S I J ex I J := by
  refine vx_ofW (cc := prog_1_method_24_code) (maxL := 1) (ret := (Option.none : Option Jvm.ClassFile.FieldType)) (by decide) rfl ?_
  intro p e s m args below meth c s₁ B hml hno hv
  obtain ⟨ha, hv⟩ := hv
  have hx := B.exec
  have hb := B.bytes
  have hr := B.returns
  have hts := atoms_spec (ws := .code y_H_needUp prog_1_method_24_code 1 (Option.none : Option Jvm.ClassFile.FieldType) :: ga_ws) B.pre
  have hown : s.vm.findClass "RankHouse" = some m.cls := findClass_of_methodNamed B.named
  have hlocks := B.notSynchronized
  have C : CallFix p m c prog_1_method_24_code 1 s args ga_ws "RankHouse" := ⟨hx, hb, hml, hown, fun w h => hts w (List.mem_cons_of_mem _ h)⟩
  have hw := ga_start hv
  have hl := lv_entry ([.ref p0]) (n := 1) (Nat.le_of_ble_eq_true rfl)
  rw [show entryFrame m args 1 = entryFrame m ([.ref p0] : List Value).toArray 1 by rw [ha], lg_entry_eq]
  generalize (lg_sl ([.ref p0]) ++ List.replicate (1 - (lg_sl ([.ref p0])).length) Slot.unset).toArray = ls at hl ⊢
  have hl : lv_has ls 1 [(0, .ref p0)] := hl
  have key : ∀ Q : State → Prop, (∀ (pc cells slots : Nat) (ls : Array Slot) (H : Heap) (locs : List Loc), (0) = (ex) → decode prog_1_method_24_code pc = .ok (.return_, 1) → cells ≤ rm_H_needUp.cells → slots ≤ rm_H_needUp.slots → ga_W D T z L S I J s H locs → W p l e rm_H_needUp s m args below meth c H locs cells slots Q (F0 m pc ls [])) → (∀ (pc ey cells slots : Nat) (ls : Array Slot) (rest : List Value) (H : Heap) (locs : List Loc), (ey) = (ex) → ga_TH "RankHouse" prog_1_method_24_code pc ey → ls.size = 1 → (rest.map fun v => v.category).sum ≤ 8 → cells + 1 ≤ rm_H_needUp.cells → slots + 6 ≤ rm_H_needUp.slots → ga_W D T z L S I J s H locs → W p l e rm_H_needUp s m args below meth c H locs cells slots Q (F0 m pc ls rest)) → W p l e rm_H_needUp s m args below meth c s.heap [] 0 0 Q (F0 m 0 ls []) := by
    intro Q hret hnew
    rw [f_H_needUp] at hF
    refine lv_aload_n hx hb d_H_needUp_0 rfl (lv_at hl 0 rfl) ?_
    obtain ⟨t1, hF⟩ := gd_ex hF
    refine ga_getI C hw gf_H_142 t1 d_H_needUp_1 ?_
    by_cases h2 : (I p0 1) = 0
    · rw [if_pos h2] at hF
      refine lv_if_ne (tgt := 17) hx hb d_H_needUp_4 (by decide) (fun hn => absurd h2 hn) (fun _ => ?_)
      exact hnew _ _ _ _ _ _ _ _ (Option.some.inj hF) gt_H_needUp_7 hl.1 (Nat.le_of_ble_eq_true rfl) (Nat.le_of_ble_eq_true rfl) (Nat.le_of_ble_eq_true rfl) hw
    · rw [if_neg h2] at hF
      refine lv_if_ne (tgt := 17) hx hb d_H_needUp_4 (by decide) (fun _ => ?_) (fun hp => absurd hp h2)
      exact hret _ _ _ _ _ _ (Option.some.inj hF) d_H_needUp_17 (Nat.le_of_ble_eq_true rfl) (Nat.le_of_ble_eq_true rfl) hw
  refine key _ (fun pc cells slots ls H locs he hd hc hs hw => ?_) (fun pc ey cells slots ls rest H locs he ht hsz hre hc hs hw => ?_)
  · cases he
    exact W.widen hc hs (vx_ret (W.vret hx hb hr (fun t ht _ => ⟨⟨(), rfl, rfl, ga_o hw ht⟩, hw.2.2.2.1.F ht⟩) hw.2.2.2.1.2.2 hd))
  · cases he
    exact ga_throw C hl9 hno hlocks hw ht hsz hre (Nat.le_of_ble_eq_true rfl) (Nat.le_of_ble_eq_true rfl) hc hs
set_option maxHeartbeats 4000000 in
set_option maxRecDepth 100000 in
theorem c_H_needRoomFor (l : Launch) (D : va_G) (T : Nat → ClassId) (z : Nat) (L : List Nat) {S : gS} {I : gMI} {J : gMJ} {p0 : Nat} {p1 : Int32} {ex : Nat} (hl9 : l.stackTraces = false) (hF : f_H_needRoomFor S I J p0 p1 = some (ex)) : ga_Xv l y_H_needRoomFor prog_1_method_25_code 2 (Option.none : Option Jvm.ClassFile.FieldType) rm_H_needRoomFor [.ref p0, .int p1] D T z L S I J ex I J := by
  refine vx_ofW (cc := prog_1_method_25_code) (maxL := 2) (ret := (Option.none : Option Jvm.ClassFile.FieldType)) (by decide) rfl ?_
  intro p e s m args below meth c s₁ B hml hno hv
  obtain ⟨ha, hv⟩ := hv
  have hx := B.exec
  have hb := B.bytes
  have hr := B.returns
  have hts := atoms_spec (ws := .code y_H_needRoomFor prog_1_method_25_code 2 (Option.none : Option Jvm.ClassFile.FieldType) :: ga_ws) B.pre
  have hown : s.vm.findClass "RankHouse" = some m.cls := findClass_of_methodNamed B.named
  have hlocks := B.notSynchronized
  have C : CallFix p m c prog_1_method_25_code 2 s args ga_ws "RankHouse" := ⟨hx, hb, hml, hown, fun w h => hts w (List.mem_cons_of_mem _ h)⟩
  have hw := ga_start hv
  have hl := lv_entry ([.ref p0, .int p1]) (n := 2) (Nat.le_of_ble_eq_true rfl)
  rw [show entryFrame m args 2 = entryFrame m ([.ref p0, .int p1] : List Value).toArray 2 by rw [ha], lg_entry_eq]
  generalize (lg_sl ([.ref p0, .int p1]) ++ List.replicate (2 - (lg_sl ([.ref p0, .int p1])).length) Slot.unset).toArray = ls at hl ⊢
  have hl : lv_has ls 2 [(0, .ref p0), (1, .int p1)] := hl
  have key : ∀ Q : State → Prop, (∀ (pc cells slots : Nat) (ls : Array Slot) (H : Heap) (locs : List Loc), (0) = (ex) → decode prog_1_method_25_code pc = .ok (.return_, 1) → cells ≤ rm_H_needRoomFor.cells → slots ≤ rm_H_needRoomFor.slots → ga_W D T z L S I J s H locs → W p l e rm_H_needRoomFor s m args below meth c H locs cells slots Q (F0 m pc ls [])) → (∀ (pc ey cells slots : Nat) (ls : Array Slot) (rest : List Value) (H : Heap) (locs : List Loc) (ce : Cell) (q9 : Addr), (ey) = (ex) → ¬ ey = 0 → cells ≤ rm_H_needRoomFor.cells → slots ≤ rm_H_needRoomFor.slots → ga_W D T z L S I J s H locs → H[q9]? = some ce → ce.vm = .none → s.vm.findClass (ga_ex ey) = some ce.cls → vx_W p l e rm_H_needRoomFor s m args below meth c H locs cells slots Q (F0 m pc ls rest) q9) → (∀ (pc ey cells slots : Nat) (ls : Array Slot) (rest : List Value) (H : Heap) (locs : List Loc), (ey) = (ex) → ga_TH "RankHouse" prog_1_method_25_code pc ey → ls.size = 2 → (rest.map fun v => v.category).sum ≤ 8 → cells + 1 ≤ rm_H_needRoomFor.cells → slots + 6 ≤ rm_H_needRoomFor.slots → ga_W D T z L S I J s H locs → W p l e rm_H_needRoomFor s m args below meth c H locs cells slots Q (F0 m pc ls rest)) → W p l e rm_H_needRoomFor s m args below meth c s.heap [] 0 0 Q (F0 m 0 ls []) := by
    intro Q hret hthr hnew
    rw [f_H_needRoomFor] at hF
    refine lv_aload_n hx hb d_H_needRoomFor_0 rfl (lv_at hl 0 rfl) ?_
    obtain ⟨e1, c2, hF⟩ := ob_ex hF
    refine ga_xSv (As := [.ref p0]) C hw (c_H_needUp l D T z L hl9 c2) gs_H_65 rfl hl.1 ⟨Nat.le_of_ble_eq_true rfl, Nat.le_of_ble_eq_true rfl, Nat.le_of_ble_eq_true rfl, Nat.le_of_ble_eq_true rfl⟩ (Nat.le_of_ble_eq_true rfl) rfl d_H_needRoomFor_1 (fun hne ce q9 H locs hw hce hcv hcl => ?_) (fun h0 H locs hw => ?_)
    · rw [if_neg hne] at hF
      exact hthr _ _ _ _ _ _ _ _ _ _ (Option.some.inj hF) hne (Nat.le_of_ble_eq_true rfl) (Nat.le_of_ble_eq_true rfl) hw hce hcv hcl
    · rw [if_pos h0] at hF
      refine lv_aload_n hx hb d_H_needRoomFor_4 rfl (lv_at hl 0 rfl) ?_
      obtain ⟨t3, hF⟩ := gd_ex hF
      obtain ⟨r4, hr4, hF⟩ := ob_ex hF
      refine ga_getR C hw gf_H_37 t3 hr4 d_H_needRoomFor_5 ?_
      obtain ⟨t5, hF⟩ := gd_ex hF
      refine ga_getI C hw gf_H_47 t5 d_H_needRoomFor_8 ?_
      refine lv_iload_n hx hb d_H_needRoomFor_11 rfl (lv_at hl 1 rfl) ?_
      refine lv_iadd hx hb d_H_needRoomFor_12 ?_
      refine lv_sipush (v := 500) hx hb d_H_needRoomFor_13 (by decide) ?_
      by_cases h6 : ((I r4 1) + p1) ≤ (500 : Int32)
      · rw [if_pos h6] at hF
        refine lv_icmp_le (tgt := 29) hx hb d_H_needRoomFor_16 (by decide) (fun _ => ?_) (fun hn => absurd h6 hn)
        exact hret _ _ _ _ _ _ (Option.some.inj hF) d_H_needRoomFor_29 (Nat.le_of_ble_eq_true rfl) (Nat.le_of_ble_eq_true rfl) hw
      · rw [if_neg h6] at hF
        refine lv_icmp_le (tgt := 29) hx hb d_H_needRoomFor_16 (by decide) (fun hp => absurd hp h6) (fun _ => ?_)
        exact hnew _ _ _ _ _ _ _ _ (Option.some.inj hF) gt_H_needRoomFor_19 hl.1 (Nat.le_of_ble_eq_true rfl) (Nat.le_of_ble_eq_true rfl) (Nat.le_of_ble_eq_true rfl) hw
  refine key _ (fun pc cells slots ls H locs he hd hc hs hw => ?_) (fun pc ey cells slots ls rest H locs ce q9 he hne hc hs hw hce hcv hcl => ?_) (fun pc ey cells slots ls rest H locs he ht hsz hre hc hs hw => ?_)
  · cases he
    exact W.widen hc hs (vx_ret (W.vret hx hb hr (fun t ht _ => ⟨⟨(), rfl, rfl, ga_o hw ht⟩, hw.2.2.2.1.F ht⟩) hw.2.2.2.1.2.2 hd))
  · cases he
    exact vx_out (fun x hx => (hno x hx).elim) hlocks hce hcv hcl (fun t ht _ => ⟨(), hne, ⟨rfl, ga_o hw ht⟩, hw.2.2.2.1.F ht⟩) hw.2.2.2.1.2.2 hc hs
  · cases he
    exact ga_throw C hl9 hno hlocks hw ht hsz hre (Nat.le_of_ble_eq_true rfl) (Nat.le_of_ble_eq_true rfl) hc hs
set_option maxHeartbeats 4000000 in
set_option maxRecDepth 100000 in
theorem c_H_record (l : Launch) (D : va_G) (T : Nat → ClassId) (z : Nat) (L : List Nat) {S : gS} {I : gMI} {J : gMJ} {p0 : Nat} {p1 : Int32} {p2 : Int32} {ex : Nat} {r : Int32} {RI : gMI} (hl9 : l.stackTraces = false) (hF : f_H_record S I J p0 p1 p2 = some (ex, r, RI)) : ga_Xi l y_H_record prog_1_method_2_code 4 (Option.some Jvm.ClassFile.FieldType.int) rm_H_record [.ref p0, .int p1, .int p2] D T z L S I J ex r RI J := by
  refine vx_ofW (cc := prog_1_method_2_code) (maxL := 4) (ret := (Option.some Jvm.ClassFile.FieldType.int)) (by decide) rfl ?_
  intro p e s m args below meth c s₁ B hml hno hv
  obtain ⟨ha, hv⟩ := hv
  have hx := B.exec
  have hb := B.bytes
  have hr := B.returns
  have hts := atoms_spec (ws := .code y_H_record prog_1_method_2_code 4 (Option.some Jvm.ClassFile.FieldType.int) :: ga_ws) B.pre
  have hown : s.vm.findClass "RankHouse" = some m.cls := findClass_of_methodNamed B.named
  have hlocks := B.notSynchronized
  have C : CallFix p m c prog_1_method_2_code 4 s args ga_ws "RankHouse" := ⟨hx, hb, hml, hown, fun w h => hts w (List.mem_cons_of_mem _ h)⟩
  have hw := ga_start hv
  have hl := lv_entry ([.ref p0, .int p1, .int p2]) (n := 4) (Nat.le_of_ble_eq_true rfl)
  rw [show entryFrame m args 4 = entryFrame m ([.ref p0, .int p1, .int p2] : List Value).toArray 4 by rw [ha], lg_entry_eq]
  generalize (lg_sl ([.ref p0, .int p1, .int p2]) ++ List.replicate (4 - (lg_sl ([.ref p0, .int p1, .int p2])).length) Slot.unset).toArray = ls at hl ⊢
  have hl : lv_has ls 4 [(0, .ref p0), (1, .int p1), (2, .int p2)] := hl
  have key : ∀ Q : State → Prop, (∀ (pc cells slots : Nat) (ls : Array Slot) (H : Heap) (locs : List Loc) (x : Int32) (I1 : gMI), (0, x, I1) = (ex, r, RI) → decode prog_1_method_2_code pc = .ok (.ireturn, 1) → cells ≤ rm_H_record.cells → slots ≤ rm_H_record.slots → ga_W D T z L S I1 J s H locs → W p l e rm_H_record s m args below meth c H locs cells slots Q (F0 m pc ls [.int x])) → (∀ (pc ey cells slots : Nat) (ls : Array Slot) (rest : List Value) (H : Heap) (locs : List Loc) (ce : Cell) (q9 : Addr) (I1 : gMI), (ey, 0, I1) = (ex, r, RI) → ¬ ey = 0 → cells ≤ rm_H_record.cells → slots ≤ rm_H_record.slots → ga_W D T z L S I1 J s H locs → H[q9]? = some ce → ce.vm = .none → s.vm.findClass (ga_ex ey) = some ce.cls → vx_W p l e rm_H_record s m args below meth c H locs cells slots Q (F0 m pc ls rest) q9) → W p l e rm_H_record s m args below meth c s.heap [] 0 0 Q (F0 m 0 ls []) := by
    intro Q hret hthr
    rw [f_H_record] at hF
    refine lv_aload_n hx hb d_H_record_0 rfl (lv_at hl 0 rfl) ?_
    refine lv_iload_n hx hb d_H_record_1 rfl (lv_at hl 1 rfl) ?_
    obtain ⟨t1, hF⟩ := gd_ex hF
    obtain ⟨e2, q3, c4, hF⟩ := bd2_ex hF
    refine ga_xVq (As := [.int p1]) C hw (c_H_loggerOf l D T z L hl9 c4) gy_H_29 t1 rfl hl.1 ⟨Nat.le_of_ble_eq_true rfl, Nat.le_of_ble_eq_true rfl, Nat.le_of_ble_eq_true rfl, Nat.le_of_ble_eq_true rfl⟩ (Nat.le_of_ble_eq_true rfl) rfl d_H_record_2 (fun hne ce q9 H locs hw hce hcv hcl => ?_) (fun h0 H locs hw => ?_)
    · rw [if_neg hne] at hF
      exact hthr _ _ _ _ _ _ _ _ _ _ _ (Option.some.inj hF) hne (Nat.le_of_ble_eq_true rfl) (Nat.le_of_ble_eq_true rfl) hw hce hcv hcl
    · rw [if_pos h0] at hF
      obtain ⟨r5, er5, hG⟩ := ob_ex hF
      clear hF
      subst er5
      have hF := hG
      refine lv_astore_n hx hb d_H_record_5 rfl hl (by decide) rfl (fun ls hl => ?_)
      have hl : lv_has ls 4 [(3, .ref r5), (0, .ref p0), (1, .int p1), (2, .int p2)] := hl
      refine lv_aload_n hx hb d_H_record_6 rfl (lv_at hl 0 rfl) ?_
      refine lv_iconst (v := 1) hx hb d_H_record_7 (by decide) ?_
      obtain ⟨e6, c7, hF⟩ := ob_ex hF
      refine ga_xSv (As := [.ref r5, .int (1 : Int32)]) C hw (c_H_needRoomFor l D T z L hl9 c7) gs_H_33 rfl hl.1 ⟨Nat.le_of_ble_eq_true rfl, Nat.le_of_ble_eq_true rfl, Nat.le_of_ble_eq_true rfl, Nat.le_of_ble_eq_true rfl⟩ (Nat.le_of_ble_eq_true rfl) rfl d_H_record_8 (fun hne ce q9 H locs hw hce hcv hcl => ?_) (fun h0 H locs hw => ?_)
      · rw [if_neg hne] at hF
        exact hthr _ _ _ _ _ _ _ _ _ _ _ (Option.some.inj hF) hne (Nat.le_of_ble_eq_true rfl) (Nat.le_of_ble_eq_true rfl) hw hce hcv hcl
      · rw [if_pos h0] at hF
        refine lv_aload_n hx hb d_H_record_11 rfl (lv_at hl 0 rfl) ?_
        obtain ⟨t8, hF⟩ := gd_ex hF
        obtain ⟨r9, hr9, hF⟩ := ob_ex hF
        refine ga_getR C hw gf_H_37 t8 hr9 d_H_record_12 ?_
        refine lv_iload_n hx hb d_H_record_15 rfl (lv_at hl 3 rfl) ?_
        obtain ⟨t10, hF⟩ := gd_ex hF
        obtain ⟨I11, c12, hF⟩ := ob_ex hF
        refine ga_cVv (As := [.int p2]) C hw (c_SortedRow_insert l D T z L c12) gy_H_41 t10 rfl hl.1 ⟨Nat.le_of_ble_eq_true rfl, Nat.le_of_ble_eq_true rfl, rfl, rfl, Nat.le_of_ble_eq_true rfl, Nat.le_of_ble_eq_true rfl⟩ (Nat.le_of_ble_eq_true rfl) rfl d_H_record_16 (fun H locs hw => ?_)
        refine lv_aload_n hx hb d_H_record_19 rfl (lv_at hl 0 rfl) ?_
        refine ga_getR C hw gf_H_37 t8 hr9 d_H_record_20 ?_
        refine ga_getI C hw gf_H_47 t10 d_H_record_23 ?_
        exact hret _ _ _ _ _ _ _ _ (Option.some.inj hF) d_H_record_26 (Nat.le_of_ble_eq_true rfl) (Nat.le_of_ble_eq_true rfl) hw
  refine key _ (fun pc cells slots ls H locs x I1 he hd hc hs hw => ?_) (fun pc ey cells slots ls rest H locs ce q9 I1 he hne hc hs hw hce hcv hcl => ?_)
  · cases he
    exact W.widen hc hs (vx_ret (W.iret hx hb hr (fun t ht _ => ⟨⟨_, (), rfl, ⟨rfl, rfl⟩, ga_o hw ht⟩, hw.2.2.2.1.F ht⟩) hw.2.2.2.1.2.2 hd))
  · cases he
    exact vx_out (fun x hx => (hno x hx).elim) hlocks hce hcv hcl (fun t ht _ => ⟨(), hne, ⟨rfl, ga_o hw ht⟩, hw.2.2.2.1.F ht⟩) hw.2.2.2.1.2.2 hc hs
set_option maxHeartbeats 4000000 in
set_option maxRecDepth 100000 in
theorem m_H_fill_b18 {J : gMJ} {zz : Nat × Int32 × gMI} (hl9 : l.stackTraces = false) (hret : ∀ (pc cells slots : Nat) (ls : Array Slot) (H : Heap) (locs : List Loc) (x : Int32) (I1 : gMI), (0, x, I1) = zz → decode prog_1_method_3_code pc = .ok (.ireturn, 1) → cells ≤ rm_H_fill.cells → slots ≤ rm_H_fill.slots → ga_W D T z L S I1 J s H locs → W p l e rm_H_fill s m args below meth c H locs cells slots Q (F0 m pc ls [.int x])) (hthr : ∀ (pc ey cells slots : Nat) (ls : Array Slot) (rest : List Value) (H : Heap) (locs : List Loc) (ce : Cell) (q9 : Addr) (I1 : gMI), (ey, 0, I1) = zz → ¬ ey = 0 → cells ≤ rm_H_fill.cells → slots ≤ rm_H_fill.slots → ga_W D T z L S I1 J s H locs → H[q9]? = some ce → ce.vm = .none → s.vm.findClass (ga_ex ey) = some ce.cls → vx_W p l e rm_H_fill s m args below meth c H locs cells slots Q (F0 m pc ls rest) q9) (hnew : ∀ (pc ey cells slots : Nat) (ls : Array Slot) (rest : List Value) (H : Heap) (locs : List Loc) (I1 : gMI), (ey, 0, I1) = zz → ga_TH "RankHouse" prog_1_method_3_code pc ey → ls.size = 8 → (rest.map fun v => v.category).sum ≤ 8 → cells + 1 ≤ rm_H_fill.cells → slots + 6 ≤ rm_H_fill.slots → ga_W D T z L S I1 J s H locs → W p l e rm_H_fill s m args below meth c H locs cells slots Q (F0 m pc ls rest)) (C : CallFix p m c prog_1_method_3_code 8 s args ga_ws "RankHouse") : ∀ (I : gMI), f_H_fill_b18 S J I = some zz → ∀ (ls : Array Slot) (H : Heap) (locs : List Loc), lv_has ls 8 [] → ga_W D T z L S I J s H locs → W p l e rm_H_fill s m args below meth c H locs 3 18 Q (F0 m 18 ls []) := by
  intro I hF ls H locs hl hw
  have hx := C.1
  have hb := C.2.1
  rw [f_H_fill_b18] at hF
  exact hnew _ _ _ _ _ _ _ _ _ (Option.some.inj hF) gt_H_fill_18 hl.1 (Nat.le_of_ble_eq_true rfl) (Nat.le_of_ble_eq_true rfl) (Nat.le_of_ble_eq_true rfl) hw
set_option maxHeartbeats 4000000 in
set_option maxRecDepth 100000 in
theorem m_H_fill_b37 {J : gMJ} {zz : Nat × Int32 × gMI} (hl9 : l.stackTraces = false) (hret : ∀ (pc cells slots : Nat) (ls : Array Slot) (H : Heap) (locs : List Loc) (x : Int32) (I1 : gMI), (0, x, I1) = zz → decode prog_1_method_3_code pc = .ok (.ireturn, 1) → cells ≤ rm_H_fill.cells → slots ≤ rm_H_fill.slots → ga_W D T z L S I1 J s H locs → W p l e rm_H_fill s m args below meth c H locs cells slots Q (F0 m pc ls [.int x])) (hthr : ∀ (pc ey cells slots : Nat) (ls : Array Slot) (rest : List Value) (H : Heap) (locs : List Loc) (ce : Cell) (q9 : Addr) (I1 : gMI), (ey, 0, I1) = zz → ¬ ey = 0 → cells ≤ rm_H_fill.cells → slots ≤ rm_H_fill.slots → ga_W D T z L S I1 J s H locs → H[q9]? = some ce → ce.vm = .none → s.vm.findClass (ga_ex ey) = some ce.cls → vx_W p l e rm_H_fill s m args below meth c H locs cells slots Q (F0 m pc ls rest) q9) (hnew : ∀ (pc ey cells slots : Nat) (ls : Array Slot) (rest : List Value) (H : Heap) (locs : List Loc) (I1 : gMI), (ey, 0, I1) = zz → ga_TH "RankHouse" prog_1_method_3_code pc ey → ls.size = 8 → (rest.map fun v => v.category).sum ≤ 8 → cells + 1 ≤ rm_H_fill.cells → slots + 6 ≤ rm_H_fill.slots → ga_W D T z L S I1 J s H locs → W p l e rm_H_fill s m args below meth c H locs cells slots Q (F0 m pc ls rest)) (C : CallFix p m c prog_1_method_3_code 8 s args ga_ws "RankHouse") : ∀ (n : Nat) (I : gMI) (l2 : Int32) (l3 : Int32) (l4 : Int32) (l5 : Int32) (l6 : Nat) (l7 : Int32), f_H_fill_b37 S J n I l2 l3 l4 l5 l6 l7 = some zz → ∀ (ls : Array Slot) (H : Heap) (locs : List Loc), lv_has ls 8 [(2, .int l2), (3, .int l3), (4, .int l4), (5, .int l5), (6, .ref l6), (7, .int l7)] → ga_W D T z L S I J s H locs → W p l e rm_H_fill s m args below meth c H locs 3 18 Q (F0 m 37 ls []) := by
  intro n
  induction n with
  | zero =>
    intro I l2 l3 l4 l5 l6 l7 hF ls H locs hl hw
    rw [f_H_fill_b37] at hF
    cases hF
  | succ n ih =>
    intro I l2 l3 l4 l5 l6 l7 hF ls H locs hl hw
    have hx := C.1
    have hb := C.2.1
    rw [f_H_fill_b37] at hF
    refine lv_iload hx hb d_H_fill_37 (lv_at hl 5 rfl) ?_
    refine lv_iload_n hx hb d_H_fill_39 rfl (lv_at hl 0 rfl) ?_
    by_cases h1 : l2 ≤ l7
    · rw [if_pos h1] at hF
      refine lv_icmp_ge (tgt := 73) hx hb d_H_fill_40 (by decide) (fun _ => ?_) (fun hn => absurd h1 hn)
      refine lv_aload hx hb d_H_fill_73 (lv_at hl 4 rfl) ?_
      obtain ⟨t2, hF⟩ := gd_ex hF
      obtain ⟨r3, hr3, hF⟩ := ob_ex hF
      refine ga_getR C hw gf_H_37 t2 hr3 d_H_fill_75 ?_
      obtain ⟨t4, hF⟩ := gd_ex hF
      refine ga_getI C hw gf_H_47 t4 d_H_fill_78 ?_
      exact hret _ _ _ _ _ _ _ _ (Option.some.inj hF) d_H_fill_81 (Nat.le_of_ble_eq_true rfl) (Nat.le_of_ble_eq_true rfl) hw
    · rw [if_neg h1] at hF
      refine lv_icmp_ge (tgt := 73) hx hb d_H_fill_40 (by decide) (fun hp => absurd hp h1) (fun _ => ?_)
      refine lv_aload hx hb d_H_fill_43 (lv_at hl 4 rfl) ?_
      obtain ⟨t5, hF⟩ := gd_ex hF
      obtain ⟨r6, hr6, hF⟩ := ob_ex hF
      refine ga_getR C hw gf_H_37 t5 hr6 d_H_fill_45 ?_
      refine lv_iload_n hx hb d_H_fill_48 rfl (lv_at hl 1 rfl) ?_
      refine lv_iload hx hb d_H_fill_49 (lv_at hl 5 rfl) ?_
      refine lv_iload hx hb d_H_fill_51 (lv_at hl 2 rfl) ?_
      refine lv_imul hx hb d_H_fill_53 ?_
      refine lv_iadd hx hb d_H_fill_54 ?_
      refine lv_iload hx hb d_H_fill_55 (lv_at hl 5 rfl) ?_
      refine lv_ldc hx hb C.2.2.2.1 (C.2.2.2.2 _ gk_H_58) d_H_fill_57 ?_
      refine lv_imul hx hb d_H_fill_59 ?_
      refine lv_iload hx hb d_H_fill_60 (lv_at hl 3 rfl) ?_
      refine lv_iand hx hb d_H_fill_62 ?_
      refine lv_ixor hx hb d_H_fill_63 ?_
      obtain ⟨t7, hF⟩ := gd_ex hF
      obtain ⟨I8, c9, hF⟩ := ob_ex hF
      refine ga_cVv (As := [.int ((l3 + (l7 * l4)) ^^^ ((l7 * (40503 : Int32)) &&& l5))]) C hw (c_SortedRow_insert l D T z L c9) gy_H_41 t7 rfl hl.1 ⟨Nat.le_of_ble_eq_true rfl, Nat.le_of_ble_eq_true rfl, rfl, rfl, Nat.le_of_ble_eq_true rfl, Nat.le_of_ble_eq_true rfl⟩ (Nat.le_of_ble_eq_true rfl) rfl d_H_fill_64 (fun H locs hw => ?_)
      obtain ⟨v10, ev10, hF⟩ := bnd_ex hF
      refine lv_iinc (k := 5) (v := v10) hx hb d_H_fill_67 hl rfl (by rw [ev10]; rfl) (by decide) rfl (fun ls hl => ?_)
      have hl : lv_has ls 8 [(7, .int v10), (2, .int l2), (3, .int l3), (4, .int l4), (5, .int l5), (6, .ref l6)] := hl
      refine lv_goto (tgt := 37) hx hb d_H_fill_70 (by decide) ?_
      exact ih _ _ _ _ _ _ _ hF _ _ _ (lv_sub hl [1, 2, 3, 4, 5, 0] rfl) hw
set_option maxHeartbeats 4000000 in
set_option maxRecDepth 100000 in
theorem c_H_fill (l : Launch) (D : va_G) (T : Nat → ClassId) (z : Nat) (L : List Nat) {S : gS} {I : gMI} {J : gMJ} {p0 : Nat} {p1 : Int32} {p2 : Int32} {p3 : Int32} {p4 : Int32} {p5 : Int32} {ex : Nat} {r : Int32} {RI : gMI} (hl9 : l.stackTraces = false) (hF : f_H_fill S I J p0 p1 p2 p3 p4 p5 = some (ex, r, RI)) : ga_Xi l y_H_fill prog_1_method_3_code 8 (Option.some Jvm.ClassFile.FieldType.int) rm_H_fill [.ref p0, .int p1, .int p2, .int p3, .int p4, .int p5] D T z L S I J ex r RI J := by
  refine vx_ofW (cc := prog_1_method_3_code) (maxL := 8) (ret := (Option.some Jvm.ClassFile.FieldType.int)) (by decide) rfl ?_
  intro p e s m args below meth c s₁ B hml hno hv
  obtain ⟨ha, hv⟩ := hv
  have hx := B.exec
  have hb := B.bytes
  have hr := B.returns
  have hts := atoms_spec (ws := .code y_H_fill prog_1_method_3_code 8 (Option.some Jvm.ClassFile.FieldType.int) :: ga_ws) B.pre
  have hown : s.vm.findClass "RankHouse" = some m.cls := findClass_of_methodNamed B.named
  have hlocks := B.notSynchronized
  have C : CallFix p m c prog_1_method_3_code 8 s args ga_ws "RankHouse" := ⟨hx, hb, hml, hown, fun w h => hts w (List.mem_cons_of_mem _ h)⟩
  have hw := ga_start hv
  have hl := lv_entry ([.ref p0, .int p1, .int p2, .int p3, .int p4, .int p5]) (n := 8) (Nat.le_of_ble_eq_true rfl)
  rw [show entryFrame m args 8 = entryFrame m ([.ref p0, .int p1, .int p2, .int p3, .int p4, .int p5] : List Value).toArray 8 by rw [ha], lg_entry_eq]
  generalize (lg_sl ([.ref p0, .int p1, .int p2, .int p3, .int p4, .int p5]) ++ List.replicate (8 - (lg_sl ([.ref p0, .int p1, .int p2, .int p3, .int p4, .int p5])).length) Slot.unset).toArray = ls at hl ⊢
  have hl : lv_has ls 8 [(0, .ref p0), (1, .int p1), (2, .int p2), (3, .int p3), (4, .int p4), (5, .int p5)] := hl
  have key : ∀ Q : State → Prop, (∀ (pc cells slots : Nat) (ls : Array Slot) (H : Heap) (locs : List Loc) (x : Int32) (I1 : gMI), (0, x, I1) = (ex, r, RI) → decode prog_1_method_3_code pc = .ok (.ireturn, 1) → cells ≤ rm_H_fill.cells → slots ≤ rm_H_fill.slots → ga_W D T z L S I1 J s H locs → W p l e rm_H_fill s m args below meth c H locs cells slots Q (F0 m pc ls [.int x])) → (∀ (pc ey cells slots : Nat) (ls : Array Slot) (rest : List Value) (H : Heap) (locs : List Loc) (ce : Cell) (q9 : Addr) (I1 : gMI), (ey, 0, I1) = (ex, r, RI) → ¬ ey = 0 → cells ≤ rm_H_fill.cells → slots ≤ rm_H_fill.slots → ga_W D T z L S I1 J s H locs → H[q9]? = some ce → ce.vm = .none → s.vm.findClass (ga_ex ey) = some ce.cls → vx_W p l e rm_H_fill s m args below meth c H locs cells slots Q (F0 m pc ls rest) q9) → (∀ (pc ey cells slots : Nat) (ls : Array Slot) (rest : List Value) (H : Heap) (locs : List Loc) (I1 : gMI), (ey, 0, I1) = (ex, r, RI) → ga_TH "RankHouse" prog_1_method_3_code pc ey → ls.size = 8 → (rest.map fun v => v.category).sum ≤ 8 → cells + 1 ≤ rm_H_fill.cells → slots + 6 ≤ rm_H_fill.slots → ga_W D T z L S I1 J s H locs → W p l e rm_H_fill s m args below meth c H locs cells slots Q (F0 m pc ls rest)) → W p l e rm_H_fill s m args below meth c s.heap [] 0 0 Q (F0 m 0 ls []) := by
    intro Q hret hthr hnew
    rw [f_H_fill] at hF
    refine lv_aload_n hx hb d_H_fill_0 rfl (lv_at hl 0 rfl) ?_
    refine lv_iload_n hx hb d_H_fill_1 rfl (lv_at hl 1 rfl) ?_
    obtain ⟨t1, hF⟩ := gd_ex hF
    obtain ⟨e2, q3, c4, hF⟩ := bd2_ex hF
    refine ga_xVq (As := [.int p1]) C hw (c_H_loggerOf l D T z L hl9 c4) gy_H_29 t1 rfl hl.1 ⟨Nat.le_of_ble_eq_true rfl, Nat.le_of_ble_eq_true rfl, Nat.le_of_ble_eq_true rfl, Nat.le_of_ble_eq_true rfl⟩ (Nat.le_of_ble_eq_true rfl) rfl d_H_fill_2 (fun hne ce q9 H locs hw hce hcv hcl => ?_) (fun h0 H locs hw => ?_)
    · rw [if_neg hne] at hF
      exact hthr _ _ _ _ _ _ _ _ _ _ _ (Option.some.inj hF) hne (Nat.le_of_ble_eq_true rfl) (Nat.le_of_ble_eq_true rfl) hw hce hcv hcl
    · rw [if_pos h0] at hF
      obtain ⟨r5, er5, hG⟩ := ob_ex hF
      clear hF
      subst er5
      have hF := hG
      refine lv_astore hx hb d_H_fill_5 hl (by decide) rfl (fun ls hl => ?_)
      have hl : lv_has ls 8 [(6, .ref r5), (0, .ref p0), (1, .int p1), (2, .int p2), (3, .int p3), (4, .int p4), (5, .int p5)] := hl
      refine lv_iload_n hx hb d_H_fill_7 rfl (lv_at hl 3 rfl) ?_
      by_cases h6 : p2 < 0
      · rw [if_pos h6] at hF
        refine lv_if_lt (tgt := 18) hx hb d_H_fill_8 (by decide) (fun _ => ?_) (fun hn => absurd h6 hn)
        refine W.widen (k := 3) (n := 18) (Nat.le_of_ble_eq_true rfl) (Nat.le_of_ble_eq_true rfl) ?_
        exact m_H_fill_b18 hl9 hret hthr hnew C _ hF _ _ _ (lv_sub hl [] rfl) hw
      · rw [if_neg h6] at hF
        refine lv_if_lt (tgt := 18) hx hb d_H_fill_8 (by decide) (fun hp => absurd hp h6) (fun _ => ?_)
        refine lv_iload_n hx hb d_H_fill_11 rfl (lv_at hl 3 rfl) ?_
        refine lv_sipush (v := 500) hx hb d_H_fill_12 (by decide) ?_
        by_cases h7 : p2 ≤ (500 : Int32)
        · rw [if_pos h7] at hF
          refine lv_icmp_le (tgt := 28) hx hb d_H_fill_15 (by decide) (fun _ => ?_) (fun hn => absurd h7 hn)
          refine lv_aload hx hb d_H_fill_28 (lv_at hl 0 rfl) ?_
          refine lv_iload_n hx hb d_H_fill_30 rfl (lv_at hl 3 rfl) ?_
          obtain ⟨e8, c9, hF⟩ := ob_ex hF
          refine ga_xSv (As := [.ref r5, .int p2]) C hw (c_H_needRoomFor l D T z L hl9 c9) gs_H_33 rfl hl.1 ⟨Nat.le_of_ble_eq_true rfl, Nat.le_of_ble_eq_true rfl, Nat.le_of_ble_eq_true rfl, Nat.le_of_ble_eq_true rfl⟩ (Nat.le_of_ble_eq_true rfl) rfl d_H_fill_31 (fun hne ce q9 H locs hw hce hcv hcl => ?_) (fun h0 H locs hw => ?_)
          · rw [if_neg hne] at hF
            exact hthr _ _ _ _ _ _ _ _ _ _ _ (Option.some.inj hF) hne (Nat.le_of_ble_eq_true rfl) (Nat.le_of_ble_eq_true rfl) hw hce hcv hcl
          · rw [if_pos h0] at hF
            refine lv_iconst (v := 0) hx hb d_H_fill_34 (by decide) ?_
            refine lv_istore hx hb d_H_fill_35 hl (by decide) rfl (fun ls hl => ?_)
            have hl : lv_has ls 8 [(7, .int (0 : Int32)), (6, .ref r5), (0, .ref p0), (1, .int p1), (2, .int p2), (3, .int p3), (4, .int p4), (5, .int p5)] := hl
            refine W.widen (k := 3) (n := 18) (Nat.le_of_ble_eq_true rfl) (Nat.le_of_ble_eq_true rfl) ?_
            exact m_H_fill_b37 hl9 hret hthr hnew C gFuel _ _ _ _ _ _ _ hF _ _ _ (lv_sub hl [4, 5, 6, 7, 1, 0] rfl) hw
        · rw [if_neg h7] at hF
          refine lv_icmp_le (tgt := 28) hx hb d_H_fill_15 (by decide) (fun hp => absurd hp h7) (fun _ => ?_)
          refine W.widen (k := 3) (n := 18) (Nat.le_of_ble_eq_true rfl) (Nat.le_of_ble_eq_true rfl) ?_
          exact m_H_fill_b18 hl9 hret hthr hnew C _ hF _ _ _ (lv_sub hl [] rfl) hw
  refine key _ (fun pc cells slots ls H locs x I1 he hd hc hs hw => ?_) (fun pc ey cells slots ls rest H locs ce q9 I1 he hne hc hs hw hce hcv hcl => ?_) (fun pc ey cells slots ls rest H locs I1 he ht hsz hre hc hs hw => ?_)
  · cases he
    exact W.widen hc hs (vx_ret (W.iret hx hb hr (fun t ht _ => ⟨⟨_, (), rfl, ⟨rfl, rfl⟩, ga_o hw ht⟩, hw.2.2.2.1.F ht⟩) hw.2.2.2.1.2.2 hd))
  · cases he
    exact vx_out (fun x hx => (hno x hx).elim) hlocks hce hcv hcl (fun t ht _ => ⟨(), hne, ⟨rfl, ga_o hw ht⟩, hw.2.2.2.1.F ht⟩) hw.2.2.2.1.2.2 hc hs
  · cases he
    exact ga_throw C hl9 hno hlocks hw ht hsz hre (Nat.le_of_ble_eq_true rfl) (Nat.le_of_ble_eq_true rfl) hc hs
set_option maxHeartbeats 4000000 in
set_option maxRecDepth 100000 in
theorem c_H_size (l : Launch) (D : va_G) (T : Nat → ClassId) (z : Nat) (L : List Nat) {S : gS} {I : gMI} {J : gMJ} {p0 : Nat} {p1 : Int32} {ex : Nat} {r : Int32} (hl9 : l.stackTraces = false) (hF : f_H_size S I J p0 p1 = some (ex, r)) : ga_Xi l y_H_size prog_1_method_4_code 2 (Option.some Jvm.ClassFile.FieldType.int) rm_H_size [.ref p0, .int p1] D T z L S I J ex r I J := by
  refine vx_ofW (cc := prog_1_method_4_code) (maxL := 2) (ret := (Option.some Jvm.ClassFile.FieldType.int)) (by decide) rfl ?_
  intro p e s m args below meth c s₁ B hml hno hv
  obtain ⟨ha, hv⟩ := hv
  have hx := B.exec
  have hb := B.bytes
  have hr := B.returns
  have hts := atoms_spec (ws := .code y_H_size prog_1_method_4_code 2 (Option.some Jvm.ClassFile.FieldType.int) :: ga_ws) B.pre
  have hown : s.vm.findClass "RankHouse" = some m.cls := findClass_of_methodNamed B.named
  have hlocks := B.notSynchronized
  have C : CallFix p m c prog_1_method_4_code 2 s args ga_ws "RankHouse" := ⟨hx, hb, hml, hown, fun w h => hts w (List.mem_cons_of_mem _ h)⟩
  have hw := ga_start hv
  have hl := lv_entry ([.ref p0, .int p1]) (n := 2) (Nat.le_of_ble_eq_true rfl)
  rw [show entryFrame m args 2 = entryFrame m ([.ref p0, .int p1] : List Value).toArray 2 by rw [ha], lg_entry_eq]
  generalize (lg_sl ([.ref p0, .int p1]) ++ List.replicate (2 - (lg_sl ([.ref p0, .int p1])).length) Slot.unset).toArray = ls at hl ⊢
  have hl : lv_has ls 2 [(0, .ref p0), (1, .int p1)] := hl
  have key : ∀ Q : State → Prop, (∀ (pc cells slots : Nat) (ls : Array Slot) (H : Heap) (locs : List Loc) (x : Int32), (0, x) = (ex, r) → decode prog_1_method_4_code pc = .ok (.ireturn, 1) → cells ≤ rm_H_size.cells → slots ≤ rm_H_size.slots → ga_W D T z L S I J s H locs → W p l e rm_H_size s m args below meth c H locs cells slots Q (F0 m pc ls [.int x])) → (∀ (pc ey cells slots : Nat) (ls : Array Slot) (rest : List Value) (H : Heap) (locs : List Loc) (ce : Cell) (q9 : Addr), (ey, 0) = (ex, r) → ¬ ey = 0 → cells ≤ rm_H_size.cells → slots ≤ rm_H_size.slots → ga_W D T z L S I J s H locs → H[q9]? = some ce → ce.vm = .none → s.vm.findClass (ga_ex ey) = some ce.cls → vx_W p l e rm_H_size s m args below meth c H locs cells slots Q (F0 m pc ls rest) q9) → W p l e rm_H_size s m args below meth c s.heap [] 0 0 Q (F0 m 0 ls []) := by
    intro Q hret hthr
    rw [f_H_size] at hF
    refine lv_aload_n hx hb d_H_size_0 rfl (lv_at hl 0 rfl) ?_
    refine lv_iload_n hx hb d_H_size_1 rfl (lv_at hl 1 rfl) ?_
    obtain ⟨t1, hF⟩ := gd_ex hF
    obtain ⟨e2, q3, c4, hF⟩ := bd2_ex hF
    refine ga_xVq (As := [.int p1]) C hw (c_H_loggerOf l D T z L hl9 c4) gy_H_29 t1 rfl hl.1 ⟨Nat.le_of_ble_eq_true rfl, Nat.le_of_ble_eq_true rfl, Nat.le_of_ble_eq_true rfl, Nat.le_of_ble_eq_true rfl⟩ (Nat.le_of_ble_eq_true rfl) rfl d_H_size_2 (fun hne ce q9 H locs hw hce hcv hcl => ?_) (fun h0 H locs hw => ?_)
    · rw [if_neg hne] at hF
      exact hthr _ _ _ _ _ _ _ _ _ _ (Option.some.inj hF) hne (Nat.le_of_ble_eq_true rfl) (Nat.le_of_ble_eq_true rfl) hw hce hcv hcl
    · rw [if_pos h0] at hF
      obtain ⟨r5, er5, hG⟩ := ob_ex hF
      clear hF
      subst er5
      have hF := hG
      obtain ⟨t6, hF⟩ := gd_ex hF
      obtain ⟨r7, hr7, hF⟩ := ob_ex hF
      refine ga_getR C hw gf_H_37 t6 hr7 d_H_size_5 ?_
      obtain ⟨t8, hF⟩ := gd_ex hF
      refine ga_getI C hw gf_H_47 t8 d_H_size_8 ?_
      exact hret _ _ _ _ _ _ _ (Option.some.inj hF) d_H_size_11 (Nat.le_of_ble_eq_true rfl) (Nat.le_of_ble_eq_true rfl) hw
  refine key _ (fun pc cells slots ls H locs x he hd hc hs hw => ?_) (fun pc ey cells slots ls rest H locs ce q9 he hne hc hs hw hce hcv hcl => ?_)
  · cases he
    exact W.widen hc hs (vx_ret (W.iret hx hb hr (fun t ht _ => ⟨⟨_, (), rfl, ⟨rfl, rfl⟩, ga_o hw ht⟩, hw.2.2.2.1.F ht⟩) hw.2.2.2.1.2.2 hd))
  · cases he
    exact vx_out (fun x hx => (hno x hx).elim) hlocks hce hcv hcl (fun t ht _ => ⟨(), hne, ⟨rfl, ga_o hw ht⟩, hw.2.2.2.1.F ht⟩) hw.2.2.2.1.2.2 hc hs
set_option maxHeartbeats 4000000 in
set_option maxRecDepth 100000 in
theorem m_H_isAskable_b46 {I : gMI} {J : gMJ} {zz : Int32} (hret : ∀ (pc : Nat) (ls : Array Slot) (H : Heap) (locs : List Loc) (x : Int32), (x) = zz → decode prog_1_method_28_code pc = .ok (.ireturn, 1) → (x = 0 ∨ x = 1) → ga_W D T z L S I J s H locs → W p l e rm_H_isAskable s m args below meth c H locs 0 0 Q (F0 m pc ls [.int x])) (C : CallFix p m c prog_1_method_28_code 2 s args ga_ws "RankHouse") : ∀ (s0 : Int32), f_H_isAskable_b46 S I J s0 = some zz → ∀ (ls : Array Slot) (H : Heap) (locs : List Loc), lv_has ls 2 [] → ga_W D T z L S I J s H locs → W p l e rm_H_isAskable s m args below meth c H locs 0 0 Q (F0 m 46 ls [.int s0]) := by
  intro s0 hF ls H locs hl hw
  have hx := C.1
  have hb := C.2.1
  rw [f_H_isAskable_b46] at hF
  obtain ⟨z1, hF⟩ := gd_ex hF
  exact hret _ _ _ _ _ (Option.some.inj hF) d_H_isAskable_46 z1 hw
set_option maxHeartbeats 4000000 in
set_option maxRecDepth 100000 in
theorem m_H_isAskable_b63 {I : gMI} {J : gMJ} {zz : Int32} (hret : ∀ (pc : Nat) (ls : Array Slot) (H : Heap) (locs : List Loc) (x : Int32), (x) = zz → decode prog_1_method_28_code pc = .ok (.ireturn, 1) → (x = 0 ∨ x = 1) → ga_W D T z L S I J s H locs → W p l e rm_H_isAskable s m args below meth c H locs 0 0 Q (F0 m pc ls [.int x])) (C : CallFix p m c prog_1_method_28_code 2 s args ga_ws "RankHouse") : ∀ (s0 : Int32), f_H_isAskable_b63 S I J s0 = some zz → ∀ (ls : Array Slot) (H : Heap) (locs : List Loc), lv_has ls 2 [] → ga_W D T z L S I J s H locs → W p l e rm_H_isAskable s m args below meth c H locs 0 0 Q (F0 m 63 ls [.int s0]) := by
  intro s0 hF ls H locs hl hw
  have hx := C.1
  have hb := C.2.1
  rw [f_H_isAskable_b63] at hF
  obtain ⟨z1, hF⟩ := gd_ex hF
  exact hret _ _ _ _ _ (Option.some.inj hF) d_H_isAskable_63 z1 hw
set_option maxHeartbeats 4000000 in
set_option maxRecDepth 100000 in
theorem m_H_isAskable_b62 {I : gMI} {J : gMJ} {zz : Int32} (hret : ∀ (pc : Nat) (ls : Array Slot) (H : Heap) (locs : List Loc) (x : Int32), (x) = zz → decode prog_1_method_28_code pc = .ok (.ireturn, 1) → (x = 0 ∨ x = 1) → ga_W D T z L S I J s H locs → W p l e rm_H_isAskable s m args below meth c H locs 0 0 Q (F0 m pc ls [.int x])) (C : CallFix p m c prog_1_method_28_code 2 s args ga_ws "RankHouse") : f_H_isAskable_b62 S I J = some zz → ∀ (ls : Array Slot) (H : Heap) (locs : List Loc), lv_has ls 2 [] → ga_W D T z L S I J s H locs → W p l e rm_H_isAskable s m args below meth c H locs 0 0 Q (F0 m 62 ls []) := by
  intro hF ls H locs hl hw
  have hx := C.1
  have hb := C.2.1
  rw [f_H_isAskable_b62] at hF
  refine lv_iconst (v := 0) hx hb d_H_isAskable_62 (by decide) ?_
  exact m_H_isAskable_b63 hret C _ hF _ _ _ hl hw
set_option maxHeartbeats 4000000 in
set_option maxRecDepth 100000 in
theorem m_H_isAskable_b80 {I : gMI} {J : gMJ} {zz : Int32} (hret : ∀ (pc : Nat) (ls : Array Slot) (H : Heap) (locs : List Loc) (x : Int32), (x) = zz → decode prog_1_method_28_code pc = .ok (.ireturn, 1) → (x = 0 ∨ x = 1) → ga_W D T z L S I J s H locs → W p l e rm_H_isAskable s m args below meth c H locs 0 0 Q (F0 m pc ls [.int x])) (C : CallFix p m c prog_1_method_28_code 2 s args ga_ws "RankHouse") : ∀ (s0 : Int32), f_H_isAskable_b80 S I J s0 = some zz → ∀ (ls : Array Slot) (H : Heap) (locs : List Loc), lv_has ls 2 [] → ga_W D T z L S I J s H locs → W p l e rm_H_isAskable s m args below meth c H locs 0 0 Q (F0 m 80 ls [.int s0]) := by
  intro s0 hF ls H locs hl hw
  have hx := C.1
  have hb := C.2.1
  rw [f_H_isAskable_b80] at hF
  obtain ⟨z1, hF⟩ := gd_ex hF
  exact hret _ _ _ _ _ (Option.some.inj hF) d_H_isAskable_80 z1 hw
set_option maxHeartbeats 4000000 in
set_option maxRecDepth 100000 in
theorem m_H_isAskable_b79 {I : gMI} {J : gMJ} {zz : Int32} (hret : ∀ (pc : Nat) (ls : Array Slot) (H : Heap) (locs : List Loc) (x : Int32), (x) = zz → decode prog_1_method_28_code pc = .ok (.ireturn, 1) → (x = 0 ∨ x = 1) → ga_W D T z L S I J s H locs → W p l e rm_H_isAskable s m args below meth c H locs 0 0 Q (F0 m pc ls [.int x])) (C : CallFix p m c prog_1_method_28_code 2 s args ga_ws "RankHouse") : f_H_isAskable_b79 S I J = some zz → ∀ (ls : Array Slot) (H : Heap) (locs : List Loc), lv_has ls 2 [] → ga_W D T z L S I J s H locs → W p l e rm_H_isAskable s m args below meth c H locs 0 0 Q (F0 m 79 ls []) := by
  intro hF ls H locs hl hw
  have hx := C.1
  have hb := C.2.1
  rw [f_H_isAskable_b79] at hF
  refine lv_iconst (v := 0) hx hb d_H_isAskable_79 (by decide) ?_
  exact m_H_isAskable_b80 hret C _ hF _ _ _ hl hw
set_option maxHeartbeats 4000000 in
set_option maxRecDepth 100000 in
theorem m_H_isAskable_b96 {I : gMI} {J : gMJ} {zz : Int32} (hret : ∀ (pc : Nat) (ls : Array Slot) (H : Heap) (locs : List Loc) (x : Int32), (x) = zz → decode prog_1_method_28_code pc = .ok (.ireturn, 1) → (x = 0 ∨ x = 1) → ga_W D T z L S I J s H locs → W p l e rm_H_isAskable s m args below meth c H locs 0 0 Q (F0 m pc ls [.int x])) (C : CallFix p m c prog_1_method_28_code 2 s args ga_ws "RankHouse") : ∀ (s0 : Int32), f_H_isAskable_b96 S I J s0 = some zz → ∀ (ls : Array Slot) (H : Heap) (locs : List Loc), lv_has ls 2 [] → ga_W D T z L S I J s H locs → W p l e rm_H_isAskable s m args below meth c H locs 0 0 Q (F0 m 96 ls [.int s0]) := by
  intro s0 hF ls H locs hl hw
  have hx := C.1
  have hb := C.2.1
  rw [f_H_isAskable_b96] at hF
  obtain ⟨z1, hF⟩ := gd_ex hF
  exact hret _ _ _ _ _ (Option.some.inj hF) d_H_isAskable_96 z1 hw
set_option maxHeartbeats 4000000 in
set_option maxRecDepth 100000 in
theorem m_H_isAskable_b91 {I : gMI} {J : gMJ} {zz : Int32} (hret : ∀ (pc : Nat) (ls : Array Slot) (H : Heap) (locs : List Loc) (x : Int32), (x) = zz → decode prog_1_method_28_code pc = .ok (.ireturn, 1) → (x = 0 ∨ x = 1) → ga_W D T z L S I J s H locs → W p l e rm_H_isAskable s m args below meth c H locs 0 0 Q (F0 m pc ls [.int x])) (C : CallFix p m c prog_1_method_28_code 2 s args ga_ws "RankHouse") : f_H_isAskable_b91 S I J = some zz → ∀ (ls : Array Slot) (H : Heap) (locs : List Loc), lv_has ls 2 [] → ga_W D T z L S I J s H locs → W p l e rm_H_isAskable s m args below meth c H locs 0 0 Q (F0 m 91 ls []) := by
  intro hF ls H locs hl hw
  have hx := C.1
  have hb := C.2.1
  rw [f_H_isAskable_b91] at hF
  refine lv_iconst (v := 1) hx hb d_H_isAskable_91 (by decide) ?_
  refine lv_goto (tgt := 96) hx hb d_H_isAskable_92 (by decide) ?_
  exact m_H_isAskable_b96 hret C _ hF _ _ _ hl hw
set_option maxHeartbeats 4000000 in
set_option maxRecDepth 100000 in
theorem c_H_isAskable (l : Launch) (D : va_G) (T : Nat → ClassId) (z : Nat) (L : List Nat) {S : gS} {I : gMI} {J : gMJ} {p0 : Int32} {p1 : Int32} {r : Int32} (hF : f_H_isAskable S I J p0 p1 = some (r)) : ga_Mi l y_H_isAskable prog_1_method_28_code 2 (Option.some Jvm.ClassFile.FieldType.boolean) rm_H_isAskable [.int p0, .int p1] D T z L S I J r I J := by
  refine Met.ofW (cc := prog_1_method_28_code) (maxL := 2) (ret := (Option.some Jvm.ClassFile.FieldType.boolean)) (by decide) rfl ?_
  intro p e s m args below meth c s₁ B hml hv
  obtain ⟨ha, hv⟩ := hv
  have hx := B.exec
  have hb := B.bytes
  have hr := B.returns
  have hts := atoms_spec (ws := .code y_H_isAskable prog_1_method_28_code 2 (Option.some Jvm.ClassFile.FieldType.boolean) :: ga_ws) B.pre
  have hown : s.vm.findClass "RankHouse" = some m.cls := findClass_of_methodNamed B.named
  have hlocks := B.notSynchronized
  have C : CallFix p m c prog_1_method_28_code 2 s args ga_ws "RankHouse" := ⟨hx, hb, hml, hown, fun w h => hts w (List.mem_cons_of_mem _ h)⟩
  have hw := ga_start hv
  have hl := lv_entry ([.int p0, .int p1]) (n := 2) (Nat.le_of_ble_eq_true rfl)
  rw [show entryFrame m args 2 = entryFrame m ([.int p0, .int p1] : List Value).toArray 2 by rw [ha], lg_entry_eq]
  generalize (lg_sl ([.int p0, .int p1]) ++ List.replicate (2 - (lg_sl ([.int p0, .int p1])).length) Slot.unset).toArray = ls at hl ⊢
  have hl : lv_has ls 2 [(0, .int p0), (1, .int p1)] := hl
  have key : ∀ Q : State → Prop, (∀ (pc : Nat) (ls : Array Slot) (H : Heap) (locs : List Loc) (x : Int32), (x) = (r) → decode prog_1_method_28_code pc = .ok (.ireturn, 1) → (x = 0 ∨ x = 1) → ga_W D T z L S I J s H locs → W p l e rm_H_isAskable s m args below meth c H locs 0 0 Q (F0 m pc ls [.int x])) → W p l e rm_H_isAskable s m args below meth c s.heap [] 0 0 Q (F0 m 0 ls []) := by
    intro Q hret
    rw [f_H_isAskable] at hF
    refine lv_iload_n hx hb d_H_isAskable_0 rfl (lv_at hl 0 rfl) ?_
    by_cases h1 : p0 = (0 : Int32)
    · rw [if_pos h1] at hF
      refine lv_tableIn (tgt := 36) hx hb d_H_isAskable_1 (by rw [h1]; decide) (by rw [h1]; decide) (by rw [h1]; rfl) (by decide) ?_
      refine lv_iload_n hx hb d_H_isAskable_36 rfl (lv_at hl 1 rfl) ?_
      refine lv_iconst (v := 1) hx hb d_H_isAskable_37 (by decide) ?_
      by_cases h2 : p1 < (1 : Int32)
      · rw [if_pos h2] at hF
        refine lv_icmp_lt (tgt := 45) hx hb d_H_isAskable_38 (by decide) (fun _ => ?_) (fun hn => absurd h2 hn)
        refine lv_iconst (v := 0) hx hb d_H_isAskable_45 (by decide) ?_
        exact m_H_isAskable_b46 hret C _ hF _ _ _ (lv_sub hl [] rfl) hw
      · rw [if_neg h2] at hF
        refine lv_icmp_lt (tgt := 45) hx hb d_H_isAskable_38 (by decide) (fun hp => absurd hp h2) (fun _ => ?_)
        refine lv_iconst (v := 1) hx hb d_H_isAskable_41 (by decide) ?_
        refine lv_goto (tgt := 46) hx hb d_H_isAskable_42 (by decide) ?_
        exact m_H_isAskable_b46 hret C _ hF _ _ _ (lv_sub hl [] rfl) hw
    · rw [if_neg h1] at hF
      by_cases h3 : p0 = (1 : Int32)
      · rw [if_pos h3] at hF
        refine lv_tableIn (tgt := 81) hx hb d_H_isAskable_1 (by rw [h3]; decide) (by rw [h3]; decide) (by rw [h3]; rfl) (by decide) ?_
        refine lv_iload_n hx hb d_H_isAskable_81 rfl (lv_at hl 0 rfl) ?_
        refine lv_iconst (v := 1) hx hb d_H_isAskable_82 (by decide) ?_
        by_cases h4 : p0 = (1 : Int32)
        · rw [if_pos h4] at hF
          refine lv_icmp_eq (tgt := 91) hx hb d_H_isAskable_83 (by decide) (fun _ => ?_) (fun hn => absurd h4 hn)
          exact m_H_isAskable_b91 hret C hF _ _ _ (lv_sub hl [] rfl) hw
        · rw [if_neg h4] at hF
          refine lv_icmp_eq (tgt := 91) hx hb d_H_isAskable_83 (by decide) (fun hp => absurd hp h4) (fun _ => ?_)
          refine lv_iload_n hx hb d_H_isAskable_86 rfl (lv_at hl 0 rfl) ?_
          refine lv_iconst (v := 3) hx hb d_H_isAskable_87 (by decide) ?_
          by_cases h5 : p0 = (3 : Int32)
          · rw [if_pos h5] at hF
            refine lv_icmp_ne (tgt := 95) hx hb d_H_isAskable_88 (by decide) (fun hn => absurd h5 hn) (fun _ => ?_)
            exact m_H_isAskable_b91 hret C hF _ _ _ (lv_sub hl [] rfl) hw
          · rw [if_neg h5] at hF
            refine lv_icmp_ne (tgt := 95) hx hb d_H_isAskable_88 (by decide) (fun _ => ?_) (fun hp => absurd hp h5)
            refine lv_iconst (v := 0) hx hb d_H_isAskable_95 (by decide) ?_
            exact m_H_isAskable_b96 hret C _ hF _ _ _ (lv_sub hl [] rfl) hw
      · rw [if_neg h3] at hF
        by_cases h6 : p0 = (2 : Int32)
        · rw [if_pos h6] at hF
          refine lv_tableIn (tgt := 47) hx hb d_H_isAskable_1 (by rw [h6]; decide) (by rw [h6]; decide) (by rw [h6]; rfl) (by decide) ?_
          refine lv_iload_n hx hb d_H_isAskable_47 rfl (lv_at hl 1 rfl) ?_
          by_cases h7 : p1 < 0
          · rw [if_pos h7] at hF
            refine lv_if_lt (tgt := 62) hx hb d_H_isAskable_48 (by decide) (fun _ => ?_) (fun hn => absurd h7 hn)
            exact m_H_isAskable_b62 hret C hF _ _ _ (lv_sub hl [] rfl) hw
          · rw [if_neg h7] at hF
            refine lv_if_lt (tgt := 62) hx hb d_H_isAskable_48 (by decide) (fun hp => absurd hp h7) (fun _ => ?_)
            refine lv_iload_n hx hb d_H_isAskable_51 rfl (lv_at hl 1 rfl) ?_
            refine lv_sipush (v := 499) hx hb d_H_isAskable_52 (by decide) ?_
            by_cases h8 : (499 : Int32) < p1
            · rw [if_pos h8] at hF
              refine lv_icmp_gt (tgt := 62) hx hb d_H_isAskable_55 (by decide) (fun _ => ?_) (fun hn => absurd h8 hn)
              exact m_H_isAskable_b62 hret C hF _ _ _ (lv_sub hl [] rfl) hw
            · rw [if_neg h8] at hF
              refine lv_icmp_gt (tgt := 62) hx hb d_H_isAskable_55 (by decide) (fun hp => absurd hp h8) (fun _ => ?_)
              refine lv_iconst (v := 1) hx hb d_H_isAskable_58 (by decide) ?_
              refine lv_goto (tgt := 63) hx hb d_H_isAskable_59 (by decide) ?_
              exact m_H_isAskable_b63 hret C _ hF _ _ _ (lv_sub hl [] rfl) hw
        · rw [if_neg h6] at hF
          by_cases h9 : p0 = (3 : Int32)
          · rw [if_pos h9] at hF
            refine lv_tableIn (tgt := 81) hx hb d_H_isAskable_1 (by rw [h9]; decide) (by rw [h9]; decide) (by rw [h9]; rfl) (by decide) ?_
            refine lv_iload_n hx hb d_H_isAskable_81 rfl (lv_at hl 0 rfl) ?_
            refine lv_iconst (v := 1) hx hb d_H_isAskable_82 (by decide) ?_
            by_cases h10 : p0 = (1 : Int32)
            · rw [if_pos h10] at hF
              refine lv_icmp_eq (tgt := 91) hx hb d_H_isAskable_83 (by decide) (fun _ => ?_) (fun hn => absurd h10 hn)
              exact m_H_isAskable_b91 hret C hF _ _ _ (lv_sub hl [] rfl) hw
            · rw [if_neg h10] at hF
              refine lv_icmp_eq (tgt := 91) hx hb d_H_isAskable_83 (by decide) (fun hp => absurd hp h10) (fun _ => ?_)
              refine lv_iload_n hx hb d_H_isAskable_86 rfl (lv_at hl 0 rfl) ?_
              refine lv_iconst (v := 3) hx hb d_H_isAskable_87 (by decide) ?_
              by_cases h11 : p0 = (3 : Int32)
              · rw [if_pos h11] at hF
                refine lv_icmp_ne (tgt := 95) hx hb d_H_isAskable_88 (by decide) (fun hn => absurd h11 hn) (fun _ => ?_)
                exact m_H_isAskable_b91 hret C hF _ _ _ (lv_sub hl [] rfl) hw
              · rw [if_neg h11] at hF
                refine lv_icmp_ne (tgt := 95) hx hb d_H_isAskable_88 (by decide) (fun _ => ?_) (fun hp => absurd hp h11)
                refine lv_iconst (v := 0) hx hb d_H_isAskable_95 (by decide) ?_
                exact m_H_isAskable_b96 hret C _ hF _ _ _ (lv_sub hl [] rfl) hw
          · rw [if_neg h9] at hF
            by_cases h12 : p0 = (4 : Int32)
            · rw [if_pos h12] at hF
              refine lv_tableIn (tgt := 64) hx hb d_H_isAskable_1 (by rw [h12]; decide) (by rw [h12]; decide) (by rw [h12]; rfl) (by decide) ?_
              refine lv_iload_n hx hb d_H_isAskable_64 rfl (lv_at hl 1 rfl) ?_
              by_cases h13 : p1 < 0
              · rw [if_pos h13] at hF
                refine lv_if_lt (tgt := 79) hx hb d_H_isAskable_65 (by decide) (fun _ => ?_) (fun hn => absurd h13 hn)
                exact m_H_isAskable_b79 hret C hF _ _ _ (lv_sub hl [] rfl) hw
              · rw [if_neg h13] at hF
                refine lv_if_lt (tgt := 79) hx hb d_H_isAskable_65 (by decide) (fun hp => absurd hp h13) (fun _ => ?_)
                refine lv_iload_n hx hb d_H_isAskable_68 rfl (lv_at hl 1 rfl) ?_
                refine lv_sipush (v := 1000) hx hb d_H_isAskable_69 (by decide) ?_
                by_cases h14 : (1000 : Int32) < p1
                · rw [if_pos h14] at hF
                  refine lv_icmp_gt (tgt := 79) hx hb d_H_isAskable_72 (by decide) (fun _ => ?_) (fun hn => absurd h14 hn)
                  exact m_H_isAskable_b79 hret C hF _ _ _ (lv_sub hl [] rfl) hw
                · rw [if_neg h14] at hF
                  refine lv_icmp_gt (tgt := 79) hx hb d_H_isAskable_72 (by decide) (fun hp => absurd hp h14) (fun _ => ?_)
                  refine lv_iconst (v := 1) hx hb d_H_isAskable_75 (by decide) ?_
                  refine lv_goto (tgt := 80) hx hb d_H_isAskable_76 (by decide) ?_
                  exact m_H_isAskable_b80 hret C _ hF _ _ _ (lv_sub hl [] rfl) hw
            · rw [if_neg h12] at hF
              refine lv_tableOut (tgt := 81) hx hb d_H_isAskable_1 (ga_out0_4 h1 h3 h6 h9 h12) (by decide) ?_
              refine lv_iload_n hx hb d_H_isAskable_81 rfl (lv_at hl 0 rfl) ?_
              refine lv_iconst (v := 1) hx hb d_H_isAskable_82 (by decide) ?_
              by_cases h15 : p0 = (1 : Int32)
              · rw [if_pos h15] at hF
                refine lv_icmp_eq (tgt := 91) hx hb d_H_isAskable_83 (by decide) (fun _ => ?_) (fun hn => absurd h15 hn)
                exact m_H_isAskable_b91 hret C hF _ _ _ (lv_sub hl [] rfl) hw
              · rw [if_neg h15] at hF
                refine lv_icmp_eq (tgt := 91) hx hb d_H_isAskable_83 (by decide) (fun hp => absurd hp h15) (fun _ => ?_)
                refine lv_iload_n hx hb d_H_isAskable_86 rfl (lv_at hl 0 rfl) ?_
                refine lv_iconst (v := 3) hx hb d_H_isAskable_87 (by decide) ?_
                by_cases h16 : p0 = (3 : Int32)
                · rw [if_pos h16] at hF
                  refine lv_icmp_ne (tgt := 95) hx hb d_H_isAskable_88 (by decide) (fun hn => absurd h16 hn) (fun _ => ?_)
                  exact m_H_isAskable_b91 hret C hF _ _ _ (lv_sub hl [] rfl) hw
                · rw [if_neg h16] at hF
                  refine lv_icmp_ne (tgt := 95) hx hb d_H_isAskable_88 (by decide) (fun _ => ?_) (fun hp => absurd hp h16)
                  refine lv_iconst (v := 0) hx hb d_H_isAskable_95 (by decide) ?_
                  exact m_H_isAskable_b96 hret C _ hF _ _ _ (lv_sub hl [] rfl) hw
  refine key _ (fun pc ls H locs x he hd hz hw => ?_)
  · cases he
    exact W.zret hx hb hr (ga_zb hz) (fun t ht _ => ⟨⟨_, (), rfl, rfl, ga_o hw ht⟩, hw.2.2.2.1.F ht⟩) hw.2.2.2.1.2.2 hd
set_option maxHeartbeats 4000000 in
set_option maxRecDepth 100000 in
theorem m_H_askThoseLeft_b37 {zz : Int32 × gMI × gMJ} (hret : ∀ (pc : Nat) (ls : Array Slot) (H : Heap) (locs : List Loc) (x : Int32) (I1 : gMI) (J1 : gMJ), (x, I1, J1) = zz → decode prog_1_method_34_code pc = .ok (.ireturn, 1) → ga_W D T z L S I1 J1 s H locs → W p l e rm_H_askThoseLeft s m args below meth c H locs 0 0 Q (F0 m pc ls [.int x])) (C : CallFix p m c prog_1_method_34_code 4 s args ga_ws "RankHouse") (k4 : gMI → gMJ → Nat → Nat → Int32 → Int32 → Option (Int32 × gMI × gMJ)) (hk4 : ∀ (I : gMI) (J : gMJ) (l0 : Nat) (l1 : Nat) (l2 : Int32) (l3 : Int32), k4 I J l0 l1 l2 l3 = some zz → ∀ (ls : Array Slot) (H : Heap) (locs : List Loc), lv_has ls 4 [(0, .ref l0), (1, .ref l1), (2, .int l2), (3, .int l3)] → ga_W D T z L S I J s H locs → W p l e rm_H_askThoseLeft s m args below meth c H locs 0 0 Q (F0 m 4 ls [])) : ∀ (I : gMI) (J : gMJ) (l0 : Nat) (l1 : Nat) (l2 : Int32) (l3 : Int32), f_H_askThoseLeft_b37 S k4 I J l0 l1 l2 l3 = some zz → ∀ (ls : Array Slot) (H : Heap) (locs : List Loc), lv_has ls 4 [(0, .ref l0), (1, .ref l1), (2, .int l2), (3, .int l3)] → ga_W D T z L S I J s H locs → W p l e rm_H_askThoseLeft s m args below meth c H locs 0 0 Q (F0 m 37 ls []) := by
  intro I J l0 l1 l2 l3 hF ls H locs hl hw
  have hx := C.1
  have hb := C.2.1
  rw [f_H_askThoseLeft_b37] at hF
  obtain ⟨v1, ev1, hF⟩ := bnd_ex hF
  refine lv_iinc (k := 3) (v := v1) hx hb d_H_askThoseLeft_37 hl rfl (by rw [ev1]; rfl) (by decide) rfl (fun ls hl => ?_)
  have hl : lv_has ls 4 [(3, .int v1), (0, .ref l0), (1, .ref l1), (2, .int l2)] := hl
  refine lv_goto (tgt := 4) hx hb d_H_askThoseLeft_40 (by decide) ?_
  exact hk4 _ _ _ _ _ _ hF _ _ _ (lv_sub hl [1, 2, 3, 0] rfl) hw
set_option maxHeartbeats 4000000 in
set_option maxRecDepth 100000 in
theorem m_H_askThoseLeft_b4 {zz : Int32 × gMI × gMJ} (hret : ∀ (pc : Nat) (ls : Array Slot) (H : Heap) (locs : List Loc) (x : Int32) (I1 : gMI) (J1 : gMJ), (x, I1, J1) = zz → decode prog_1_method_34_code pc = .ok (.ireturn, 1) → ga_W D T z L S I1 J1 s H locs → W p l e rm_H_askThoseLeft s m args below meth c H locs 0 0 Q (F0 m pc ls [.int x])) (C : CallFix p m c prog_1_method_34_code 4 s args ga_ws "RankHouse") : ∀ (n : Nat) (I : gMI) (J : gMJ) (l0 : Nat) (l1 : Nat) (l2 : Int32) (l3 : Int32), f_H_askThoseLeft_b4 S n I J l0 l1 l2 l3 = some zz → ∀ (ls : Array Slot) (H : Heap) (locs : List Loc), lv_has ls 4 [(0, .ref l0), (1, .ref l1), (2, .int l2), (3, .int l3)] → ga_W D T z L S I J s H locs → W p l e rm_H_askThoseLeft s m args below meth c H locs 0 0 Q (F0 m 4 ls []) := by
  intro n
  induction n with
  | zero =>
    intro I J l0 l1 l2 l3 hF ls H locs hl hw
    rw [f_H_askThoseLeft_b4] at hF
    cases hF
  | succ n ih =>
    intro I J l0 l1 l2 l3 hF ls H locs hl hw
    have hx := C.1
    have hb := C.2.1
    rw [f_H_askThoseLeft_b4] at hF
    refine lv_iload_n hx hb d_H_askThoseLeft_4 rfl (lv_at hl 3 rfl) ?_
    refine lv_bipush (v := 8) hx hb d_H_askThoseLeft_5 (by decide) ?_
    by_cases h1 : (8 : Int32) ≤ l3
    · rw [if_pos h1] at hF
      refine lv_icmp_ge (tgt := 43) hx hb d_H_askThoseLeft_7 (by decide) (fun _ => ?_) (fun hn => absurd h1 hn)
      refine lv_iload_n hx hb d_H_askThoseLeft_43 rfl (lv_at hl 2 rfl) ?_
      exact hret _ _ _ _ _ _ _ (Option.some.inj hF) d_H_askThoseLeft_44 hw
    · rw [if_neg h1] at hF
      refine lv_icmp_ge (tgt := 43) hx hb d_H_askThoseLeft_7 (by decide) (fun hp => absurd hp h1) (fun _ => ?_)
      refine lv_aload_n hx hb d_H_askThoseLeft_10 rfl (lv_at hl 1 rfl) ?_
      obtain ⟨t2, hF⟩ := gd_ex hF
      obtain ⟨r3, hr3, hF⟩ := ob_ex hF
      refine ga_getR C hw gf_H_192 t2 hr3 d_H_askThoseLeft_11 ?_
      obtain ⟨t4, hF⟩ := gd_ex hF
      obtain ⟨r5, hr5, hF⟩ := ob_ex hF
      refine ga_getR C hw gf_H_240 t4 hr5 d_H_askThoseLeft_14 ?_
      refine lv_iload_n hx hb d_H_askThoseLeft_17 rfl (lv_at hl 3 rfl) ?_
      obtain ⟨t6, hF⟩ := gd_ex hF
      obtain ⟨b7, hF⟩ := gd_ex hF
      refine ga_zald C hw t6 b7 d_H_askThoseLeft_18 ?_
      by_cases h8 : (I r5 l3.toNatClampNeg) = 0
      · rw [if_pos h8] at hF
        refine lv_if_ne (tgt := 37) hx hb d_H_askThoseLeft_19 (by decide) (fun hn => absurd h8 hn) (fun _ => ?_)
        refine lv_aload_n hx hb d_H_askThoseLeft_22 rfl (lv_at hl 1 rfl) ?_
        refine lv_aload_n hx hb d_H_askThoseLeft_23 rfl (lv_at hl 0 rfl) ?_
        obtain ⟨t9, hF⟩ := gd_ex hF
        obtain ⟨r10, hr10, hF⟩ := ob_ex hF
        refine ga_getR C hw gf_H_25 t9 hr10 d_H_askThoseLeft_24 ?_
        obtain ⟨t11, hF⟩ := gd_ex hF
        obtain ⟨q12, I13, c14, hF⟩ := bd2_ex hF
        refine ga_cVq (As := []) C hw (c_Post_send l D T z L c14) gy_H_112 t11 rfl hl.1 ⟨Nat.le_of_ble_eq_true rfl, Nat.le_of_ble_eq_true rfl, rfl, rfl, Nat.le_of_ble_eq_true rfl, Nat.le_of_ble_eq_true rfl⟩ (Nat.le_of_ble_eq_true rfl) rfl d_H_askThoseLeft_27 (fun H locs hw => ?_)
        rcases gm_ex hF with ⟨h16, hG⟩ | ⟨r15, h16, hG⟩
        · clear hF
          subst h16
          have hF := hG
          show W _ _ _ _ _ _ _ _ _ _ _ _ _ _ _ (F0 _ _ _ (.null :: _))
          refine lv_iload_n hx hb d_H_askThoseLeft_30 rfl (lv_at hl 3 rfl) ?_
          obtain ⟨I17, J18, c19, hF⟩ := bd2_ex hF
          refine ga_cVv (As := [.null, .int l3]) C hw (c_Question_writeAsking l D T z L c19) gy_H_244 t2 rfl hl.1 ⟨Nat.le_of_ble_eq_true rfl, Nat.le_of_ble_eq_true rfl, rfl, rfl, Nat.le_of_ble_eq_true rfl, Nat.le_of_ble_eq_true rfl⟩ (Nat.le_of_ble_eq_true rfl) rfl d_H_askThoseLeft_31 (fun H locs hw => ?_)
          obtain ⟨v20, ev20, hF⟩ := bnd_ex hF
          refine lv_iinc (k := 2) (v := v20) hx hb d_H_askThoseLeft_34 hl rfl (by rw [ev20]; rfl) (by decide) rfl (fun ls hl => ?_)
          have hl : lv_has ls 4 [(2, .int v20), (0, .ref l0), (1, .ref l1), (3, .int l3)] := hl
          exact m_H_askThoseLeft_b37 hret C _ ih _ _ _ _ _ _ hF _ _ _ (lv_sub hl [1, 2, 0, 3] rfl) hw
        · clear hF
          subst h16
          have hF := hG
          show W _ _ _ _ _ _ _ _ _ _ _ _ _ _ _ (F0 _ _ _ (.ref _ :: _))
          refine lv_iload_n hx hb d_H_askThoseLeft_30 rfl (lv_at hl 3 rfl) ?_
          obtain ⟨I21, J22, c23, hF⟩ := bd2_ex hF
          refine ga_cVv (As := [.ref r15, .int l3]) C hw (c_Question_writeAsking l D T z L c23) gy_H_244 t2 rfl hl.1 ⟨Nat.le_of_ble_eq_true rfl, Nat.le_of_ble_eq_true rfl, rfl, rfl, Nat.le_of_ble_eq_true rfl, Nat.le_of_ble_eq_true rfl⟩ (Nat.le_of_ble_eq_true rfl) rfl d_H_askThoseLeft_31 (fun H locs hw => ?_)
          obtain ⟨v24, ev24, hF⟩ := bnd_ex hF
          refine lv_iinc (k := 2) (v := v24) hx hb d_H_askThoseLeft_34 hl rfl (by rw [ev24]; rfl) (by decide) rfl (fun ls hl => ?_)
          have hl : lv_has ls 4 [(2, .int v24), (0, .ref l0), (1, .ref l1), (3, .int l3)] := hl
          exact m_H_askThoseLeft_b37 hret C _ ih _ _ _ _ _ _ hF _ _ _ (lv_sub hl [1, 2, 0, 3] rfl) hw
      · rw [if_neg h8] at hF
        refine lv_if_ne (tgt := 37) hx hb d_H_askThoseLeft_19 (by decide) (fun _ => ?_) (fun hp => absurd hp h8)
        exact m_H_askThoseLeft_b37 hret C _ ih _ _ _ _ _ _ hF _ _ _ hl hw
set_option maxHeartbeats 4000000 in
set_option maxRecDepth 100000 in
theorem c_H_askThoseLeft (l : Launch) (D : va_G) (T : Nat → ClassId) (z : Nat) (L : List Nat) {S : gS} {I : gMI} {J : gMJ} {p0 : Nat} {p1 : Nat} {r : Int32} {RI : gMI} {RJ : gMJ} (hF : f_H_askThoseLeft S I J p0 p1 = some (r, RI, RJ)) : ga_Mi l y_H_askThoseLeft prog_1_method_34_code 4 (Option.some Jvm.ClassFile.FieldType.int) rm_H_askThoseLeft [.ref p0, .ref p1] D T z L S I J r RI RJ := by
  refine Met.ofW (cc := prog_1_method_34_code) (maxL := 4) (ret := (Option.some Jvm.ClassFile.FieldType.int)) (by decide) rfl ?_
  intro p e s m args below meth c s₁ B hml hv
  obtain ⟨ha, hv⟩ := hv
  have hx := B.exec
  have hb := B.bytes
  have hr := B.returns
  have hts := atoms_spec (ws := .code y_H_askThoseLeft prog_1_method_34_code 4 (Option.some Jvm.ClassFile.FieldType.int) :: ga_ws) B.pre
  have hown : s.vm.findClass "RankHouse" = some m.cls := findClass_of_methodNamed B.named
  have hlocks := B.notSynchronized
  have C : CallFix p m c prog_1_method_34_code 4 s args ga_ws "RankHouse" := ⟨hx, hb, hml, hown, fun w h => hts w (List.mem_cons_of_mem _ h)⟩
  have hw := ga_start hv
  have hl := lv_entry ([.ref p0, .ref p1]) (n := 4) (Nat.le_of_ble_eq_true rfl)
  rw [show entryFrame m args 4 = entryFrame m ([.ref p0, .ref p1] : List Value).toArray 4 by rw [ha], lg_entry_eq]
  generalize (lg_sl ([.ref p0, .ref p1]) ++ List.replicate (4 - (lg_sl ([.ref p0, .ref p1])).length) Slot.unset).toArray = ls at hl ⊢
  have hl : lv_has ls 4 [(0, .ref p0), (1, .ref p1)] := hl
  have key : ∀ Q : State → Prop, (∀ (pc : Nat) (ls : Array Slot) (H : Heap) (locs : List Loc) (x : Int32) (I1 : gMI) (J1 : gMJ), (x, I1, J1) = (r, RI, RJ) → decode prog_1_method_34_code pc = .ok (.ireturn, 1) → ga_W D T z L S I1 J1 s H locs → W p l e rm_H_askThoseLeft s m args below meth c H locs 0 0 Q (F0 m pc ls [.int x])) → W p l e rm_H_askThoseLeft s m args below meth c s.heap [] 0 0 Q (F0 m 0 ls []) := by
    intro Q hret
    rw [f_H_askThoseLeft] at hF
    refine lv_iconst (v := 0) hx hb d_H_askThoseLeft_0 (by decide) ?_
    refine lv_istore_n hx hb d_H_askThoseLeft_1 rfl hl (by decide) rfl (fun ls hl => ?_)
    have hl : lv_has ls 4 [(2, .int (0 : Int32)), (0, .ref p0), (1, .ref p1)] := hl
    refine lv_iconst (v := 0) hx hb d_H_askThoseLeft_2 (by decide) ?_
    refine lv_istore_n hx hb d_H_askThoseLeft_3 rfl hl (by decide) rfl (fun ls hl => ?_)
    have hl : lv_has ls 4 [(3, .int (0 : Int32)), (2, .int (0 : Int32)), (0, .ref p0), (1, .ref p1)] := hl
    exact m_H_askThoseLeft_b4 hret C gFuel _ _ _ _ _ _ hF _ _ _ (lv_sub hl [2, 3, 1, 0] rfl) hw
  refine key _ (fun pc ls H locs x I1 J1 he hd hw => ?_)
  · cases he
    exact W.iret hx hb hr (fun t ht _ => ⟨⟨_, (), rfl, rfl, ga_o hw ht⟩, hw.2.2.2.1.F ht⟩) hw.2.2.2.1.2.2 hd
set_option maxHeartbeats 4000000 in
set_option maxRecDepth 100000 in
theorem c_H_askAll (l : Launch) (D : va_G) (T : Nat → ClassId) (z : Nat) (L : List Nat) {S : gS} {I : gMI} {J : gMJ} {p0 : Nat} {p1 : Nat} {RI : gMI} {RJ : gMJ} (hF : f_H_askAll S I J p0 p1 = some (RI, RJ)) : ga_Mv l y_H_askAll prog_1_method_33_code 2 (Option.none : Option Jvm.ClassFile.FieldType) rm_H_askAll [.ref p0, .ref p1] D T z L S I J RI RJ := by
  refine Met.ofW (cc := prog_1_method_33_code) (maxL := 2) (ret := (Option.none : Option Jvm.ClassFile.FieldType)) (by decide) rfl ?_
  intro p e s m args below meth c s₁ B hml hv
  obtain ⟨ha, hv⟩ := hv
  have hx := B.exec
  have hb := B.bytes
  have hr := B.returns
  have hts := atoms_spec (ws := .code y_H_askAll prog_1_method_33_code 2 (Option.none : Option Jvm.ClassFile.FieldType) :: ga_ws) B.pre
  have hown : s.vm.findClass "RankHouse" = some m.cls := findClass_of_methodNamed B.named
  have hlocks := B.notSynchronized
  have C : CallFix p m c prog_1_method_33_code 2 s args ga_ws "RankHouse" := ⟨hx, hb, hml, hown, fun w h => hts w (List.mem_cons_of_mem _ h)⟩
  have hw := ga_start hv
  have hl := lv_entry ([.ref p0, .ref p1]) (n := 2) (Nat.le_of_ble_eq_true rfl)
  rw [show entryFrame m args 2 = entryFrame m ([.ref p0, .ref p1] : List Value).toArray 2 by rw [ha], lg_entry_eq]
  generalize (lg_sl ([.ref p0, .ref p1]) ++ List.replicate (2 - (lg_sl ([.ref p0, .ref p1])).length) Slot.unset).toArray = ls at hl ⊢
  have hl : lv_has ls 2 [(0, .ref p0), (1, .ref p1)] := hl
  have key : ∀ Q : State → Prop, (∀ (pc : Nat) (ls : Array Slot) (H : Heap) (locs : List Loc) (I1 : gMI) (J1 : gMJ), (I1, J1) = (RI, RJ) → decode prog_1_method_33_code pc = .ok (.return_, 1) → ga_W D T z L S I1 J1 s H locs → W p l e rm_H_askAll s m args below meth c H locs 0 0 Q (F0 m pc ls [])) → W p l e rm_H_askAll s m args below meth c s.heap [] 0 0 Q (F0 m 0 ls []) := by
    intro Q hret
    rw [f_H_askAll] at hF
    refine lv_aload_n hx hb d_H_askAll_0 rfl (lv_at hl 1 rfl) ?_
    obtain ⟨t1, hF⟩ := gd_ex hF
    obtain ⟨I2, J3, c4, hF⟩ := bd2_ex hF
    refine ga_cVv (As := []) C hw (c_Question_beginStep l D T z L c4) gy_H_237 t1 rfl hl.1 ⟨Nat.le_of_ble_eq_true rfl, Nat.le_of_ble_eq_true rfl, rfl, rfl, Nat.le_of_ble_eq_true rfl, Nat.le_of_ble_eq_true rfl⟩ (Nat.le_of_ble_eq_true rfl) rfl d_H_askAll_1 (fun H locs hw => ?_)
    refine lv_aload_n hx hb d_H_askAll_4 rfl (lv_at hl 0 rfl) ?_
    refine lv_aload_n hx hb d_H_askAll_5 rfl (lv_at hl 1 rfl) ?_
    obtain ⟨t5, hF⟩ := gd_ex hF
    obtain ⟨x6, I7, J8, c9, hF⟩ := bd3_ex hF
    refine ga_cVi (As := [.ref p1]) C hw (c_H_askThoseLeft l D T z L c9) gy_H_133 t5 rfl hl.1 ⟨Nat.le_of_ble_eq_true rfl, Nat.le_of_ble_eq_true rfl, rfl, rfl, Nat.le_of_ble_eq_true rfl, Nat.le_of_ble_eq_true rfl⟩ (Nat.le_of_ble_eq_true rfl) rfl d_H_askAll_6 (fun H locs hw => ?_)
    refine lv_pop hx hb d_H_askAll_9 rfl ?_
    exact hret _ _ _ _ _ _ (Option.some.inj hF) d_H_askAll_10 hw
  refine key _ (fun pc ls H locs I1 J1 he hd hw => ?_)
  · cases he
    exact W.vret hx hb hr (fun t ht _ => ⟨⟨(), rfl, trivial, ga_o hw ht⟩, hw.2.2.2.1.F ht⟩) hw.2.2.2.1.2.2 hd
set_option maxHeartbeats 4000000 in
set_option maxRecDepth 100000 in
theorem c_H_letters (l : Launch) (D : va_G) (T : Nat → ClassId) (z : Nat) (L : List Nat) {S : gS} {I : gMI} {J : gMJ} {p0 : Nat} {r : Int32} (hF : f_H_letters S I J p0 = some (r)) : ga_Mi l y_H_letters prog_1_method_6_code 1 (Option.some Jvm.ClassFile.FieldType.int) rm_H_letters [.ref p0] D T z L S I J r I J := by
  refine Met.ofW (cc := prog_1_method_6_code) (maxL := 1) (ret := (Option.some Jvm.ClassFile.FieldType.int)) (by decide) rfl ?_
  intro p e s m args below meth c s₁ B hml hv
  obtain ⟨ha, hv⟩ := hv
  have hx := B.exec
  have hb := B.bytes
  have hr := B.returns
  have hts := atoms_spec (ws := .code y_H_letters prog_1_method_6_code 1 (Option.some Jvm.ClassFile.FieldType.int) :: ga_ws) B.pre
  have hown : s.vm.findClass "RankHouse" = some m.cls := findClass_of_methodNamed B.named
  have hlocks := B.notSynchronized
  have C : CallFix p m c prog_1_method_6_code 1 s args ga_ws "RankHouse" := ⟨hx, hb, hml, hown, fun w h => hts w (List.mem_cons_of_mem _ h)⟩
  have hw := ga_start hv
  have hl := lv_entry ([.ref p0]) (n := 1) (Nat.le_of_ble_eq_true rfl)
  rw [show entryFrame m args 1 = entryFrame m ([.ref p0] : List Value).toArray 1 by rw [ha], lg_entry_eq]
  generalize (lg_sl ([.ref p0]) ++ List.replicate (1 - (lg_sl ([.ref p0])).length) Slot.unset).toArray = ls at hl ⊢
  have hl : lv_has ls 1 [(0, .ref p0)] := hl
  have key : ∀ Q : State → Prop, (∀ (pc : Nat) (ls : Array Slot) (H : Heap) (locs : List Loc) (x : Int32), (x) = (r) → decode prog_1_method_6_code pc = .ok (.ireturn, 1) → ga_W D T z L S I J s H locs → W p l e rm_H_letters s m args below meth c H locs 0 0 Q (F0 m pc ls [.int x])) → W p l e rm_H_letters s m args below meth c s.heap [] 0 0 Q (F0 m 0 ls []) := by
    intro Q hret
    rw [f_H_letters] at hF
    refine lv_aload_n hx hb d_H_letters_0 rfl (lv_at hl 0 rfl) ?_
    obtain ⟨t1, hF⟩ := gd_ex hF
    obtain ⟨r2, hr2, hF⟩ := ob_ex hF
    refine ga_getR C hw gf_H_25 t1 hr2 d_H_letters_1 ?_
    obtain ⟨t3, hF⟩ := gd_ex hF
    refine ga_getI C hw gf_H_87 t3 d_H_letters_4 ?_
    exact hret _ _ _ _ _ (Option.some.inj hF) d_H_letters_7 hw
  refine key _ (fun pc ls H locs x he hd hw => ?_)
  · cases he
    exact W.iret hx hb hr (fun t ht _ => ⟨⟨_, (), rfl, rfl, ga_o hw ht⟩, hw.2.2.2.1.F ht⟩) hw.2.2.2.1.2.2 hd
set_option maxHeartbeats 4000000 in
set_option maxRecDepth 100000 in
theorem m_H_needLetter_b15 {I : gMI} {J : gMJ} {zz : Nat} (hl9 : l.stackTraces = false) (hret : ∀ (pc cells slots : Nat) (ls : Array Slot) (H : Heap) (locs : List Loc), (0) = zz → decode prog_1_method_26_code pc = .ok (.return_, 1) → cells ≤ rm_H_needLetter.cells → slots ≤ rm_H_needLetter.slots → ga_W D T z L S I J s H locs → W p l e rm_H_needLetter s m args below meth c H locs cells slots Q (F0 m pc ls [])) (hnew : ∀ (pc ey cells slots : Nat) (ls : Array Slot) (rest : List Value) (H : Heap) (locs : List Loc), (ey) = zz → ga_TH "RankHouse" prog_1_method_26_code pc ey → ls.size = 2 → (rest.map fun v => v.category).sum ≤ 8 → cells + 1 ≤ rm_H_needLetter.cells → slots + 6 ≤ rm_H_needLetter.slots → ga_W D T z L S I J s H locs → W p l e rm_H_needLetter s m args below meth c H locs cells slots Q (F0 m pc ls rest)) (C : CallFix p m c prog_1_method_26_code 2 s args ga_ws "RankHouse") : f_H_needLetter_b15 S I J = some zz → ∀ (ls : Array Slot) (H : Heap) (locs : List Loc), lv_has ls 2 [] → ga_W D T z L S I J s H locs → W p l e rm_H_needLetter s m args below meth c H locs 0 0 Q (F0 m 15 ls []) := by
  intro hF ls H locs hl hw
  have hx := C.1
  have hb := C.2.1
  rw [f_H_needLetter_b15] at hF
  exact hnew _ _ _ _ _ _ _ _ (Option.some.inj hF) gt_H_needLetter_15 hl.1 (Nat.le_of_ble_eq_true rfl) (Nat.le_of_ble_eq_true rfl) (Nat.le_of_ble_eq_true rfl) hw
set_option maxHeartbeats 4000000 in
set_option maxRecDepth 100000 in
theorem c_H_needLetter (l : Launch) (D : va_G) (T : Nat → ClassId) (z : Nat) (L : List Nat) {S : gS} {I : gMI} {J : gMJ} {p0 : Nat} {p1 : Int32} {ex : Nat} (hl9 : l.stackTraces = false) (hF : f_H_needLetter S I J p0 p1 = some (ex)) : ga_Xv l y_H_needLetter prog_1_method_26_code 2 (Option.none : Option Jvm.ClassFile.FieldType) rm_H_needLetter [.ref p0, .int p1] D T z L S I J ex I J := by
  refine vx_ofW (cc := prog_1_method_26_code) (maxL := 2) (ret := (Option.none : Option Jvm.ClassFile.FieldType)) (by decide) rfl ?_
  intro p e s m args below meth c s₁ B hml hno hv
  obtain ⟨ha, hv⟩ := hv
  have hx := B.exec
  have hb := B.bytes
  have hr := B.returns
  have hts := atoms_spec (ws := .code y_H_needLetter prog_1_method_26_code 2 (Option.none : Option Jvm.ClassFile.FieldType) :: ga_ws) B.pre
  have hown : s.vm.findClass "RankHouse" = some m.cls := findClass_of_methodNamed B.named
  have hlocks := B.notSynchronized
  have C : CallFix p m c prog_1_method_26_code 2 s args ga_ws "RankHouse" := ⟨hx, hb, hml, hown, fun w h => hts w (List.mem_cons_of_mem _ h)⟩
  have hw := ga_start hv
  have hl := lv_entry ([.ref p0, .int p1]) (n := 2) (Nat.le_of_ble_eq_true rfl)
  rw [show entryFrame m args 2 = entryFrame m ([.ref p0, .int p1] : List Value).toArray 2 by rw [ha], lg_entry_eq]
  generalize (lg_sl ([.ref p0, .int p1]) ++ List.replicate (2 - (lg_sl ([.ref p0, .int p1])).length) Slot.unset).toArray = ls at hl ⊢
  have hl : lv_has ls 2 [(0, .ref p0), (1, .int p1)] := hl
  have key : ∀ Q : State → Prop, (∀ (pc cells slots : Nat) (ls : Array Slot) (H : Heap) (locs : List Loc), (0) = (ex) → decode prog_1_method_26_code pc = .ok (.return_, 1) → cells ≤ rm_H_needLetter.cells → slots ≤ rm_H_needLetter.slots → ga_W D T z L S I J s H locs → W p l e rm_H_needLetter s m args below meth c H locs cells slots Q (F0 m pc ls [])) → (∀ (pc ey cells slots : Nat) (ls : Array Slot) (rest : List Value) (H : Heap) (locs : List Loc), (ey) = (ex) → ga_TH "RankHouse" prog_1_method_26_code pc ey → ls.size = 2 → (rest.map fun v => v.category).sum ≤ 8 → cells + 1 ≤ rm_H_needLetter.cells → slots + 6 ≤ rm_H_needLetter.slots → ga_W D T z L S I J s H locs → W p l e rm_H_needLetter s m args below meth c H locs cells slots Q (F0 m pc ls rest)) → W p l e rm_H_needLetter s m args below meth c s.heap [] 0 0 Q (F0 m 0 ls []) := by
    intro Q hret hnew
    rw [f_H_needLetter] at hF
    refine lv_iload_n hx hb d_H_needLetter_0 rfl (lv_at hl 1 rfl) ?_
    by_cases h1 : p1 < 0
    · rw [if_pos h1] at hF
      refine lv_if_lt (tgt := 15) hx hb d_H_needLetter_1 (by decide) (fun _ => ?_) (fun hn => absurd h1 hn)
      refine W.widen (k := 0) (n := 0) (Nat.le_of_ble_eq_true rfl) (Nat.le_of_ble_eq_true rfl) ?_
      exact m_H_needLetter_b15 hl9 hret hnew C hF _ _ _ (lv_sub hl [] rfl) hw
    · rw [if_neg h1] at hF
      refine lv_if_lt (tgt := 15) hx hb d_H_needLetter_1 (by decide) (fun hp => absurd hp h1) (fun _ => ?_)
      refine lv_iload_n hx hb d_H_needLetter_4 rfl (lv_at hl 1 rfl) ?_
      refine lv_aload_n hx hb d_H_needLetter_5 rfl (lv_at hl 0 rfl) ?_
      obtain ⟨t2, hF⟩ := gd_ex hF
      obtain ⟨r3, hr3, hF⟩ := ob_ex hF
      refine ga_getR C hw gf_H_25 t2 hr3 d_H_needLetter_6 ?_
      obtain ⟨t4, hF⟩ := gd_ex hF
      refine ga_getI C hw gf_H_87 t4 d_H_needLetter_9 ?_
      by_cases h5 : p1 < (I r3 2)
      · rw [if_pos h5] at hF
        refine lv_icmp_lt (tgt := 25) hx hb d_H_needLetter_12 (by decide) (fun _ => ?_) (fun hn => absurd h5 hn)
        exact hret _ _ _ _ _ _ (Option.some.inj hF) d_H_needLetter_25 (Nat.le_of_ble_eq_true rfl) (Nat.le_of_ble_eq_true rfl) hw
      · rw [if_neg h5] at hF
        refine lv_icmp_lt (tgt := 25) hx hb d_H_needLetter_12 (by decide) (fun hp => absurd hp h5) (fun _ => ?_)
        refine W.widen (k := 0) (n := 0) (Nat.le_of_ble_eq_true rfl) (Nat.le_of_ble_eq_true rfl) ?_
        exact m_H_needLetter_b15 hl9 hret hnew C hF _ _ _ (lv_sub hl [] rfl) hw
  refine key _ (fun pc cells slots ls H locs he hd hc hs hw => ?_) (fun pc ey cells slots ls rest H locs he ht hsz hre hc hs hw => ?_)
  · cases he
    exact W.widen hc hs (vx_ret (W.vret hx hb hr (fun t ht _ => ⟨⟨(), rfl, rfl, ga_o hw ht⟩, hw.2.2.2.1.F ht⟩) hw.2.2.2.1.2.2 hd))
  · cases he
    exact ga_throw C hl9 hno hlocks hw ht hsz hre (Nat.le_of_ble_eq_true rfl) (Nat.le_of_ble_eq_true rfl) hc hs
set_option maxHeartbeats 4000000 in
set_option maxRecDepth 100000 in
theorem m_H_letter_b15 {I : gMI} {J : gMJ} {zz : Nat × Int32} (hl9 : l.stackTraces = false) (hret : ∀ (pc cells slots : Nat) (ls : Array Slot) (H : Heap) (locs : List Loc) (x : Int32), (0, x) = zz → decode prog_1_method_7_code pc = .ok (.ireturn, 1) → cells ≤ rm_H_letter.cells → slots ≤ rm_H_letter.slots → ga_W D T z L S I J s H locs → W p l e rm_H_letter s m args below meth c H locs cells slots Q (F0 m pc ls [.int x])) (hthr : ∀ (pc ey cells slots : Nat) (ls : Array Slot) (rest : List Value) (H : Heap) (locs : List Loc) (ce : Cell) (q9 : Addr), (ey, 0) = zz → ¬ ey = 0 → cells ≤ rm_H_letter.cells → slots ≤ rm_H_letter.slots → ga_W D T z L S I J s H locs → H[q9]? = some ce → ce.vm = .none → s.vm.findClass (ga_ex ey) = some ce.cls → vx_W p l e rm_H_letter s m args below meth c H locs cells slots Q (F0 m pc ls rest) q9) (hnew : ∀ (pc ey cells slots : Nat) (ls : Array Slot) (rest : List Value) (H : Heap) (locs : List Loc), (ey, 0) = zz → ga_TH "RankHouse" prog_1_method_7_code pc ey → ls.size = 3 → (rest.map fun v => v.category).sum ≤ 8 → cells + 1 ≤ rm_H_letter.cells → slots + 6 ≤ rm_H_letter.slots → ga_W D T z L S I J s H locs → W p l e rm_H_letter s m args below meth c H locs cells slots Q (F0 m pc ls rest)) (C : CallFix p m c prog_1_method_7_code 3 s args ga_ws "RankHouse") : f_H_letter_b15 S I J = some zz → ∀ (ls : Array Slot) (H : Heap) (locs : List Loc), lv_has ls 3 [] → ga_W D T z L S I J s H locs → W p l e rm_H_letter s m args below meth c H locs 1 6 Q (F0 m 15 ls []) := by
  intro hF ls H locs hl hw
  have hx := C.1
  have hb := C.2.1
  rw [f_H_letter_b15] at hF
  exact hnew _ _ _ _ _ _ _ _ (Option.some.inj hF) gt_H_letter_15 hl.1 (Nat.le_of_ble_eq_true rfl) (Nat.le_of_ble_eq_true rfl) (Nat.le_of_ble_eq_true rfl) hw
set_option maxHeartbeats 4000000 in
set_option maxRecDepth 100000 in
theorem c_H_letter (l : Launch) (D : va_G) (T : Nat → ClassId) (z : Nat) (L : List Nat) {S : gS} {I : gMI} {J : gMJ} {p0 : Nat} {p1 : Int32} {p2 : Int32} {ex : Nat} {r : Int32} (hl9 : l.stackTraces = false) (hF : f_H_letter S I J p0 p1 p2 = some (ex, r)) : ga_Xi l y_H_letter prog_1_method_7_code 3 (Option.some Jvm.ClassFile.FieldType.int) rm_H_letter [.ref p0, .int p1, .int p2] D T z L S I J ex r I J := by
  refine vx_ofW (cc := prog_1_method_7_code) (maxL := 3) (ret := (Option.some Jvm.ClassFile.FieldType.int)) (by decide) rfl ?_
  intro p e s m args below meth c s₁ B hml hno hv
  obtain ⟨ha, hv⟩ := hv
  have hx := B.exec
  have hb := B.bytes
  have hr := B.returns
  have hts := atoms_spec (ws := .code y_H_letter prog_1_method_7_code 3 (Option.some Jvm.ClassFile.FieldType.int) :: ga_ws) B.pre
  have hown : s.vm.findClass "RankHouse" = some m.cls := findClass_of_methodNamed B.named
  have hlocks := B.notSynchronized
  have C : CallFix p m c prog_1_method_7_code 3 s args ga_ws "RankHouse" := ⟨hx, hb, hml, hown, fun w h => hts w (List.mem_cons_of_mem _ h)⟩
  have hw := ga_start hv
  have hl := lv_entry ([.ref p0, .int p1, .int p2]) (n := 3) (Nat.le_of_ble_eq_true rfl)
  rw [show entryFrame m args 3 = entryFrame m ([.ref p0, .int p1, .int p2] : List Value).toArray 3 by rw [ha], lg_entry_eq]
  generalize (lg_sl ([.ref p0, .int p1, .int p2]) ++ List.replicate (3 - (lg_sl ([.ref p0, .int p1, .int p2])).length) Slot.unset).toArray = ls at hl ⊢
  have hl : lv_has ls 3 [(0, .ref p0), (1, .int p1), (2, .int p2)] := hl
  have key : ∀ Q : State → Prop, (∀ (pc cells slots : Nat) (ls : Array Slot) (H : Heap) (locs : List Loc) (x : Int32), (0, x) = (ex, r) → decode prog_1_method_7_code pc = .ok (.ireturn, 1) → cells ≤ rm_H_letter.cells → slots ≤ rm_H_letter.slots → ga_W D T z L S I J s H locs → W p l e rm_H_letter s m args below meth c H locs cells slots Q (F0 m pc ls [.int x])) → (∀ (pc ey cells slots : Nat) (ls : Array Slot) (rest : List Value) (H : Heap) (locs : List Loc) (ce : Cell) (q9 : Addr), (ey, 0) = (ex, r) → ¬ ey = 0 → cells ≤ rm_H_letter.cells → slots ≤ rm_H_letter.slots → ga_W D T z L S I J s H locs → H[q9]? = some ce → ce.vm = .none → s.vm.findClass (ga_ex ey) = some ce.cls → vx_W p l e rm_H_letter s m args below meth c H locs cells slots Q (F0 m pc ls rest) q9) → (∀ (pc ey cells slots : Nat) (ls : Array Slot) (rest : List Value) (H : Heap) (locs : List Loc), (ey, 0) = (ex, r) → ga_TH "RankHouse" prog_1_method_7_code pc ey → ls.size = 3 → (rest.map fun v => v.category).sum ≤ 8 → cells + 1 ≤ rm_H_letter.cells → slots + 6 ≤ rm_H_letter.slots → ga_W D T z L S I J s H locs → W p l e rm_H_letter s m args below meth c H locs cells slots Q (F0 m pc ls rest)) → W p l e rm_H_letter s m args below meth c s.heap [] 0 0 Q (F0 m 0 ls []) := by
    intro Q hret hthr hnew
    rw [f_H_letter] at hF
    refine lv_aload_n hx hb d_H_letter_0 rfl (lv_at hl 0 rfl) ?_
    refine lv_iload_n hx hb d_H_letter_1 rfl (lv_at hl 1 rfl) ?_
    obtain ⟨t1, hF⟩ := gd_ex hF
    obtain ⟨e2, c3, hF⟩ := ob_ex hF
    refine ga_xVv (As := [.int p1]) C hw (c_H_needLetter l D T z L hl9 c3) gy_H_90 t1 rfl hl.1 ⟨Nat.le_of_ble_eq_true rfl, Nat.le_of_ble_eq_true rfl, Nat.le_of_ble_eq_true rfl, Nat.le_of_ble_eq_true rfl⟩ (Nat.le_of_ble_eq_true rfl) rfl d_H_letter_2 (fun hne ce q9 H locs hw hce hcv hcl => ?_) (fun h0 H locs hw => ?_)
    · rw [if_neg hne] at hF
      exact hthr _ _ _ _ _ _ _ _ _ _ (Option.some.inj hF) hne (Nat.le_of_ble_eq_true rfl) (Nat.le_of_ble_eq_true rfl) hw hce hcv hcl
    · rw [if_pos h0] at hF
      refine lv_iload_n hx hb d_H_letter_5 rfl (lv_at hl 2 rfl) ?_
      by_cases h4 : p2 < 0
      · rw [if_pos h4] at hF
        refine lv_if_lt (tgt := 15) hx hb d_H_letter_6 (by decide) (fun _ => ?_) (fun hn => absurd h4 hn)
        refine W.widen (k := 1) (n := 6) (Nat.le_of_ble_eq_true rfl) (Nat.le_of_ble_eq_true rfl) ?_
        exact m_H_letter_b15 hl9 hret hthr hnew C hF _ _ _ (lv_sub hl [] rfl) hw
      · rw [if_neg h4] at hF
        refine lv_if_lt (tgt := 15) hx hb d_H_letter_6 (by decide) (fun hp => absurd hp h4) (fun _ => ?_)
        refine lv_iload_n hx hb d_H_letter_9 rfl (lv_at hl 2 rfl) ?_
        refine lv_bipush (v := 70) hx hb d_H_letter_10 (by decide) ?_
        by_cases h5 : p2 ≤ (70 : Int32)
        · rw [if_pos h5] at hF
          refine lv_icmp_le (tgt := 25) hx hb d_H_letter_12 (by decide) (fun _ => ?_) (fun hn => absurd h5 hn)
          refine lv_aload_n hx hb d_H_letter_25 rfl (lv_at hl 0 rfl) ?_
          obtain ⟨r6, hr6, hF⟩ := ob_ex hF
          refine ga_getR C hw gf_H_25 t1 hr6 d_H_letter_26 ?_
          refine lv_iload_n hx hb d_H_letter_29 rfl (lv_at hl 1 rfl) ?_
          obtain ⟨t7, hF⟩ := gd_ex hF
          obtain ⟨q8, c9, hF⟩ := ob_ex hF
          refine ga_cVq (As := [.int p1]) C hw (c_Post_at l D T z L c9) gy_H_95 t7 rfl hl.1 ⟨Nat.le_of_ble_eq_true rfl, Nat.le_of_ble_eq_true rfl, rfl, rfl, Nat.le_of_ble_eq_true rfl, Nat.le_of_ble_eq_true rfl⟩ (Nat.le_of_ble_eq_true rfl) rfl d_H_letter_30 (fun H locs hw => ?_)
          obtain ⟨r10, h11, hG⟩ := ob_ex hF
          clear hF
          subst h11
          have hF := hG
          refine lv_iload_n hx hb d_H_letter_33 rfl (lv_at hl 2 rfl) ?_
          obtain ⟨t12, hF⟩ := gd_ex hF
          obtain ⟨x13, c14, hF⟩ := ob_ex hF
          refine ga_cVi (As := [.int p2]) C hw (c_Letter_tell l D T z L c14) gy_H_99 t12 rfl hl.1 ⟨Nat.le_of_ble_eq_true rfl, Nat.le_of_ble_eq_true rfl, rfl, rfl, Nat.le_of_ble_eq_true rfl, Nat.le_of_ble_eq_true rfl⟩ (Nat.le_of_ble_eq_true rfl) rfl d_H_letter_34 (fun H locs hw => ?_)
          exact hret _ _ _ _ _ _ _ (Option.some.inj hF) d_H_letter_37 (Nat.le_of_ble_eq_true rfl) (Nat.le_of_ble_eq_true rfl) hw
        · rw [if_neg h5] at hF
          refine lv_icmp_le (tgt := 25) hx hb d_H_letter_12 (by decide) (fun hp => absurd hp h5) (fun _ => ?_)
          refine W.widen (k := 1) (n := 6) (Nat.le_of_ble_eq_true rfl) (Nat.le_of_ble_eq_true rfl) ?_
          exact m_H_letter_b15 hl9 hret hthr hnew C hF _ _ _ (lv_sub hl [] rfl) hw
  refine key _ (fun pc cells slots ls H locs x he hd hc hs hw => ?_) (fun pc ey cells slots ls rest H locs ce q9 he hne hc hs hw hce hcv hcl => ?_) (fun pc ey cells slots ls rest H locs he ht hsz hre hc hs hw => ?_)
  · cases he
    exact W.widen hc hs (vx_ret (W.iret hx hb hr (fun t ht _ => ⟨⟨_, (), rfl, ⟨rfl, rfl⟩, ga_o hw ht⟩, hw.2.2.2.1.F ht⟩) hw.2.2.2.1.2.2 hd))
  · cases he
    exact vx_out (fun x hx => (hno x hx).elim) hlocks hce hcv hcl (fun t ht _ => ⟨(), hne, ⟨rfl, ga_o hw ht⟩, hw.2.2.2.1.F ht⟩) hw.2.2.2.1.2.2 hc hs
  · cases he
    exact ga_throw C hl9 hno hlocks hw ht hsz hre (Nat.le_of_ble_eq_true rfl) (Nat.le_of_ble_eq_true rfl) hc hs
set_option maxHeartbeats 4000000 in
set_option maxRecDepth 100000 in
theorem m_H_seek_b36 {I : gMI} {J : gMJ} {zz : Option Nat} (hret : ∀ (pc : Nat) (ls : Array Slot) (H : Heap) (locs : List Loc) (x : Option Nat), (x) = zz → decode prog_1_method_29_code pc = .ok (.areturn, 1) → ga_W D T z L S I J s H locs → W p l e rm_H_seek s m args below meth c H locs 0 0 Q (F0 m pc ls [va_rf x])) (C : CallFix p m c prog_1_method_29_code 4 s args ga_ws "RankHouse") (k2 : Nat → Int32 → Int32 → Option (Option Nat)) (hk2 : ∀ (l0 : Nat) (l1 : Int32) (l2 : Int32), k2 l0 l1 l2 = some zz → ∀ (ls : Array Slot) (H : Heap) (locs : List Loc), lv_has ls 4 [(0, .ref l0), (1, .int l1), (2, .int l2)] → ga_W D T z L S I J s H locs → W p l e rm_H_seek s m args below meth c H locs 0 0 Q (F0 m 2 ls [])) : ∀ (l0 : Nat) (l1 : Int32) (l2 : Int32), f_H_seek_b36 S I J k2 l0 l1 l2 = some zz → ∀ (ls : Array Slot) (H : Heap) (locs : List Loc), lv_has ls 4 [(0, .ref l0), (1, .int l1), (2, .int l2)] → ga_W D T z L S I J s H locs → W p l e rm_H_seek s m args below meth c H locs 0 0 Q (F0 m 36 ls []) := by
  intro l0 l1 l2 hF ls H locs hl hw
  have hx := C.1
  have hb := C.2.1
  rw [f_H_seek_b36] at hF
  obtain ⟨v1, ev1, hF⟩ := bnd_ex hF
  refine lv_iinc (k := 2) (v := v1) hx hb d_H_seek_36 hl rfl (by rw [ev1]; rfl) (by decide) rfl (fun ls hl => ?_)
  have hl : lv_has ls 4 [(2, .int v1), (0, .ref l0), (1, .int l1)] := hl
  refine lv_goto (tgt := 2) hx hb d_H_seek_39 (by decide) ?_
  exact hk2 _ _ _ hF _ _ _ (lv_sub hl [1, 2, 0] rfl) hw
set_option maxHeartbeats 4000000 in
set_option maxRecDepth 100000 in
theorem m_H_seek_b2 {I : gMI} {J : gMJ} {zz : Option Nat} (hret : ∀ (pc : Nat) (ls : Array Slot) (H : Heap) (locs : List Loc) (x : Option Nat), (x) = zz → decode prog_1_method_29_code pc = .ok (.areturn, 1) → ga_W D T z L S I J s H locs → W p l e rm_H_seek s m args below meth c H locs 0 0 Q (F0 m pc ls [va_rf x])) (C : CallFix p m c prog_1_method_29_code 4 s args ga_ws "RankHouse") : ∀ (n : Nat) (l0 : Nat) (l1 : Int32) (l2 : Int32), f_H_seek_b2 S I J n l0 l1 l2 = some zz → ∀ (ls : Array Slot) (H : Heap) (locs : List Loc), lv_has ls 4 [(0, .ref l0), (1, .int l1), (2, .int l2)] → ga_W D T z L S I J s H locs → W p l e rm_H_seek s m args below meth c H locs 0 0 Q (F0 m 2 ls []) := by
  intro n
  induction n with
  | zero =>
    intro l0 l1 l2 hF ls H locs hl hw
    rw [f_H_seek_b2] at hF
    cases hF
  | succ n ih =>
    intro l0 l1 l2 hF ls H locs hl hw
    have hx := C.1
    have hb := C.2.1
    rw [f_H_seek_b2] at hF
    refine lv_iload_n hx hb d_H_seek_2 rfl (lv_at hl 2 rfl) ?_
    refine lv_bipush (v := 8) hx hb d_H_seek_3 (by decide) ?_
    by_cases h1 : (8 : Int32) ≤ l2
    · rw [if_pos h1] at hF
      refine lv_icmp_ge (tgt := 42) hx hb d_H_seek_5 (by decide) (fun _ => ?_) (fun hn => absurd h1 hn)
      refine lv_null hx hb d_H_seek_42 ?_
      exact hret _ _ _ _ _ (Option.some.inj hF) d_H_seek_43 hw
    · rw [if_neg h1] at hF
      refine lv_icmp_ge (tgt := 42) hx hb d_H_seek_5 (by decide) (fun hp => absurd hp h1) (fun _ => ?_)
      refine lv_aload_n hx hb d_H_seek_8 rfl (lv_at hl 0 rfl) ?_
      obtain ⟨t2, hF⟩ := gd_ex hF
      obtain ⟨r3, hr3, hF⟩ := ob_ex hF
      refine ga_getR C hw gf_H_18 t2 hr3 d_H_seek_9 ?_
      refine lv_iload_n hx hb d_H_seek_12 rfl (lv_at hl 2 rfl) ?_
      obtain ⟨t4, hF⟩ := gd_ex hF
      obtain ⟨b5, hF⟩ := gd_ex hF
      rcases gm_ex hF with ⟨h7, hF⟩ | ⟨r6, h7, hF⟩
      · refine ga_rald C hw t4 (by decide) rfl rfl b5 h7 d_H_seek_13 ?_
        refine lv_astore_nN hx hb d_H_seek_14 rfl hl (by decide) rfl (fun ls hl => ?_)
        have hl : lv_has ls 4 [(3, .null), (0, .ref l0), (1, .int l1), (2, .int l2)] := hl
        refine lv_aload_nN hx hb d_H_seek_15 rfl (lv_at hl 0 rfl) ?_
        refine lv_ifnullN (tgt := 36) hx hb d_H_seek_16 (by decide) ?_
        exact m_H_seek_b36 hret C _ ih _ _ _ hF _ _ _ (lv_sub hl [1, 2, 3] rfl) hw
      · refine ga_rald C hw t4 (by decide) rfl rfl b5 h7 d_H_seek_13 ?_
        refine lv_astore_n hx hb d_H_seek_14 rfl hl (by decide) rfl (fun ls hl => ?_)
        have hl : lv_has ls 4 [(3, .ref r6), (0, .ref l0), (1, .int l1), (2, .int l2)] := hl
        refine lv_aload_n hx hb d_H_seek_15 rfl (lv_at hl 0 rfl) ?_
        refine lv_ifnull hx hb d_H_seek_16 ?_
        refine lv_aload_n hx hb d_H_seek_19 rfl (lv_at hl 0 rfl) ?_
        obtain ⟨t8, hF⟩ := gd_ex hF
        obtain ⟨x9, c10, hF⟩ := ob_ex hF
        refine ga_cVi (As := []) C hw (c_Question_isThere l D T z L c10) gy_H_146 t8 rfl hl.1 ⟨Nat.le_of_ble_eq_true rfl, Nat.le_of_ble_eq_true rfl, rfl, rfl, Nat.le_of_ble_eq_true rfl, Nat.le_of_ble_eq_true rfl⟩ (Nat.le_of_ble_eq_true rfl) rfl d_H_seek_20 (fun H locs hw => ?_)
        by_cases h11 : x9 = 0
        · rw [if_pos h11] at hF
          refine lv_if_eq (tgt := 36) hx hb d_H_seek_23 (by decide) (fun _ => ?_) (fun hn => absurd h11 hn)
          exact m_H_seek_b36 hret C _ ih _ _ _ hF _ _ _ (lv_sub hl [1, 2, 3] rfl) hw
        · rw [if_neg h11] at hF
          refine lv_if_eq (tgt := 36) hx hb d_H_seek_23 (by decide) (fun hp => absurd hp h11) (fun _ => ?_)
          refine lv_aload_n hx hb d_H_seek_26 rfl (lv_at hl 0 rfl) ?_
          refine ga_getI C hw gf_H_210 t8 d_H_seek_27 ?_
          refine lv_iload_n hx hb d_H_seek_30 rfl (lv_at hl 2 rfl) ?_
          by_cases h12 : (I r6 6) = l1
          · rw [if_pos h12] at hF
            refine lv_icmp_ne (tgt := 36) hx hb d_H_seek_31 (by decide) (fun hn => absurd h12 hn) (fun _ => ?_)
            refine lv_aload_n hx hb d_H_seek_34 rfl (lv_at hl 0 rfl) ?_
            exact hret _ _ _ _ _ (Option.some.inj hF) d_H_seek_35 hw
          · rw [if_neg h12] at hF
            refine lv_icmp_ne (tgt := 36) hx hb d_H_seek_31 (by decide) (fun _ => ?_) (fun hp => absurd hp h12)
            exact m_H_seek_b36 hret C _ ih _ _ _ hF _ _ _ (lv_sub hl [1, 2, 3] rfl) hw
set_option maxHeartbeats 4000000 in
set_option maxRecDepth 100000 in
theorem c_H_seek (l : Launch) (D : va_G) (T : Nat → ClassId) (z : Nat) (L : List Nat) {S : gS} {I : gMI} {J : gMJ} {p0 : Nat} {p1 : Int32} {r : Option Nat} (hF : f_H_seek S I J p0 p1 = some (r)) : ga_Mq l y_H_seek prog_1_method_29_code 4 (Option.some (Jvm.ClassFile.FieldType.object "RankHouse$Question")) rm_H_seek [.ref p0, .int p1] D T z L S I J r I J := by
  refine Met.ofW (cc := prog_1_method_29_code) (maxL := 4) (ret := (Option.some (Jvm.ClassFile.FieldType.object "RankHouse$Question"))) (by decide) rfl ?_
  intro p e s m args below meth c s₁ B hml hv
  obtain ⟨ha, hv⟩ := hv
  have hx := B.exec
  have hb := B.bytes
  have hr := B.returns
  have hts := atoms_spec (ws := .code y_H_seek prog_1_method_29_code 4 (Option.some (Jvm.ClassFile.FieldType.object "RankHouse$Question")) :: ga_ws) B.pre
  have hown : s.vm.findClass "RankHouse" = some m.cls := findClass_of_methodNamed B.named
  have hlocks := B.notSynchronized
  have C : CallFix p m c prog_1_method_29_code 4 s args ga_ws "RankHouse" := ⟨hx, hb, hml, hown, fun w h => hts w (List.mem_cons_of_mem _ h)⟩
  have hw := ga_start hv
  have hl := lv_entry ([.ref p0, .int p1]) (n := 4) (Nat.le_of_ble_eq_true rfl)
  rw [show entryFrame m args 4 = entryFrame m ([.ref p0, .int p1] : List Value).toArray 4 by rw [ha], lg_entry_eq]
  generalize (lg_sl ([.ref p0, .int p1]) ++ List.replicate (4 - (lg_sl ([.ref p0, .int p1])).length) Slot.unset).toArray = ls at hl ⊢
  have hl : lv_has ls 4 [(0, .ref p0), (1, .int p1)] := hl
  have key : ∀ Q : State → Prop, (∀ (pc : Nat) (ls : Array Slot) (H : Heap) (locs : List Loc) (x : Option Nat), (x) = (r) → decode prog_1_method_29_code pc = .ok (.areturn, 1) → ga_W D T z L S I J s H locs → W p l e rm_H_seek s m args below meth c H locs 0 0 Q (F0 m pc ls [va_rf x])) → W p l e rm_H_seek s m args below meth c s.heap [] 0 0 Q (F0 m 0 ls []) := by
    intro Q hret
    rw [f_H_seek] at hF
    refine lv_iconst (v := 0) hx hb d_H_seek_0 (by decide) ?_
    refine lv_istore_n hx hb d_H_seek_1 rfl hl (by decide) rfl (fun ls hl => ?_)
    have hl : lv_has ls 4 [(2, .int (0 : Int32)), (0, .ref p0), (1, .int p1)] := hl
    exact m_H_seek_b2 hret C gFuel _ _ _ hF _ _ _ (lv_sub hl [1, 2, 0] rfl) hw
  refine key _ (fun pc ls H locs x he hd hw => ?_)
  · cases he
    exact W.aret (v := va_rf _) hx hb hr (Or.inl ⟨_, rfl⟩) (ga_rfq _) (fun t ht _ => ⟨⟨_, (), rfl, rfl, ga_o hw ht⟩, hw.2.2.2.1.F ht⟩) hw.2.2.2.1.2.2 hd
set_option maxHeartbeats 4000000 in
set_option maxRecDepth 100000 in
theorem m_H_reply_b70 {zz : gMI × gMJ} (hret : ∀ (pc : Nat) (ls : Array Slot) (H : Heap) (locs : List Loc) (I1 : gMI) (J1 : gMJ), (I1, J1) = zz → decode prog_1_method_36_code pc = .ok (.return_, 1) → ga_W D T z L S I1 J1 s H locs → W p l e rm_H_reply s m args below meth c H locs 0 0 Q (F0 m pc ls [])) (C : CallFix p m c prog_1_method_36_code 5 s args ga_ws "RankHouse") : ∀ (I : gMI) (J : gMJ), f_H_reply_b70 S I J = some zz → ∀ (ls : Array Slot) (H : Heap) (locs : List Loc), lv_has ls 5 [] → ga_W D T z L S I J s H locs → W p l e rm_H_reply s m args below meth c H locs 0 0 Q (F0 m 70 ls []) := by
  intro I J hF ls H locs hl hw
  have hx := C.1
  have hb := C.2.1
  rw [f_H_reply_b70] at hF
  exact hret _ _ _ _ _ _ (Option.some.inj hF) d_H_reply_70 hw
set_option maxHeartbeats 4000000 in
set_option maxRecDepth 100000 in
theorem m_H_reply_b27 {zz : gMI × gMJ} (hret : ∀ (pc : Nat) (ls : Array Slot) (H : Heap) (locs : List Loc) (I1 : gMI) (J1 : gMJ), (I1, J1) = zz → decode prog_1_method_36_code pc = .ok (.return_, 1) → ga_W D T z L S I1 J1 s H locs → W p l e rm_H_reply s m args below meth c H locs 0 0 Q (F0 m pc ls [])) (C : CallFix p m c prog_1_method_36_code 5 s args ga_ws "RankHouse") : ∀ (I : gMI) (J : gMJ) (l0 : Nat) (l1 : Nat) (l2 : Nat) (l3 : Int32), f_H_reply_b27 S I J l0 l1 l2 l3 = some zz → ∀ (ls : Array Slot) (H : Heap) (locs : List Loc), lv_has ls 5 [(0, .ref l0), (1, .ref l1), (2, .ref l2), (3, .int l3)] → ga_W D T z L S I J s H locs → W p l e rm_H_reply s m args below meth c H locs 0 0 Q (F0 m 27 ls []) := by
  intro I J l0 l1 l2 l3 hF ls H locs hl hw
  have hx := C.1
  have hb := C.2.1
  rw [f_H_reply_b27] at hF
  refine lv_aload_n hx hb d_H_reply_27 rfl (lv_at hl 2 rfl) ?_
  obtain ⟨t1, hF⟩ := gd_ex hF
  obtain ⟨r2, hr2, hF⟩ := ob_ex hF
  refine ga_getR C hw gf_H_206 t1 hr2 d_H_reply_28 ?_
  refine lv_iload_n hx hb d_H_reply_31 rfl (lv_at hl 3 rfl) ?_
  obtain ⟨t3, hF⟩ := gd_ex hF
  obtain ⟨b4, hF⟩ := gd_ex hF
  refine ga_iald C hw t3 b4 d_H_reply_32 ?_
  refine lv_iconst (v := -1) hx hb d_H_reply_33 (by decide) ?_
  by_cases h5 : (I r2 l3.toNatClampNeg) = (-1 : Int32)
  · rw [if_pos h5] at hF
    refine lv_icmp_ne (tgt := 38) hx hb d_H_reply_34 (by decide) (fun hn => absurd h5 hn) (fun _ => ?_)
    exact hret _ _ _ _ _ _ (Option.some.inj hF) d_H_reply_37 hw
  · rw [if_neg h5] at hF
    refine lv_icmp_ne (tgt := 38) hx hb d_H_reply_34 (by decide) (fun _ => ?_) (fun hp => absurd hp h5)
    refine lv_aload_n hx hb d_H_reply_38 rfl (lv_at hl 0 rfl) ?_
    obtain ⟨t6, hF⟩ := gd_ex hF
    obtain ⟨r7, hr7, hF⟩ := ob_ex hF
    refine ga_getR C hw gf_H_25 t6 hr7 d_H_reply_39 ?_
    obtain ⟨t8, hF⟩ := gd_ex hF
    obtain ⟨q9, I10, c11, hF⟩ := bd2_ex hF
    refine ga_cVq (As := []) C hw (c_Post_send l D T z L c11) gy_H_112 t8 rfl hl.1 ⟨Nat.le_of_ble_eq_true rfl, Nat.le_of_ble_eq_true rfl, rfl, rfl, Nat.le_of_ble_eq_true rfl, Nat.le_of_ble_eq_true rfl⟩ (Nat.le_of_ble_eq_true rfl) rfl d_H_reply_42 (fun H locs hw => ?_)
    rcases gm_ex hF with ⟨h13, hG⟩ | ⟨r12, h13, hG⟩
    · clear hF
      subst h13
      have hF := hG
      show W _ _ _ _ _ _ _ _ _ _ _ _ _ _ _ (F0 _ _ _ (.null :: _))
      refine lv_astoreN hx hb d_H_reply_45 hl (by decide) rfl (fun ls hl => ?_)
      have hl : lv_has ls 5 [(4, .null), (0, .ref l0), (1, .ref l1), (2, .ref l2), (3, .int l3)] := hl
      refine lv_aloadN hx hb d_H_reply_47 (lv_at hl 0 rfl) ?_
      refine lv_ifnullN (tgt := 70) hx hb d_H_reply_49 (by decide) ?_
      exact m_H_reply_b70 hret C _ _ hF _ _ _ (lv_sub hl [] rfl) hw
    · clear hF
      subst h13
      have hF := hG
      show W _ _ _ _ _ _ _ _ _ _ _ _ _ _ _ (F0 _ _ _ (.ref _ :: _))
      refine lv_astore hx hb d_H_reply_45 hl (by decide) rfl (fun ls hl => ?_)
      have hl : lv_has ls 5 [(4, .ref r12), (0, .ref l0), (1, .ref l1), (2, .ref l2), (3, .int l3)] := hl
      refine lv_aload hx hb d_H_reply_47 (lv_at hl 0 rfl) ?_
      refine lv_ifnull hx hb d_H_reply_49 ?_
      refine lv_aload hx hb d_H_reply_52 (lv_at hl 0 rfl) ?_
      refine lv_aload_n hx hb d_H_reply_54 rfl (lv_at hl 2 rfl) ?_
      obtain ⟨t14, hF⟩ := gd_ex hF
      obtain ⟨I15, J16, c17, hF⟩ := bd2_ex hF
      refine ga_cVv (As := [.ref l1]) C hw (c_Letter_replyTo l D T z L c17) gy_H_281 t14 rfl hl.1 ⟨Nat.le_of_ble_eq_true rfl, Nat.le_of_ble_eq_true rfl, rfl, rfl, Nat.le_of_ble_eq_true rfl, Nat.le_of_ble_eq_true rfl⟩ (Nat.le_of_ble_eq_true rfl) rfl d_H_reply_55 (fun H locs hw => ?_)
      refine lv_aload hx hb d_H_reply_58 (lv_at hl 0 rfl) ?_
      refine lv_aload_n hx hb d_H_reply_60 rfl (lv_at hl 2 rfl) ?_
      refine lv_aload_n hx hb d_H_reply_61 rfl (lv_at hl 3 rfl) ?_
      obtain ⟨r18, hr18, hF⟩ := ob_ex hF
      refine ga_getR C hw gf_H_284 t1 hr18 d_H_reply_62 ?_
      refine lv_iload_n hx hb d_H_reply_65 rfl (lv_at hl 4 rfl) ?_
      obtain ⟨t19, hF⟩ := gd_ex hF
      obtain ⟨b20, hF⟩ := gd_ex hF
      obtain ⟨r21, hr21, hF⟩ := ob_ex hF
      refine ga_rald C hw t19 (by decide) rfl rfl b20 hr21 d_H_reply_66 ?_
      obtain ⟨I22, J23, c24, hF⟩ := bd2_ex hF
      refine ga_cVv (As := [.ref l1, .ref r21]) C hw (c_Letter_fillIn l D T z L c24) gy_H_288 t14 rfl hl.1 ⟨Nat.le_of_ble_eq_true rfl, Nat.le_of_ble_eq_true rfl, rfl, rfl, Nat.le_of_ble_eq_true rfl, Nat.le_of_ble_eq_true rfl⟩ (Nat.le_of_ble_eq_true rfl) rfl d_H_reply_67 (fun H locs hw => ?_)
      exact m_H_reply_b70 hret C _ _ hF _ _ _ (lv_sub hl [] rfl) hw
set_option maxHeartbeats 4000000 in
set_option maxRecDepth 100000 in
theorem c_H_reply (l : Launch) (D : va_G) (T : Nat → ClassId) (z : Nat) (L : List Nat) {S : gS} {I : gMI} {J : gMJ} {p0 : Nat} {p1 : Nat} {p2 : Nat} {RI : gMI} {RJ : gMJ} (hF : f_H_reply S I J p0 p1 p2 = some (RI, RJ)) : ga_Mv l y_H_reply prog_1_method_36_code 5 (Option.none : Option Jvm.ClassFile.FieldType) rm_H_reply [.ref p0, .ref p1, .ref p2] D T z L S I J RI RJ := by
  refine Met.ofW (cc := prog_1_method_36_code) (maxL := 5) (ret := (Option.none : Option Jvm.ClassFile.FieldType)) (by decide) rfl ?_
  intro p e s m args below meth c s₁ B hml hv
  obtain ⟨ha, hv⟩ := hv
  have hx := B.exec
  have hb := B.bytes
  have hr := B.returns
  have hts := atoms_spec (ws := .code y_H_reply prog_1_method_36_code 5 (Option.none : Option Jvm.ClassFile.FieldType) :: ga_ws) B.pre
  have hown : s.vm.findClass "RankHouse" = some m.cls := findClass_of_methodNamed B.named
  have hlocks := B.notSynchronized
  have C : CallFix p m c prog_1_method_36_code 5 s args ga_ws "RankHouse" := ⟨hx, hb, hml, hown, fun w h => hts w (List.mem_cons_of_mem _ h)⟩
  have hw := ga_start hv
  have hl := lv_entry ([.ref p0, .ref p1, .ref p2]) (n := 5) (Nat.le_of_ble_eq_true rfl)
  rw [show entryFrame m args 5 = entryFrame m ([.ref p0, .ref p1, .ref p2] : List Value).toArray 5 by rw [ha], lg_entry_eq]
  generalize (lg_sl ([.ref p0, .ref p1, .ref p2]) ++ List.replicate (5 - (lg_sl ([.ref p0, .ref p1, .ref p2])).length) Slot.unset).toArray = ls at hl ⊢
  have hl : lv_has ls 5 [(0, .ref p0), (1, .ref p1), (2, .ref p2)] := hl
  have key : ∀ Q : State → Prop, (∀ (pc : Nat) (ls : Array Slot) (H : Heap) (locs : List Loc) (I1 : gMI) (J1 : gMJ), (I1, J1) = (RI, RJ) → decode prog_1_method_36_code pc = .ok (.return_, 1) → ga_W D T z L S I1 J1 s H locs → W p l e rm_H_reply s m args below meth c H locs 0 0 Q (F0 m pc ls [])) → W p l e rm_H_reply s m args below meth c s.heap [] 0 0 Q (F0 m 0 ls []) := by
    intro Q hret
    rw [f_H_reply] at hF
    refine lv_aload_n hx hb d_H_reply_0 rfl (lv_at hl 1 rfl) ?_
    obtain ⟨t1, hF⟩ := gd_ex hF
    refine ga_getI C hw gf_H_251 t1 d_H_reply_1 ?_
    refine lv_topi (fun v2 ev2 => ?_)
    replace hF := bnd_at hF ev2
    refine lv_istore_n hx hb d_H_reply_4 rfl hl (by decide) rfl (fun ls hl => ?_)
    have hl : lv_has ls 5 [(3, .int v2), (0, .ref p0), (1, .ref p1), (2, .ref p2)] := hl
    refine lv_aload_n hx hb d_H_reply_5 rfl (lv_at hl 2 rfl) ?_
    refine ga_getI C hw gf_H_274 t1 d_H_reply_6 ?_
    refine lv_iconst (v := 1) hx hb d_H_reply_9 (by decide) ?_
    by_cases h3 : (I p1 3) = (1 : Int32)
    · rw [if_pos h3] at hF
      refine lv_icmp_ne (tgt := 27) hx hb d_H_reply_10 (by decide) (fun hn => absurd h3 hn) (fun _ => ?_)
      refine lv_aload_n hx hb d_H_reply_13 rfl (lv_at hl 3 rfl) ?_
      refine lv_iload_n hx hb d_H_reply_14 rfl (lv_at hl 0 rfl) ?_
      refine lv_aload_n hx hb d_H_reply_15 rfl (lv_at hl 1 rfl) ?_
      obtain ⟨t4, hF⟩ := gd_ex hF
      obtain ⟨r5, hr5, hF⟩ := ob_ex hF
      refine ga_getR C hw gf_H_11 t4 hr5 d_H_reply_16 ?_
      refine lv_iload_n hx hb d_H_reply_19 rfl (lv_at hl 0 rfl) ?_
      obtain ⟨t6, hF⟩ := gd_ex hF
      obtain ⟨b7, hF⟩ := gd_ex hF
      obtain ⟨r8, hr8, hF⟩ := ob_ex hF
      refine ga_rald C hw t6 (by decide) rfl rfl b7 hr8 d_H_reply_20 ?_
      obtain ⟨t9, hF⟩ := gd_ex hF
      obtain ⟨r10, hr10, hF⟩ := ob_ex hF
      refine ga_getR C hw gf_H_37 t9 hr10 d_H_reply_21 ?_
      obtain ⟨t11, hF⟩ := gd_ex hF
      obtain ⟨I12, c13, hF⟩ := ob_ex hF
      refine ga_cVv (As := [.int v2, .ref r10]) C hw (c_Question_freeze l D T z L c13) gy_H_277 t11 rfl hl.1 ⟨Nat.le_of_ble_eq_true rfl, Nat.le_of_ble_eq_true rfl, rfl, rfl, Nat.le_of_ble_eq_true rfl, Nat.le_of_ble_eq_true rfl⟩ (Nat.le_of_ble_eq_true rfl) rfl d_H_reply_24 (fun H locs hw => ?_)
      exact m_H_reply_b27 hret C _ _ _ _ _ _ hF _ _ _ (lv_sub hl [1, 2, 3, 0] rfl) hw
    · rw [if_neg h3] at hF
      refine lv_icmp_ne (tgt := 27) hx hb d_H_reply_10 (by decide) (fun _ => ?_) (fun hp => absurd hp h3)
      exact m_H_reply_b27 hret C _ _ _ _ _ _ hF _ _ _ (lv_sub hl [1, 2, 3, 0] rfl) hw
  refine key _ (fun pc ls H locs I1 J1 he hd hw => ?_)
  · cases he
    exact W.vret hx hb hr (fun t ht _ => ⟨⟨(), rfl, trivial, ga_o hw ht⟩, hw.2.2.2.1.F ht⟩) hw.2.2.2.1.2.2 hd
set_option maxHeartbeats 4000000 in
set_option maxRecDepth 100000 in
theorem m_H_askUnlessDone_b12 {zz : gMI × gMJ} (hret : ∀ (pc : Nat) (ls : Array Slot) (H : Heap) (locs : List Loc) (I1 : gMI) (J1 : gMJ), (I1, J1) = zz → decode prog_1_method_32_code pc = .ok (.return_, 1) → ga_W D T z L S I1 J1 s H locs → W p l e rm_H_askUnlessDone s m args below meth c H locs 0 0 Q (F0 m pc ls [])) (C : CallFix p m c prog_1_method_32_code 2 s args ga_ws "RankHouse") : ∀ (I : gMI) (J : gMJ), f_H_askUnlessDone_b12 S I J = some zz → ∀ (ls : Array Slot) (H : Heap) (locs : List Loc), lv_has ls 2 [] → ga_W D T z L S I J s H locs → W p l e rm_H_askUnlessDone s m args below meth c H locs 0 0 Q (F0 m 12 ls []) := by
  intro I J hF ls H locs hl hw
  have hx := C.1
  have hb := C.2.1
  rw [f_H_askUnlessDone_b12] at hF
  exact hret _ _ _ _ _ _ (Option.some.inj hF) d_H_askUnlessDone_12 hw
set_option maxHeartbeats 4000000 in
set_option maxRecDepth 100000 in
theorem c_H_askUnlessDone (l : Launch) (D : va_G) (T : Nat → ClassId) (z : Nat) (L : List Nat) {S : gS} {I : gMI} {J : gMJ} {p0 : Nat} {p1 : Nat} {RI : gMI} {RJ : gMJ} (hF : f_H_askUnlessDone S I J p0 p1 = some (RI, RJ)) : ga_Mv l y_H_askUnlessDone prog_1_method_32_code 2 (Option.none : Option Jvm.ClassFile.FieldType) rm_H_askUnlessDone [.ref p0, .ref p1] D T z L S I J RI RJ := by
  refine Met.ofW (cc := prog_1_method_32_code) (maxL := 2) (ret := (Option.none : Option Jvm.ClassFile.FieldType)) (by decide) rfl ?_
  intro p e s m args below meth c s₁ B hml hv
  obtain ⟨ha, hv⟩ := hv
  have hx := B.exec
  have hb := B.bytes
  have hr := B.returns
  have hts := atoms_spec (ws := .code y_H_askUnlessDone prog_1_method_32_code 2 (Option.none : Option Jvm.ClassFile.FieldType) :: ga_ws) B.pre
  have hown : s.vm.findClass "RankHouse" = some m.cls := findClass_of_methodNamed B.named
  have hlocks := B.notSynchronized
  have C : CallFix p m c prog_1_method_32_code 2 s args ga_ws "RankHouse" := ⟨hx, hb, hml, hown, fun w h => hts w (List.mem_cons_of_mem _ h)⟩
  have hw := ga_start hv
  have hl := lv_entry ([.ref p0, .ref p1]) (n := 2) (Nat.le_of_ble_eq_true rfl)
  rw [show entryFrame m args 2 = entryFrame m ([.ref p0, .ref p1] : List Value).toArray 2 by rw [ha], lg_entry_eq]
  generalize (lg_sl ([.ref p0, .ref p1]) ++ List.replicate (2 - (lg_sl ([.ref p0, .ref p1])).length) Slot.unset).toArray = ls at hl ⊢
  have hl : lv_has ls 2 [(0, .ref p0), (1, .ref p1)] := hl
  have key : ∀ Q : State → Prop, (∀ (pc : Nat) (ls : Array Slot) (H : Heap) (locs : List Loc) (I1 : gMI) (J1 : gMJ), (I1, J1) = (RI, RJ) → decode prog_1_method_32_code pc = .ok (.return_, 1) → ga_W D T z L S I1 J1 s H locs → W p l e rm_H_askUnlessDone s m args below meth c H locs 0 0 Q (F0 m pc ls [])) → W p l e rm_H_askUnlessDone s m args below meth c s.heap [] 0 0 Q (F0 m 0 ls []) := by
    intro Q hret
    rw [f_H_askUnlessDone] at hF
    refine lv_aload_n hx hb d_H_askUnlessDone_0 rfl (lv_at hl 1 rfl) ?_
    obtain ⟨t1, hF⟩ := gd_ex hF
    refine ga_getI C hw gf_H_125 t1 d_H_askUnlessDone_1 ?_
    by_cases h2 : (I p1 14) = 0
    · rw [if_pos h2] at hF
      refine lv_if_ne (tgt := 12) hx hb d_H_askUnlessDone_4 (by decide) (fun hn => absurd h2 hn) (fun _ => ?_)
      refine lv_aload_n hx hb d_H_askUnlessDone_7 rfl (lv_at hl 0 rfl) ?_
      refine lv_aload_n hx hb d_H_askUnlessDone_8 rfl (lv_at hl 1 rfl) ?_
      obtain ⟨t3, hF⟩ := gd_ex hF
      obtain ⟨I4, J5, c6, hF⟩ := bd2_ex hF
      refine ga_cVv (As := [.ref p1]) C hw (c_H_askAll l D T z L c6) gy_H_83 t3 rfl hl.1 ⟨Nat.le_of_ble_eq_true rfl, Nat.le_of_ble_eq_true rfl, rfl, rfl, Nat.le_of_ble_eq_true rfl, Nat.le_of_ble_eq_true rfl⟩ (Nat.le_of_ble_eq_true rfl) rfl d_H_askUnlessDone_9 (fun H locs hw => ?_)
      exact m_H_askUnlessDone_b12 hret C _ _ hF _ _ _ (lv_sub hl [] rfl) hw
    · rw [if_neg h2] at hF
      refine lv_if_ne (tgt := 12) hx hb d_H_askUnlessDone_4 (by decide) (fun _ => ?_) (fun hp => absurd hp h2)
      exact m_H_askUnlessDone_b12 hret C _ _ hF _ _ _ (lv_sub hl [] rfl) hw
  refine key _ (fun pc ls H locs I1 J1 he hd hw => ?_)
  · cases he
    exact W.vret hx hb hr (fun t ht _ => ⟨⟨(), rfl, trivial, ga_o hw ht⟩, hw.2.2.2.1.F ht⟩) hw.2.2.2.1.2.2 hd
set_option maxHeartbeats 4000000 in
set_option maxRecDepth 100000 in
theorem m_H_arrive_b28 {zz : gMI × gMJ} (hret : ∀ (pc : Nat) (ls : Array Slot) (H : Heap) (locs : List Loc) (I1 : gMI) (J1 : gMJ), (I1, J1) = zz → decode prog_1_method_35_code pc = .ok (.return_, 1) → ga_W D T z L S I1 J1 s H locs → W p l e rm_H_arrive s m args below meth c H locs 0 0 Q (F0 m pc ls [])) (C : CallFix p m c prog_1_method_35_code 3 s args ga_ws "RankHouse") : ∀ (I : gMI) (J : gMJ), f_H_arrive_b28 S I J = some zz → ∀ (ls : Array Slot) (H : Heap) (locs : List Loc), lv_has ls 3 [] → ga_W D T z L S I J s H locs → W p l e rm_H_arrive s m args below meth c H locs 0 0 Q (F0 m 28 ls []) := by
  intro I J hF ls H locs hl hw
  have hx := C.1
  have hb := C.2.1
  rw [f_H_arrive_b28] at hF
  exact hret _ _ _ _ _ _ (Option.some.inj hF) d_H_arrive_28 hw
set_option maxHeartbeats 4000000 in
set_option maxRecDepth 100000 in
theorem m_H_arrive_b82 {zz : gMI × gMJ} (hret : ∀ (pc : Nat) (ls : Array Slot) (H : Heap) (locs : List Loc) (I1 : gMI) (J1 : gMJ), (I1, J1) = zz → decode prog_1_method_35_code pc = .ok (.return_, 1) → ga_W D T z L S I1 J1 s H locs → W p l e rm_H_arrive s m args below meth c H locs 0 0 Q (F0 m pc ls [])) (C : CallFix p m c prog_1_method_35_code 3 s args ga_ws "RankHouse") : ∀ (I : gMI) (J : gMJ), f_H_arrive_b82 S I J = some zz → ∀ (ls : Array Slot) (H : Heap) (locs : List Loc), lv_has ls 3 [] → ga_W D T z L S I J s H locs → W p l e rm_H_arrive s m args below meth c H locs 0 0 Q (F0 m 82 ls []) := by
  intro I J hF ls H locs hl hw
  have hx := C.1
  have hb := C.2.1
  rw [f_H_arrive_b82] at hF
  exact hret _ _ _ _ _ _ (Option.some.inj hF) d_H_arrive_82 hw
set_option maxHeartbeats 4000000 in
set_option maxRecDepth 100000 in
theorem c_H_arrive (l : Launch) (D : va_G) (T : Nat → ClassId) (z : Nat) (L : List Nat) {S : gS} {I : gMI} {J : gMJ} {p0 : Nat} {p1 : Nat} {RI : gMI} {RJ : gMJ} (hF : f_H_arrive S I J p0 p1 = some (RI, RJ)) : ga_Mv l y_H_arrive prog_1_method_35_code 3 (Option.none : Option Jvm.ClassFile.FieldType) rm_H_arrive [.ref p0, .ref p1] D T z L S I J RI RJ := by
  refine Met.ofW (cc := prog_1_method_35_code) (maxL := 3) (ret := (Option.none : Option Jvm.ClassFile.FieldType)) (by decide) rfl ?_
  intro p e s m args below meth c s₁ B hml hv
  obtain ⟨ha, hv⟩ := hv
  have hx := B.exec
  have hb := B.bytes
  have hr := B.returns
  have hts := atoms_spec (ws := .code y_H_arrive prog_1_method_35_code 3 (Option.none : Option Jvm.ClassFile.FieldType) :: ga_ws) B.pre
  have hown : s.vm.findClass "RankHouse" = some m.cls := findClass_of_methodNamed B.named
  have hlocks := B.notSynchronized
  have C : CallFix p m c prog_1_method_35_code 3 s args ga_ws "RankHouse" := ⟨hx, hb, hml, hown, fun w h => hts w (List.mem_cons_of_mem _ h)⟩
  have hw := ga_start hv
  have hl := lv_entry ([.ref p0, .ref p1]) (n := 3) (Nat.le_of_ble_eq_true rfl)
  rw [show entryFrame m args 3 = entryFrame m ([.ref p0, .ref p1] : List Value).toArray 3 by rw [ha], lg_entry_eq]
  generalize (lg_sl ([.ref p0, .ref p1]) ++ List.replicate (3 - (lg_sl ([.ref p0, .ref p1])).length) Slot.unset).toArray = ls at hl ⊢
  have hl : lv_has ls 3 [(0, .ref p0), (1, .ref p1)] := hl
  have key : ∀ Q : State → Prop, (∀ (pc : Nat) (ls : Array Slot) (H : Heap) (locs : List Loc) (I1 : gMI) (J1 : gMJ), (I1, J1) = (RI, RJ) → decode prog_1_method_35_code pc = .ok (.return_, 1) → ga_W D T z L S I1 J1 s H locs → W p l e rm_H_arrive s m args below meth c H locs 0 0 Q (F0 m pc ls [])) → W p l e rm_H_arrive s m args below meth c s.heap [] 0 0 Q (F0 m 0 ls []) := by
    intro Q hret
    rw [f_H_arrive] at hF
    refine lv_aload_n hx hb d_H_arrive_0 rfl (lv_at hl 0 rfl) ?_
    refine lv_aload_n hx hb d_H_arrive_1 rfl (lv_at hl 1 rfl) ?_
    obtain ⟨t1, hF⟩ := gd_ex hF
    refine ga_getI C hw gf_H_248 t1 d_H_arrive_2 ?_
    obtain ⟨t2, hF⟩ := gd_ex hF
    obtain ⟨q3, c4, hF⟩ := ob_ex hF
    refine ga_cVq (As := [.int (I p1 4)]) C hw (c_H_seek l D T z L c4) gy_H_229 t2 rfl hl.1 ⟨Nat.le_of_ble_eq_true rfl, Nat.le_of_ble_eq_true rfl, rfl, rfl, Nat.le_of_ble_eq_true rfl, Nat.le_of_ble_eq_true rfl⟩ (Nat.le_of_ble_eq_true rfl) rfl d_H_arrive_5 (fun H locs hw => ?_)
    rcases gm_ex hF with ⟨h6, hG⟩ | ⟨r5, h6, hG⟩
    · clear hF
      subst h6
      have hF := hG
      show W _ _ _ _ _ _ _ _ _ _ _ _ _ _ _ (F0 _ _ _ (.null :: _))
      refine lv_astore_nN hx hb d_H_arrive_8 rfl hl (by decide) rfl (fun ls hl => ?_)
      have hl : lv_has ls 3 [(2, .null), (0, .ref p0), (1, .ref p1)] := hl
      refine lv_aload_nN hx hb d_H_arrive_9 rfl (lv_at hl 0 rfl) ?_
      refine lv_ifnullN (tgt := 28) hx hb d_H_arrive_10 (by decide) ?_
      exact m_H_arrive_b28 hret C _ _ hF _ _ _ (lv_sub hl [] rfl) hw
    · clear hF
      subst h6
      have hF := hG
      show W _ _ _ _ _ _ _ _ _ _ _ _ _ _ _ (F0 _ _ _ (.ref _ :: _))
      refine lv_astore_n hx hb d_H_arrive_8 rfl hl (by decide) rfl (fun ls hl => ?_)
      have hl : lv_has ls 3 [(2, .ref r5), (0, .ref p0), (1, .ref p1)] := hl
      refine lv_aload_n hx hb d_H_arrive_9 rfl (lv_at hl 0 rfl) ?_
      refine lv_ifnull hx hb d_H_arrive_10 ?_
      refine lv_aload_n hx hb d_H_arrive_13 rfl (lv_at hl 1 rfl) ?_
      obtain ⟨r7, hr7, hF⟩ := ob_ex hF
      refine ga_getR C hw gf_H_11 t2 hr7 d_H_arrive_14 ?_
      refine lv_aload_n hx hb d_H_arrive_17 rfl (lv_at hl 2 rfl) ?_
      refine ga_getI C hw gf_H_251 t1 d_H_arrive_18 ?_
      obtain ⟨t8, hF⟩ := gd_ex hF
      obtain ⟨b9, hF⟩ := gd_ex hF
      obtain ⟨r10, hr10, hF⟩ := ob_ex hF
      refine ga_rald C hw t8 (by decide) rfl rfl b9 hr10 d_H_arrive_21 ?_
      obtain ⟨t11, hF⟩ := gd_ex hF
      refine ga_getI C hw gf_H_142 t11 d_H_arrive_22 ?_
      by_cases h12 : (I r10 1) = 0
      · rw [if_pos h12] at hF
        refine lv_if_ne (tgt := 29) hx hb d_H_arrive_25 (by decide) (fun hn => absurd h12 hn) (fun _ => ?_)
        exact m_H_arrive_b28 hret C _ _ hF _ _ _ (lv_sub hl [] rfl) hw
      · rw [if_neg h12] at hF
        refine lv_if_ne (tgt := 29) hx hb d_H_arrive_25 (by decide) (fun _ => ?_) (fun hp => absurd hp h12)
        refine lv_aload_n hx hb d_H_arrive_29 rfl (lv_at hl 2 rfl) ?_
        obtain ⟨x13, c14, hF⟩ := ob_ex hF
        refine ga_cVi (As := []) C hw (c_Letter_isAsking l D T z L c14) gy_H_254 t1 rfl hl.1 ⟨Nat.le_of_ble_eq_true rfl, Nat.le_of_ble_eq_true rfl, rfl, rfl, Nat.le_of_ble_eq_true rfl, Nat.le_of_ble_eq_true rfl⟩ (Nat.le_of_ble_eq_true rfl) rfl d_H_arrive_30 (fun H locs hw => ?_)
        by_cases h15 : x13 = 0
        · rw [if_pos h15] at hF
          refine lv_if_eq (tgt := 45) hx hb d_H_arrive_33 (by decide) (fun _ => ?_) (fun hn => absurd h15 hn)
          refine lv_aload_n hx hb d_H_arrive_45 rfl (lv_at hl 0 rfl) ?_
          refine lv_aload_n hx hb d_H_arrive_46 rfl (lv_at hl 2 rfl) ?_
          obtain ⟨t16, hF⟩ := gd_ex hF
          obtain ⟨x17, c18, hF⟩ := ob_ex hF
          refine ga_cVi (As := [.ref p1]) C hw (c_Question_awaits l D T z L c18) gy_H_261 t16 rfl hl.1 ⟨Nat.le_of_ble_eq_true rfl, Nat.le_of_ble_eq_true rfl, rfl, rfl, Nat.le_of_ble_eq_true rfl, Nat.le_of_ble_eq_true rfl⟩ (Nat.le_of_ble_eq_true rfl) rfl d_H_arrive_47 (fun H locs hw => ?_)
          by_cases h19 : x17 = 0
          · rw [if_pos h19] at hF
            refine lv_if_eq (tgt := 82) hx hb d_H_arrive_50 (by decide) (fun _ => ?_) (fun hn => absurd h19 hn)
            exact m_H_arrive_b82 hret C _ _ hF _ _ _ (lv_sub hl [] rfl) hw
          · rw [if_neg h19] at hF
            refine lv_if_eq (tgt := 82) hx hb d_H_arrive_50 (by decide) (fun hp => absurd hp h19) (fun _ => ?_)
            refine lv_aload_n hx hb d_H_arrive_53 rfl (lv_at hl 0 rfl) ?_
            obtain ⟨r20, hr20, hF⟩ := ob_ex hF
            refine ga_getR C hw gf_H_192 t16 hr20 d_H_arrive_54 ?_
            refine lv_aload_n hx hb d_H_arrive_57 rfl (lv_at hl 2 rfl) ?_
            obtain ⟨t21, hF⟩ := gd_ex hF
            obtain ⟨I22, J23, c24, hF⟩ := bd2_ex hF
            refine ga_cVv (As := [.ref p1]) C hw (c_Replies_hear l D T z L c24) gy_H_265 t21 rfl hl.1 ⟨Nat.le_of_ble_eq_true rfl, Nat.le_of_ble_eq_true rfl, rfl, rfl, Nat.le_of_ble_eq_true rfl, Nat.le_of_ble_eq_true rfl⟩ (Nat.le_of_ble_eq_true rfl) rfl d_H_arrive_58 (fun H locs hw => ?_)
            refine lv_aload_n hx hb d_H_arrive_61 rfl (lv_at hl 0 rfl) ?_
            refine ga_getR C hw gf_H_192 t16 hr20 d_H_arrive_62 ?_
            refine ga_getI C hw gf_H_196 t21 d_H_arrive_65 ?_
            refine lv_bipush (v := 8) hx hb d_H_arrive_68 (by decide) ?_
            by_cases h25 : (I22 r20 4) = (8 : Int32)
            · rw [if_pos h25] at hF
              refine lv_icmp_ne (tgt := 82) hx hb d_H_arrive_70 (by decide) (fun hn => absurd h25 hn) (fun _ => ?_)
              refine lv_aload_n hx hb d_H_arrive_73 rfl (lv_at hl 0 rfl) ?_
              obtain ⟨I26, J27, c28, hF⟩ := bd2_ex hF
              refine ga_cVv (As := []) C hw (c_Question_goOn l D T z L c28) gy_H_268 t16 rfl hl.1 ⟨Nat.le_of_ble_eq_true rfl, Nat.le_of_ble_eq_true rfl, rfl, rfl, Nat.le_of_ble_eq_true rfl, Nat.le_of_ble_eq_true rfl⟩ (Nat.le_of_ble_eq_true rfl) rfl d_H_arrive_74 (fun H locs hw => ?_)
              refine lv_aload_n hx hb d_H_arrive_77 rfl (lv_at hl 1 rfl) ?_
              refine lv_aload_n hx hb d_H_arrive_78 rfl (lv_at hl 0 rfl) ?_
              obtain ⟨I29, J30, c31, hF⟩ := bd2_ex hF
              refine ga_cVv (As := [.ref r5]) C hw (c_H_askUnlessDone l D T z L c31) gy_H_271 t2 rfl hl.1 ⟨Nat.le_of_ble_eq_true rfl, Nat.le_of_ble_eq_true rfl, rfl, rfl, Nat.le_of_ble_eq_true rfl, Nat.le_of_ble_eq_true rfl⟩ (Nat.le_of_ble_eq_true rfl) rfl d_H_arrive_79 (fun H locs hw => ?_)
              exact m_H_arrive_b82 hret C _ _ hF _ _ _ (lv_sub hl [] rfl) hw
            · rw [if_neg h25] at hF
              refine lv_icmp_ne (tgt := 82) hx hb d_H_arrive_70 (by decide) (fun _ => ?_) (fun hp => absurd hp h25)
              exact m_H_arrive_b82 hret C _ _ hF _ _ _ (lv_sub hl [] rfl) hw
        · rw [if_neg h15] at hF
          refine lv_if_eq (tgt := 45) hx hb d_H_arrive_33 (by decide) (fun hp => absurd hp h15) (fun _ => ?_)
          refine lv_aload_n hx hb d_H_arrive_36 rfl (lv_at hl 1 rfl) ?_
          refine lv_aload_n hx hb d_H_arrive_37 rfl (lv_at hl 2 rfl) ?_
          refine lv_aload_n hx hb d_H_arrive_38 rfl (lv_at hl 0 rfl) ?_
          obtain ⟨I32, J33, c34, hF⟩ := bd2_ex hF
          refine ga_cVv (As := [.ref p1, .ref r5]) C hw (c_H_reply l D T z L c34) gy_H_257 t2 rfl hl.1 ⟨Nat.le_of_ble_eq_true rfl, Nat.le_of_ble_eq_true rfl, rfl, rfl, Nat.le_of_ble_eq_true rfl, Nat.le_of_ble_eq_true rfl⟩ (Nat.le_of_ble_eq_true rfl) rfl d_H_arrive_39 (fun H locs hw => ?_)
          refine lv_goto (tgt := 82) hx hb d_H_arrive_42 (by decide) ?_
          exact m_H_arrive_b82 hret C _ _ hF _ _ _ (lv_sub hl [] rfl) hw
  refine key _ (fun pc ls H locs I1 J1 he hd hw => ?_)
  · cases he
    exact W.vret hx hb hr (fun t ht _ => ⟨⟨(), rfl, trivial, ga_o hw ht⟩, hw.2.2.2.1.F ht⟩) hw.2.2.2.1.2.2 hd
set_option maxHeartbeats 4000000 in
set_option maxRecDepth 100000 in
theorem c_H_deliver (l : Launch) (D : va_G) (T : Nat → ClassId) (z : Nat) (L : List Nat) {S : gS} {I : gMI} {J : gMJ} {p0 : Nat} {p1 : Int32} {ex : Nat} {r : Int32} {RI : gMI} {RJ : gMJ} (hl9 : l.stackTraces = false) (hF : f_H_deliver S I J p0 p1 = some (ex, r, RI, RJ)) : ga_Xi l y_H_deliver prog_1_method_8_code 2 (Option.some Jvm.ClassFile.FieldType.int) rm_H_deliver [.ref p0, .int p1] D T z L S I J ex r RI RJ := by
  refine vx_ofW (cc := prog_1_method_8_code) (maxL := 2) (ret := (Option.some Jvm.ClassFile.FieldType.int)) (by decide) rfl ?_
  intro p e s m args below meth c s₁ B hml hno hv
  obtain ⟨ha, hv⟩ := hv
  have hx := B.exec
  have hb := B.bytes
  have hr := B.returns
  have hts := atoms_spec (ws := .code y_H_deliver prog_1_method_8_code 2 (Option.some Jvm.ClassFile.FieldType.int) :: ga_ws) B.pre
  have hown : s.vm.findClass "RankHouse" = some m.cls := findClass_of_methodNamed B.named
  have hlocks := B.notSynchronized
  have C : CallFix p m c prog_1_method_8_code 2 s args ga_ws "RankHouse" := ⟨hx, hb, hml, hown, fun w h => hts w (List.mem_cons_of_mem _ h)⟩
  have hw := ga_start hv
  have hl := lv_entry ([.ref p0, .int p1]) (n := 2) (Nat.le_of_ble_eq_true rfl)
  rw [show entryFrame m args 2 = entryFrame m ([.ref p0, .int p1] : List Value).toArray 2 by rw [ha], lg_entry_eq]
  generalize (lg_sl ([.ref p0, .int p1]) ++ List.replicate (2 - (lg_sl ([.ref p0, .int p1])).length) Slot.unset).toArray = ls at hl ⊢
  have hl : lv_has ls 2 [(0, .ref p0), (1, .int p1)] := hl
  have key : ∀ Q : State → Prop, (∀ (pc cells slots : Nat) (ls : Array Slot) (H : Heap) (locs : List Loc) (x : Int32) (I1 : gMI) (J1 : gMJ), (0, x, I1, J1) = (ex, r, RI, RJ) → decode prog_1_method_8_code pc = .ok (.ireturn, 1) → cells ≤ rm_H_deliver.cells → slots ≤ rm_H_deliver.slots → ga_W D T z L S I1 J1 s H locs → W p l e rm_H_deliver s m args below meth c H locs cells slots Q (F0 m pc ls [.int x])) → (∀ (pc ey cells slots : Nat) (ls : Array Slot) (rest : List Value) (H : Heap) (locs : List Loc) (ce : Cell) (q9 : Addr) (I1 : gMI) (J1 : gMJ), (ey, 0, I1, J1) = (ex, r, RI, RJ) → ¬ ey = 0 → cells ≤ rm_H_deliver.cells → slots ≤ rm_H_deliver.slots → ga_W D T z L S I1 J1 s H locs → H[q9]? = some ce → ce.vm = .none → s.vm.findClass (ga_ex ey) = some ce.cls → vx_W p l e rm_H_deliver s m args below meth c H locs cells slots Q (F0 m pc ls rest) q9) → W p l e rm_H_deliver s m args below meth c s.heap [] 0 0 Q (F0 m 0 ls []) := by
    intro Q hret hthr
    rw [f_H_deliver] at hF
    refine lv_aload_n hx hb d_H_deliver_0 rfl (lv_at hl 0 rfl) ?_
    refine lv_iload_n hx hb d_H_deliver_1 rfl (lv_at hl 1 rfl) ?_
    obtain ⟨t1, hF⟩ := gd_ex hF
    obtain ⟨e2, c3, hF⟩ := ob_ex hF
    refine ga_xVv (As := [.int p1]) C hw (c_H_needLetter l D T z L hl9 c3) gy_H_90 t1 rfl hl.1 ⟨Nat.le_of_ble_eq_true rfl, Nat.le_of_ble_eq_true rfl, Nat.le_of_ble_eq_true rfl, Nat.le_of_ble_eq_true rfl⟩ (Nat.le_of_ble_eq_true rfl) rfl d_H_deliver_2 (fun hne ce q9 H locs hw hce hcv hcl => ?_) (fun h0 H locs hw => ?_)
    · rw [if_neg hne] at hF
      exact hthr _ _ _ _ _ _ _ _ _ _ _ _ (Option.some.inj hF) hne (Nat.le_of_ble_eq_true rfl) (Nat.le_of_ble_eq_true rfl) hw hce hcv hcl
    · rw [if_pos h0] at hF
      refine lv_aload_n hx hb d_H_deliver_5 rfl (lv_at hl 0 rfl) ?_
      refine lv_aload_n hx hb d_H_deliver_6 rfl (lv_at hl 0 rfl) ?_
      obtain ⟨r4, hr4, hF⟩ := ob_ex hF
      refine ga_getR C hw gf_H_25 t1 hr4 d_H_deliver_7 ?_
      refine lv_iload_n hx hb d_H_deliver_10 rfl (lv_at hl 1 rfl) ?_
      obtain ⟨t5, hF⟩ := gd_ex hF
      obtain ⟨q6, I7, c8, hF⟩ := bd2_ex hF
      refine ga_cVq (As := [.int p1]) C hw (c_Post_takeOut l D T z L c8) gy_H_105 t5 rfl hl.1 ⟨Nat.le_of_ble_eq_true rfl, Nat.le_of_ble_eq_true rfl, rfl, rfl, Nat.le_of_ble_eq_true rfl, Nat.le_of_ble_eq_true rfl⟩ (Nat.le_of_ble_eq_true rfl) rfl d_H_deliver_11 (fun H locs hw => ?_)
      obtain ⟨r9, h10, hG⟩ := ob_ex hF
      clear hF
      subst h10
      have hF := hG
      obtain ⟨I11, J12, c13, hF⟩ := bd2_ex hF
      refine ga_cVv (As := [.ref r9]) C hw (c_H_arrive l D T z L c13) gy_H_108 t1 rfl hl.1 ⟨Nat.le_of_ble_eq_true rfl, Nat.le_of_ble_eq_true rfl, rfl, rfl, Nat.le_of_ble_eq_true rfl, Nat.le_of_ble_eq_true rfl⟩ (Nat.le_of_ble_eq_true rfl) rfl d_H_deliver_14 (fun H locs hw => ?_)
      refine lv_aload_n hx hb d_H_deliver_17 rfl (lv_at hl 0 rfl) ?_
      refine ga_getR C hw gf_H_25 t1 hr4 d_H_deliver_18 ?_
      refine ga_getI C hw gf_H_87 t5 d_H_deliver_21 ?_
      exact hret _ _ _ _ _ _ _ _ _ (Option.some.inj hF) d_H_deliver_24 (Nat.le_of_ble_eq_true rfl) (Nat.le_of_ble_eq_true rfl) hw
  refine key _ (fun pc cells slots ls H locs x I1 J1 he hd hc hs hw => ?_) (fun pc ey cells slots ls rest H locs ce q9 I1 J1 he hne hc hs hw hce hcv hcl => ?_)
  · cases he
    exact W.widen hc hs (vx_ret (W.iret hx hb hr (fun t ht _ => ⟨⟨_, (), rfl, ⟨rfl, rfl⟩, ga_o hw ht⟩, hw.2.2.2.1.F ht⟩) hw.2.2.2.1.2.2 hd))
  · cases he
    exact vx_out (fun x hx => (hno x hx).elim) hlocks hce hcv hcl (fun t ht _ => ⟨(), hne, ⟨rfl, ga_o hw ht⟩, hw.2.2.2.1.F ht⟩) hw.2.2.2.1.2.2 hc hs
set_option maxHeartbeats 4000000 in
set_option maxRecDepth 100000 in
theorem c_H_lose (l : Launch) (D : va_G) (T : Nat → ClassId) (z : Nat) (L : List Nat) {S : gS} {I : gMI} {J : gMJ} {p0 : Nat} {p1 : Int32} {ex : Nat} {r : Int32} {RI : gMI} (hl9 : l.stackTraces = false) (hF : f_H_lose S I J p0 p1 = some (ex, r, RI)) : ga_Xi l y_H_lose prog_1_method_9_code 2 (Option.some Jvm.ClassFile.FieldType.int) rm_H_lose [.ref p0, .int p1] D T z L S I J ex r RI J := by
  refine vx_ofW (cc := prog_1_method_9_code) (maxL := 2) (ret := (Option.some Jvm.ClassFile.FieldType.int)) (by decide) rfl ?_
  intro p e s m args below meth c s₁ B hml hno hv
  obtain ⟨ha, hv⟩ := hv
  have hx := B.exec
  have hb := B.bytes
  have hr := B.returns
  have hts := atoms_spec (ws := .code y_H_lose prog_1_method_9_code 2 (Option.some Jvm.ClassFile.FieldType.int) :: ga_ws) B.pre
  have hown : s.vm.findClass "RankHouse" = some m.cls := findClass_of_methodNamed B.named
  have hlocks := B.notSynchronized
  have C : CallFix p m c prog_1_method_9_code 2 s args ga_ws "RankHouse" := ⟨hx, hb, hml, hown, fun w h => hts w (List.mem_cons_of_mem _ h)⟩
  have hw := ga_start hv
  have hl := lv_entry ([.ref p0, .int p1]) (n := 2) (Nat.le_of_ble_eq_true rfl)
  rw [show entryFrame m args 2 = entryFrame m ([.ref p0, .int p1] : List Value).toArray 2 by rw [ha], lg_entry_eq]
  generalize (lg_sl ([.ref p0, .int p1]) ++ List.replicate (2 - (lg_sl ([.ref p0, .int p1])).length) Slot.unset).toArray = ls at hl ⊢
  have hl : lv_has ls 2 [(0, .ref p0), (1, .int p1)] := hl
  have key : ∀ Q : State → Prop, (∀ (pc cells slots : Nat) (ls : Array Slot) (H : Heap) (locs : List Loc) (x : Int32) (I1 : gMI), (0, x, I1) = (ex, r, RI) → decode prog_1_method_9_code pc = .ok (.ireturn, 1) → cells ≤ rm_H_lose.cells → slots ≤ rm_H_lose.slots → ga_W D T z L S I1 J s H locs → W p l e rm_H_lose s m args below meth c H locs cells slots Q (F0 m pc ls [.int x])) → (∀ (pc ey cells slots : Nat) (ls : Array Slot) (rest : List Value) (H : Heap) (locs : List Loc) (ce : Cell) (q9 : Addr) (I1 : gMI), (ey, 0, I1) = (ex, r, RI) → ¬ ey = 0 → cells ≤ rm_H_lose.cells → slots ≤ rm_H_lose.slots → ga_W D T z L S I1 J s H locs → H[q9]? = some ce → ce.vm = .none → s.vm.findClass (ga_ex ey) = some ce.cls → vx_W p l e rm_H_lose s m args below meth c H locs cells slots Q (F0 m pc ls rest) q9) → W p l e rm_H_lose s m args below meth c s.heap [] 0 0 Q (F0 m 0 ls []) := by
    intro Q hret hthr
    rw [f_H_lose] at hF
    refine lv_aload_n hx hb d_H_lose_0 rfl (lv_at hl 0 rfl) ?_
    refine lv_iload_n hx hb d_H_lose_1 rfl (lv_at hl 1 rfl) ?_
    obtain ⟨t1, hF⟩ := gd_ex hF
    obtain ⟨e2, c3, hF⟩ := ob_ex hF
    refine ga_xVv (As := [.int p1]) C hw (c_H_needLetter l D T z L hl9 c3) gy_H_90 t1 rfl hl.1 ⟨Nat.le_of_ble_eq_true rfl, Nat.le_of_ble_eq_true rfl, Nat.le_of_ble_eq_true rfl, Nat.le_of_ble_eq_true rfl⟩ (Nat.le_of_ble_eq_true rfl) rfl d_H_lose_2 (fun hne ce q9 H locs hw hce hcv hcl => ?_) (fun h0 H locs hw => ?_)
    · rw [if_neg hne] at hF
      exact hthr _ _ _ _ _ _ _ _ _ _ _ (Option.some.inj hF) hne (Nat.le_of_ble_eq_true rfl) (Nat.le_of_ble_eq_true rfl) hw hce hcv hcl
    · rw [if_pos h0] at hF
      refine lv_aload_n hx hb d_H_lose_5 rfl (lv_at hl 0 rfl) ?_
      obtain ⟨r4, hr4, hF⟩ := ob_ex hF
      refine ga_getR C hw gf_H_25 t1 hr4 d_H_lose_6 ?_
      refine lv_iload_n hx hb d_H_lose_9 rfl (lv_at hl 1 rfl) ?_
      obtain ⟨t5, hF⟩ := gd_ex hF
      obtain ⟨q6, I7, c8, hF⟩ := bd2_ex hF
      refine ga_cVq (As := [.int p1]) C hw (c_Post_takeOut l D T z L c8) gy_H_105 t5 rfl hl.1 ⟨Nat.le_of_ble_eq_true rfl, Nat.le_of_ble_eq_true rfl, rfl, rfl, Nat.le_of_ble_eq_true rfl, Nat.le_of_ble_eq_true rfl⟩ (Nat.le_of_ble_eq_true rfl) rfl d_H_lose_10 (fun H locs hw => ?_)
      obtain ⟨r9, h10, hG⟩ := ob_ex hF
      clear hF
      subst h10
      have hF := hG
      refine lv_pop hx hb d_H_lose_13 rfl ?_
      refine lv_aload_n hx hb d_H_lose_14 rfl (lv_at hl 0 rfl) ?_
      refine ga_getR C hw gf_H_25 t1 hr4 d_H_lose_15 ?_
      refine ga_getI C hw gf_H_87 t5 d_H_lose_18 ?_
      exact hret _ _ _ _ _ _ _ _ (Option.some.inj hF) d_H_lose_21 (Nat.le_of_ble_eq_true rfl) (Nat.le_of_ble_eq_true rfl) hw
  refine key _ (fun pc cells slots ls H locs x I1 he hd hc hs hw => ?_) (fun pc ey cells slots ls rest H locs ce q9 I1 he hne hc hs hw hce hcv hcl => ?_)
  · cases he
    exact W.widen hc hs (vx_ret (W.iret hx hb hr (fun t ht _ => ⟨⟨_, (), rfl, ⟨rfl, rfl⟩, ga_o hw ht⟩, hw.2.2.2.1.F ht⟩) hw.2.2.2.1.2.2 hd))
  · cases he
    exact vx_out (fun x hx => (hno x hx).elim) hlocks hce hcv hcl (fun t ht _ => ⟨(), hne, ⟨rfl, ga_o hw ht⟩, hw.2.2.2.1.F ht⟩) hw.2.2.2.1.2.2 hc hs
set_option maxHeartbeats 4000000 in
set_option maxRecDepth 100000 in
theorem c_H_twin (l : Launch) (D : va_G) (T : Nat → ClassId) (z : Nat) (L : List Nat) {S : gS} {I : gMI} {J : gMJ} {p0 : Nat} {p1 : Int32} {ex : Nat} {r : Int32} {RI : gMI} {RJ : gMJ} (hl9 : l.stackTraces = false) (hF : f_H_twin S I J p0 p1 = some (ex, r, RI, RJ)) : ga_Xi l y_H_twin prog_1_method_10_code 3 (Option.some Jvm.ClassFile.FieldType.boolean) rm_H_twin [.ref p0, .int p1] D T z L S I J ex r RI RJ := by
  refine vx_ofW (cc := prog_1_method_10_code) (maxL := 3) (ret := (Option.some Jvm.ClassFile.FieldType.boolean)) (by decide) rfl ?_
  intro p e s m args below meth c s₁ B hml hno hv
  obtain ⟨ha, hv⟩ := hv
  have hx := B.exec
  have hb := B.bytes
  have hr := B.returns
  have hts := atoms_spec (ws := .code y_H_twin prog_1_method_10_code 3 (Option.some Jvm.ClassFile.FieldType.boolean) :: ga_ws) B.pre
  have hown : s.vm.findClass "RankHouse" = some m.cls := findClass_of_methodNamed B.named
  have hlocks := B.notSynchronized
  have C : CallFix p m c prog_1_method_10_code 3 s args ga_ws "RankHouse" := ⟨hx, hb, hml, hown, fun w h => hts w (List.mem_cons_of_mem _ h)⟩
  have hw := ga_start hv
  have hl := lv_entry ([.ref p0, .int p1]) (n := 3) (Nat.le_of_ble_eq_true rfl)
  rw [show entryFrame m args 3 = entryFrame m ([.ref p0, .int p1] : List Value).toArray 3 by rw [ha], lg_entry_eq]
  generalize (lg_sl ([.ref p0, .int p1]) ++ List.replicate (3 - (lg_sl ([.ref p0, .int p1])).length) Slot.unset).toArray = ls at hl ⊢
  have hl : lv_has ls 3 [(0, .ref p0), (1, .int p1)] := hl
  have key : ∀ Q : State → Prop, (∀ (pc cells slots : Nat) (ls : Array Slot) (H : Heap) (locs : List Loc) (x : Int32) (I1 : gMI) (J1 : gMJ), (0, x, I1, J1) = (ex, r, RI, RJ) → decode prog_1_method_10_code pc = .ok (.ireturn, 1) → (x = 0 ∨ x = 1) → cells ≤ rm_H_twin.cells → slots ≤ rm_H_twin.slots → ga_W D T z L S I1 J1 s H locs → W p l e rm_H_twin s m args below meth c H locs cells slots Q (F0 m pc ls [.int x])) → (∀ (pc ey cells slots : Nat) (ls : Array Slot) (rest : List Value) (H : Heap) (locs : List Loc) (ce : Cell) (q9 : Addr) (I1 : gMI) (J1 : gMJ), (ey, 0, I1, J1) = (ex, r, RI, RJ) → ¬ ey = 0 → cells ≤ rm_H_twin.cells → slots ≤ rm_H_twin.slots → ga_W D T z L S I1 J1 s H locs → H[q9]? = some ce → ce.vm = .none → s.vm.findClass (ga_ex ey) = some ce.cls → vx_W p l e rm_H_twin s m args below meth c H locs cells slots Q (F0 m pc ls rest) q9) → W p l e rm_H_twin s m args below meth c s.heap [] 0 0 Q (F0 m 0 ls []) := by
    intro Q hret hthr
    rw [f_H_twin] at hF
    refine lv_aload_n hx hb d_H_twin_0 rfl (lv_at hl 0 rfl) ?_
    refine lv_iload_n hx hb d_H_twin_1 rfl (lv_at hl 1 rfl) ?_
    obtain ⟨t1, hF⟩ := gd_ex hF
    obtain ⟨e2, c3, hF⟩ := ob_ex hF
    refine ga_xVv (As := [.int p1]) C hw (c_H_needLetter l D T z L hl9 c3) gy_H_90 t1 rfl hl.1 ⟨Nat.le_of_ble_eq_true rfl, Nat.le_of_ble_eq_true rfl, Nat.le_of_ble_eq_true rfl, Nat.le_of_ble_eq_true rfl⟩ (Nat.le_of_ble_eq_true rfl) rfl d_H_twin_2 (fun hne ce q9 H locs hw hce hcv hcl => ?_) (fun h0 H locs hw => ?_)
    · rw [if_neg hne] at hF
      exact hthr _ _ _ _ _ _ _ _ _ _ _ _ (Option.some.inj hF) hne (Nat.le_of_ble_eq_true rfl) (Nat.le_of_ble_eq_true rfl) hw hce hcv hcl
    · rw [if_pos h0] at hF
      refine lv_aload_n hx hb d_H_twin_5 rfl (lv_at hl 0 rfl) ?_
      obtain ⟨r4, hr4, hF⟩ := ob_ex hF
      refine ga_getR C hw gf_H_25 t1 hr4 d_H_twin_6 ?_
      obtain ⟨t5, hF⟩ := gd_ex hF
      obtain ⟨q6, I7, c8, hF⟩ := bd2_ex hF
      refine ga_cVq (As := []) C hw (c_Post_send l D T z L c8) gy_H_112 t5 rfl hl.1 ⟨Nat.le_of_ble_eq_true rfl, Nat.le_of_ble_eq_true rfl, rfl, rfl, Nat.le_of_ble_eq_true rfl, Nat.le_of_ble_eq_true rfl⟩ (Nat.le_of_ble_eq_true rfl) rfl d_H_twin_9 (fun H locs hw => ?_)
      rcases gm_ex hF with ⟨h10, hG⟩ | ⟨r9, h10, hG⟩
      · clear hF
        subst h10
        have hF := hG
        show W _ _ _ _ _ _ _ _ _ _ _ _ _ _ _ (F0 _ _ _ (.null :: _))
        refine lv_astore_nN hx hb d_H_twin_12 rfl hl (by decide) rfl (fun ls hl => ?_)
        have hl : lv_has ls 3 [(2, .null), (0, .ref p0), (1, .int p1)] := hl
        refine lv_aload_nN hx hb d_H_twin_13 rfl (lv_at hl 0 rfl) ?_
        refine lv_ifnonnullN hx hb d_H_twin_14 ?_
        refine lv_iconst (v := 0) hx hb d_H_twin_17 (by decide) ?_
        exact hret _ _ _ _ _ _ _ _ _ (Option.some.inj hF) d_H_twin_18 (Or.inl rfl) (Nat.le_of_ble_eq_true rfl) (Nat.le_of_ble_eq_true rfl) hw
      · clear hF
        subst h10
        have hF := hG
        show W _ _ _ _ _ _ _ _ _ _ _ _ _ _ _ (F0 _ _ _ (.ref _ :: _))
        refine lv_astore_n hx hb d_H_twin_12 rfl hl (by decide) rfl (fun ls hl => ?_)
        have hl : lv_has ls 3 [(2, .ref r9), (0, .ref p0), (1, .int p1)] := hl
        refine lv_aload_n hx hb d_H_twin_13 rfl (lv_at hl 0 rfl) ?_
        refine lv_ifnonnull (tgt := 19) hx hb d_H_twin_14 (by decide) ?_
        refine lv_aload_n hx hb d_H_twin_19 rfl (lv_at hl 0 rfl) ?_
        refine lv_aload_n hx hb d_H_twin_20 rfl (lv_at hl 1 rfl) ?_
        refine ga_getR C hw gf_H_25 t1 hr4 d_H_twin_21 ?_
        refine lv_iload_n hx hb d_H_twin_24 rfl (lv_at hl 2 rfl) ?_
        obtain ⟨q11, c12, hF⟩ := ob_ex hF
        refine ga_cVq (As := [.int p1]) C hw (c_Post_at l D T z L c12) gy_H_95 t5 rfl hl.1 ⟨Nat.le_of_ble_eq_true rfl, Nat.le_of_ble_eq_true rfl, rfl, rfl, Nat.le_of_ble_eq_true rfl, Nat.le_of_ble_eq_true rfl⟩ (Nat.le_of_ble_eq_true rfl) rfl d_H_twin_25 (fun H locs hw => ?_)
        obtain ⟨r13, h14, hG⟩ := ob_ex hF
        clear hF
        subst h14
        have hF := hG
        obtain ⟨t15, hF⟩ := gd_ex hF
        obtain ⟨I16, J17, c18, hF⟩ := bd2_ex hF
        refine ga_cVv (As := [.ref r13]) C hw (c_Letter_copy l D T z L c18) gy_H_116 t15 rfl hl.1 ⟨Nat.le_of_ble_eq_true rfl, Nat.le_of_ble_eq_true rfl, rfl, rfl, Nat.le_of_ble_eq_true rfl, Nat.le_of_ble_eq_true rfl⟩ (Nat.le_of_ble_eq_true rfl) rfl d_H_twin_28 (fun H locs hw => ?_)
        refine lv_iconst (v := 1) hx hb d_H_twin_31 (by decide) ?_
        exact hret _ _ _ _ _ _ _ _ _ (Option.some.inj hF) d_H_twin_32 (Or.inr rfl) (Nat.le_of_ble_eq_true rfl) (Nat.le_of_ble_eq_true rfl) hw
  refine key _ (fun pc cells slots ls H locs x I1 J1 he hd hz hc hs hw => ?_) (fun pc ey cells slots ls rest H locs ce q9 I1 J1 he hne hc hs hw hce hcv hcl => ?_)
  · cases he
    exact W.widen hc hs (vx_ret (W.zret hx hb hr (ga_zb hz) (fun t ht _ => ⟨⟨_, (), rfl, ⟨rfl, rfl⟩, ga_o hw ht⟩, hw.2.2.2.1.F ht⟩) hw.2.2.2.1.2.2 hd))
  · cases he
    exact vx_out (fun x hx => (hno x hx).elim) hlocks hce hcv hcl (fun t ht _ => ⟨(), hne, ⟨rfl, ga_o hw ht⟩, hw.2.2.2.1.F ht⟩) hw.2.2.2.1.2.2 hc hs
end WALK
