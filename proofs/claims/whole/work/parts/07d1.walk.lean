section WALK
variable {p : Program} {l : Launch} {e : Env} {s : State} {m : MethodId} {args : Array Value} {below : List Frame} {meth : Method} {c : Code} {Q : State → Prop} {D : va_G} {T : Nat → ClassId} {z : Nat} {L : List Nat} {S : gS}
set_option maxHeartbeats 4000000 in
set_option maxRecDepth 100000 in
theorem m_Question_isThere_b12 {I : gMI} {J : gMJ} {zz : Int32} (hret : ∀ (pc : Nat) (ls : Array Slot) (H : Heap) (locs : List Loc) (x : Int32), (x) = zz → decode prog_5_method_2_code pc = .ok (.ireturn, 1) → (x = 0 ∨ x = 1) → ga_W D T z L S I J s H locs → W p l e rm_Question_isThere s m args below meth c H locs 0 0 Q (F0 m pc ls [.int x])) (C : CallFix p m c prog_5_method_2_code 1 s args ga_ws "RankHouse$Question") : ∀ (s0 : Int32), f_Question_isThere_b12 S I J s0 = some zz → ∀ (ls : Array Slot) (H : Heap) (locs : List Loc), lv_has ls 1 [] → ga_W D T z L S I J s H locs → W p l e rm_Question_isThere s m args below meth c H locs 0 0 Q (F0 m 12 ls [.int s0]) := by
  intro s0 hF ls H locs hl hw
  have hx := C.1
  have hb := C.2.1
  rw [f_Question_isThere_b12] at hF
  obtain ⟨z1, hF⟩ := gd_ex hF
  exact hret _ _ _ _ _ (Option.some.inj hF) d_Question_isThere_12 z1 hw
set_option maxHeartbeats 4000000 in
set_option maxRecDepth 100000 in
theorem c_Question_isThere (l : Launch) (D : va_G) (T : Nat → ClassId) (z : Nat) (L : List Nat) {S : gS} {I : gMI} {J : gMJ} {p0 : Nat} {r : Int32} (hF : f_Question_isThere S I J p0 = some (r)) : ga_Mi l y_Question_isThere prog_5_method_2_code 1 (Option.some Jvm.ClassFile.FieldType.boolean) rm_Question_isThere [.ref p0] D T z L S I J r I J := by
  refine Met.ofW (cc := prog_5_method_2_code) (maxL := 1) (ret := (Option.some Jvm.ClassFile.FieldType.boolean)) (by decide) rfl ?_
  intro p e s m args below meth c s₁ B hml hv
  obtain ⟨ha, hv⟩ := hv
  have hx := B.exec
  have hb := B.bytes
  have hr := B.returns
  have hts := atoms_spec (ws := .code y_Question_isThere prog_5_method_2_code 1 (Option.some Jvm.ClassFile.FieldType.boolean) :: ga_ws) B.pre
  have hown : s.vm.findClass "RankHouse$Question" = some m.cls := findClass_of_methodNamed B.named
  have hlocks := B.notSynchronized
  have C : CallFix p m c prog_5_method_2_code 1 s args ga_ws "RankHouse$Question" := ⟨hx, hb, hml, hown, fun w h => hts w (List.mem_cons_of_mem _ h)⟩
  have hw := ga_start hv
  have hl := lv_entry ([.ref p0]) (n := 1) (Nat.le_of_ble_eq_true rfl)
  rw [show entryFrame m args 1 = entryFrame m ([.ref p0] : List Value).toArray 1 by rw [ha], lg_entry_eq]
  generalize (lg_sl ([.ref p0]) ++ List.replicate (1 - (lg_sl ([.ref p0])).length) Slot.unset).toArray = ls at hl ⊢
  have hl : lv_has ls 1 [(0, .ref p0)] := hl
  have key : ∀ Q : State → Prop, (∀ (pc : Nat) (ls : Array Slot) (H : Heap) (locs : List Loc) (x : Int32), (x) = (r) → decode prog_5_method_2_code pc = .ok (.ireturn, 1) → (x = 0 ∨ x = 1) → ga_W D T z L S I J s H locs → W p l e rm_Question_isThere s m args below meth c H locs 0 0 Q (F0 m pc ls [.int x])) → W p l e rm_Question_isThere s m args below meth c s.heap [] 0 0 Q (F0 m 0 ls []) := by
    intro Q hret
    rw [f_Question_isThere] at hF
    refine lv_aload_n hx hb d_Question_isThere_0 rfl (lv_at hl 0 rfl) ?_
    obtain ⟨t1, hF⟩ := gd_ex hF
    refine ga_getI C hw gf_Question_41 t1 d_Question_isThere_1 ?_
    by_cases h2 : (I p0 6) ≤ 0
    · rw [if_pos h2] at hF
      refine lv_if_le (tgt := 11) hx hb d_Question_isThere_4 (by decide) (fun _ => ?_) (fun hn => absurd h2 hn)
      refine lv_iconst (v := 0) hx hb d_Question_isThere_11 (by decide) ?_
      exact m_Question_isThere_b12 hret C _ hF _ _ _ (lv_sub hl [] rfl) hw
    · rw [if_neg h2] at hF
      refine lv_if_le (tgt := 11) hx hb d_Question_isThere_4 (by decide) (fun hp => absurd hp h2) (fun _ => ?_)
      refine lv_iconst (v := 1) hx hb d_Question_isThere_7 (by decide) ?_
      refine lv_goto (tgt := 12) hx hb d_Question_isThere_8 (by decide) ?_
      exact m_Question_isThere_b12 hret C _ hF _ _ _ (lv_sub hl [] rfl) hw
  refine key _ (fun pc ls H locs x he hd hz hw => ?_)
  · cases he
    exact W.zret hx hb hr (ga_zb hz) (fun t ht _ => ⟨⟨_, (), rfl, rfl, ga_o hw ht⟩, hw.2.2.2.1.F ht⟩) hw.2.2.2.1.2.2 hd
set_option maxHeartbeats 4000000 in
set_option maxRecDepth 100000 in
theorem m_Question_begin_b29 {J : gMJ} {zz : gMI} (hret : ∀ (pc : Nat) (ls : Array Slot) (H : Heap) (locs : List Loc) (I1 : gMI), (I1) = zz → decode prog_5_method_4_code pc = .ok (.return_, 1) → ga_W D T z L S I1 J s H locs → W p l e rm_Question_begin s m args below meth c H locs 0 0 Q (F0 m pc ls [])) (C : CallFix p m c prog_5_method_4_code 6 s args ga_ws "RankHouse$Question") : ∀ (n : Nat) (I : gMI) (l0 : Nat) (l5 : Int32), f_Question_begin_b29 S J n I l0 l5 = some zz → ∀ (ls : Array Slot) (H : Heap) (locs : List Loc), lv_has ls 6 [(0, .ref l0), (5, .int l5)] → ga_W D T z L S I J s H locs → W p l e rm_Question_begin s m args below meth c H locs 0 0 Q (F0 m 29 ls []) := by
  intro n
  induction n with
  | zero =>
    intro I l0 l5 hF ls H locs hl hw
    rw [f_Question_begin_b29] at hF
    cases hF
  | succ n ih =>
    intro I l0 l5 hF ls H locs hl hw
    have hx := C.1
    have hb := C.2.1
    rw [f_Question_begin_b29] at hF
    refine lv_iload hx hb d_Question_begin_29 (lv_at hl 1 rfl) ?_
    refine lv_bipush (v := 8) hx hb d_Question_begin_31 (by decide) ?_
    by_cases h1 : (8 : Int32) ≤ l5
    · rw [if_pos h1] at hF
      refine lv_icmp_ge (tgt := 50) hx hb d_Question_begin_33 (by decide) (fun _ => ?_) (fun hn => absurd h1 hn)
      exact hret _ _ _ _ _ (Option.some.inj hF) d_Question_begin_50 hw
    · rw [if_neg h1] at hF
      refine lv_icmp_ge (tgt := 50) hx hb d_Question_begin_33 (by decide) (fun hp => absurd hp h1) (fun _ => ?_)
      refine lv_aload_n hx hb d_Question_begin_36 rfl (lv_at hl 0 rfl) ?_
      obtain ⟨t2, hF⟩ := gd_ex hF
      obtain ⟨r3, hr3, hF⟩ := ob_ex hF
      refine ga_getR C hw gf_Question_9 t2 hr3 d_Question_begin_37 ?_
      refine lv_iload hx hb d_Question_begin_40 (lv_at hl 1 rfl) ?_
      refine lv_iconst (v := -1) hx hb d_Question_begin_42 (by decide) ?_
      obtain ⟨t4, hF⟩ := gd_ex hF
      obtain ⟨b5, hF⟩ := gd_ex hF
      obtain ⟨I6, eI6, hF⟩ := bnd_ex hF
      refine ga_iast C hw t4 b5 eI6 d_Question_begin_43 (fun H locs hw => ?_)
      obtain ⟨v7, ev7, hF⟩ := bnd_ex hF
      refine lv_iinc (k := 1) (v := v7) hx hb d_Question_begin_44 hl rfl (by rw [ev7]; rfl) (by decide) rfl (fun ls hl => ?_)
      have hl : lv_has ls 6 [(5, .int v7), (0, .ref l0)] := hl
      refine lv_goto (tgt := 29) hx hb d_Question_begin_47 (by decide) ?_
      exact ih _ _ _ hF _ _ _ (lv_sub hl [1, 0] rfl) hw
set_option maxHeartbeats 4000000 in
set_option maxRecDepth 100000 in
theorem c_Question_begin (l : Launch) (D : va_G) (T : Nat → ClassId) (z : Nat) (L : List Nat) {S : gS} {I : gMI} {J : gMJ} {p0 : Nat} {p1 : Int32} {p2 : Int32} {p3 : Int32} {p4 : Int32} {RI : gMI} (hF : f_Question_begin S I J p0 p1 p2 p3 p4 = some (RI)) : ga_Mv l y_Question_begin prog_5_method_4_code 6 (Option.none : Option Jvm.ClassFile.FieldType) rm_Question_begin [.ref p0, .int p1, .int p2, .int p3, .int p4] D T z L S I J RI J := by
  refine Met.ofW (cc := prog_5_method_4_code) (maxL := 6) (ret := (Option.none : Option Jvm.ClassFile.FieldType)) (by decide) rfl ?_
  intro p e s m args below meth c s₁ B hml hv
  obtain ⟨ha, hv⟩ := hv
  have hx := B.exec
  have hb := B.bytes
  have hr := B.returns
  have hts := atoms_spec (ws := .code y_Question_begin prog_5_method_4_code 6 (Option.none : Option Jvm.ClassFile.FieldType) :: ga_ws) B.pre
  have hown : s.vm.findClass "RankHouse$Question" = some m.cls := findClass_of_methodNamed B.named
  have hlocks := B.notSynchronized
  have C : CallFix p m c prog_5_method_4_code 6 s args ga_ws "RankHouse$Question" := ⟨hx, hb, hml, hown, fun w h => hts w (List.mem_cons_of_mem _ h)⟩
  have hw := ga_start hv
  have hl := lv_entry ([.ref p0, .int p1, .int p2, .int p3, .int p4]) (n := 6) (Nat.le_of_ble_eq_true rfl)
  rw [show entryFrame m args 6 = entryFrame m ([.ref p0, .int p1, .int p2, .int p3, .int p4] : List Value).toArray 6 by rw [ha], lg_entry_eq]
  generalize (lg_sl ([.ref p0, .int p1, .int p2, .int p3, .int p4]) ++ List.replicate (6 - (lg_sl ([.ref p0, .int p1, .int p2, .int p3, .int p4])).length) Slot.unset).toArray = ls at hl ⊢
  have hl : lv_has ls 6 [(0, .ref p0), (1, .int p1), (2, .int p2), (3, .int p3), (4, .int p4)] := hl
  have key : ∀ Q : State → Prop, (∀ (pc : Nat) (ls : Array Slot) (H : Heap) (locs : List Loc) (I1 : gMI), (I1) = (RI) → decode prog_5_method_4_code pc = .ok (.return_, 1) → ga_W D T z L S I1 J s H locs → W p l e rm_Question_begin s m args below meth c H locs 0 0 Q (F0 m pc ls [])) → W p l e rm_Question_begin s m args below meth c s.heap [] 0 0 Q (F0 m 0 ls []) := by
    intro Q hret
    rw [f_Question_begin] at hF
    refine lv_aload_n hx hb d_Question_begin_0 rfl (lv_at hl 0 rfl) ?_
    refine lv_iload_n hx hb d_Question_begin_1 rfl (lv_at hl 1 rfl) ?_
    obtain ⟨t1, hF⟩ := gd_ex hF
    obtain ⟨I2, eI2, hF⟩ := bnd_ex hF
    refine ga_putI C hw gp_Question_41 t1 rfl rfl eI2 d_Question_begin_2 (fun H locs hw => ?_)
    refine lv_aload_n hx hb d_Question_begin_5 rfl (lv_at hl 0 rfl) ?_
    refine lv_iload_n hx hb d_Question_begin_6 rfl (lv_at hl 2 rfl) ?_
    obtain ⟨I3, eI3, hF⟩ := bnd_ex hF
    refine ga_putI C hw gp_Question_45 t1 rfl rfl eI3 d_Question_begin_7 (fun H locs hw => ?_)
    refine lv_aload_n hx hb d_Question_begin_10 rfl (lv_at hl 0 rfl) ?_
    refine lv_iload_n hx hb d_Question_begin_11 rfl (lv_at hl 3 rfl) ?_
    obtain ⟨I4, eI4, hF⟩ := bnd_ex hF
    refine ga_putI C hw gp_Question_48 t1 rfl rfl eI4 d_Question_begin_12 (fun H locs hw => ?_)
    refine lv_aload_n hx hb d_Question_begin_15 rfl (lv_at hl 0 rfl) ?_
    refine lv_iload hx hb d_Question_begin_16 (lv_at hl 4 rfl) ?_
    obtain ⟨I5, eI5, hF⟩ := bnd_ex hF
    refine ga_putI C hw gp_Question_51 t1 rfl rfl eI5 d_Question_begin_18 (fun H locs hw => ?_)
    refine lv_aload_n hx hb d_Question_begin_21 rfl (lv_at hl 0 rfl) ?_
    refine lv_iconst (v := 0) hx hb d_Question_begin_22 (by decide) ?_
    obtain ⟨I6, eI6, hF⟩ := bnd_ex hF
    refine ga_putI C hw gp_Question_54 t1 rfl rfl eI6 d_Question_begin_23 (fun H locs hw => ?_)
    refine lv_iconst (v := 0) hx hb d_Question_begin_26 (by decide) ?_
    refine lv_istore hx hb d_Question_begin_27 hl (by decide) rfl (fun ls hl => ?_)
    have hl : lv_has ls 6 [(5, .int (0 : Int32)), (0, .ref p0), (1, .int p1), (2, .int p2), (3, .int p3), (4, .int p4)] := hl
    exact m_Question_begin_b29 hret C gFuel _ _ _ hF _ _ _ (lv_sub hl [1, 0] rfl) hw
  refine key _ (fun pc ls H locs I1 he hd hw => ?_)
  · cases he
    exact W.vret hx hb hr (fun t ht _ => ⟨⟨(), rfl, trivial, ga_o hw ht⟩, hw.2.2.2.1.F ht⟩) hw.2.2.2.1.2.2 hd
set_option maxHeartbeats 4000000 in
set_option maxRecDepth 100000 in
theorem c_Question_beginTurn (l : Launch) (D : va_G) (T : Nat → ClassId) (z : Nat) (L : List Nat) {S : gS} {I : gMI} {J : gMJ} {p0 : Nat} {p1 : Int32} {RI : gMI} (hF : f_Question_beginTurn S I J p0 p1 = some (RI)) : ga_Mv l y_Question_beginTurn prog_5_method_5_code 2 (Option.none : Option Jvm.ClassFile.FieldType) rm_Question_beginTurn [.ref p0, .int p1] D T z L S I J RI J := by
  refine Met.ofW (cc := prog_5_method_5_code) (maxL := 2) (ret := (Option.none : Option Jvm.ClassFile.FieldType)) (by decide) rfl ?_
  intro p e s m args below meth c s₁ B hml hv
  obtain ⟨ha, hv⟩ := hv
  have hx := B.exec
  have hb := B.bytes
  have hr := B.returns
  have hts := atoms_spec (ws := .code y_Question_beginTurn prog_5_method_5_code 2 (Option.none : Option Jvm.ClassFile.FieldType) :: ga_ws) B.pre
  have hown : s.vm.findClass "RankHouse$Question" = some m.cls := findClass_of_methodNamed B.named
  have hlocks := B.notSynchronized
  have C : CallFix p m c prog_5_method_5_code 2 s args ga_ws "RankHouse$Question" := ⟨hx, hb, hml, hown, fun w h => hts w (List.mem_cons_of_mem _ h)⟩
  have hw := ga_start hv
  have hl := lv_entry ([.ref p0, .int p1]) (n := 2) (Nat.le_of_ble_eq_true rfl)
  rw [show entryFrame m args 2 = entryFrame m ([.ref p0, .int p1] : List Value).toArray 2 by rw [ha], lg_entry_eq]
  generalize (lg_sl ([.ref p0, .int p1]) ++ List.replicate (2 - (lg_sl ([.ref p0, .int p1])).length) Slot.unset).toArray = ls at hl ⊢
  have hl : lv_has ls 2 [(0, .ref p0), (1, .int p1)] := hl
  have key : ∀ Q : State → Prop, (∀ (pc : Nat) (ls : Array Slot) (H : Heap) (locs : List Loc) (I1 : gMI), (I1) = (RI) → decode prog_5_method_5_code pc = .ok (.return_, 1) → ga_W D T z L S I1 J s H locs → W p l e rm_Question_beginTurn s m args below meth c H locs 0 0 Q (F0 m pc ls [])) → W p l e rm_Question_beginTurn s m args below meth c s.heap [] 0 0 Q (F0 m 0 ls []) := by
    intro Q hret
    rw [f_Question_beginTurn] at hF
    refine lv_aload_n hx hb d_Question_beginTurn_0 rfl (lv_at hl 0 rfl) ?_
    refine lv_iload_n hx hb d_Question_beginTurn_1 rfl (lv_at hl 1 rfl) ?_
    obtain ⟨t1, hF⟩ := gd_ex hF
    obtain ⟨I2, eI2, hF⟩ := bnd_ex hF
    refine ga_putI C hw gp_Question_57 t1 rfl rfl eI2 d_Question_beginTurn_2 (fun H locs hw => ?_)
    refine lv_aload_n hx hb d_Question_beginTurn_5 rfl (lv_at hl 0 rfl) ?_
    refine lv_dup hx hb d_Question_beginTurn_6 rfl ?_
    refine ga_getI C hw gf_Question_54 t1 d_Question_beginTurn_7 ?_
    refine lv_iconst (v := 1) hx hb d_Question_beginTurn_10 (by decide) ?_
    refine lv_iadd hx hb d_Question_beginTurn_11 ?_
    obtain ⟨I3, eI3, hF⟩ := bnd_ex hF
    refine ga_putI C hw gp_Question_54 t1 rfl rfl eI3 d_Question_beginTurn_12 (fun H locs hw => ?_)
    refine lv_aload_n hx hb d_Question_beginTurn_15 rfl (lv_at hl 0 rfl) ?_
    refine lv_iconst (v := 0) hx hb d_Question_beginTurn_16 (by decide) ?_
    obtain ⟨I4, eI4, hF⟩ := bnd_ex hF
    refine ga_putI C hw gp_Question_60 t1 rfl rfl eI4 d_Question_beginTurn_17 (fun H locs hw => ?_)
    refine lv_aload_n hx hb d_Question_beginTurn_20 rfl (lv_at hl 0 rfl) ?_
    refine lv_iconst (v := 0) hx hb d_Question_beginTurn_21 (by decide) ?_
    obtain ⟨I5, eI5, hF⟩ := bnd_ex hF
    refine ga_putI C hw gp_Question_63 t1 rfl rfl eI5 d_Question_beginTurn_22 (fun H locs hw => ?_)
    refine lv_aload_n hx hb d_Question_beginTurn_25 rfl (lv_at hl 0 rfl) ?_
    refine lv_iconst (v := 0) hx hb d_Question_beginTurn_26 (by decide) ?_
    obtain ⟨I6, eI6, hF⟩ := bnd_ex hF
    refine ga_putI C hw gp_Question_66 t1 rfl rfl eI6 d_Question_beginTurn_27 (fun H locs hw => ?_)
    refine lv_aload_n hx hb d_Question_beginTurn_30 rfl (lv_at hl 0 rfl) ?_
    obtain ⟨r7, hr7, hF⟩ := ob_ex hF
    refine ga_getR C hw gf_Question_31 t1 hr7 d_Question_beginTurn_31 ?_
    refine lv_iconst (v := 0) hx hb d_Question_beginTurn_34 (by decide) ?_
    obtain ⟨t8, hF⟩ := gd_ex hF
    obtain ⟨I9, eI9, hF⟩ := bnd_ex hF
    refine ga_putI C hw gp_Question_69 t8 rfl rfl eI9 d_Question_beginTurn_35 (fun H locs hw => ?_)
    refine lv_aload_n hx hb d_Question_beginTurn_38 rfl (lv_at hl 0 rfl) ?_
    refine lv_iconst (v := 0) hx hb d_Question_beginTurn_39 (by decide) ?_
    obtain ⟨I10, eI10, hF⟩ := bnd_ex hF
    refine ga_putI C hw gp_Question_72 t1 rfl rfl eI10 d_Question_beginTurn_40 (fun H locs hw => ?_)
    refine lv_aload_n hx hb d_Question_beginTurn_43 rfl (lv_at hl 0 rfl) ?_
    refine lv_iconst (v := 1) hx hb d_Question_beginTurn_44 (by decide) ?_
    obtain ⟨I11, eI11, hF⟩ := bnd_ex hF
    refine ga_putI C hw gp_Question_75 t1 rfl rfl eI11 d_Question_beginTurn_45 (fun H locs hw => ?_)
    exact hret _ _ _ _ _ (Option.some.inj hF) d_Question_beginTurn_48 hw
  refine key _ (fun pc ls H locs I1 he hd hw => ?_)
  · cases he
    exact W.vret hx hb hr (fun t ht _ => ⟨⟨(), rfl, trivial, ga_o hw ht⟩, hw.2.2.2.1.F ht⟩) hw.2.2.2.1.2.2 hd
set_option maxHeartbeats 4000000 in
set_option maxRecDepth 100000 in
theorem c_Question_beginStep (l : Launch) (D : va_G) (T : Nat → ClassId) (z : Nat) (L : List Nat) {S : gS} {I : gMI} {J : gMJ} {p0 : Nat} {RI : gMI} {RJ : gMJ} (hF : f_Question_beginStep S I J p0 = some (RI, RJ)) : ga_Mv l y_Question_beginStep prog_5_method_6_code 1 (Option.none : Option Jvm.ClassFile.FieldType) rm_Question_beginStep [.ref p0] D T z L S I J RI RJ := by
  refine Met.ofW (cc := prog_5_method_6_code) (maxL := 1) (ret := (Option.none : Option Jvm.ClassFile.FieldType)) (by decide) rfl ?_
  intro p e s m args below meth c s₁ B hml hv
  obtain ⟨ha, hv⟩ := hv
  have hx := B.exec
  have hb := B.bytes
  have hr := B.returns
  have hts := atoms_spec (ws := .code y_Question_beginStep prog_5_method_6_code 1 (Option.none : Option Jvm.ClassFile.FieldType) :: ga_ws) B.pre
  have hown : s.vm.findClass "RankHouse$Question" = some m.cls := findClass_of_methodNamed B.named
  have hlocks := B.notSynchronized
  have C : CallFix p m c prog_5_method_6_code 1 s args ga_ws "RankHouse$Question" := ⟨hx, hb, hml, hown, fun w h => hts w (List.mem_cons_of_mem _ h)⟩
  have hw := ga_start hv
  have hl := lv_entry ([.ref p0]) (n := 1) (Nat.le_of_ble_eq_true rfl)
  rw [show entryFrame m args 1 = entryFrame m ([.ref p0] : List Value).toArray 1 by rw [ha], lg_entry_eq]
  generalize (lg_sl ([.ref p0]) ++ List.replicate (1 - (lg_sl ([.ref p0])).length) Slot.unset).toArray = ls at hl ⊢
  have hl : lv_has ls 1 [(0, .ref p0)] := hl
  have key : ∀ Q : State → Prop, (∀ (pc : Nat) (ls : Array Slot) (H : Heap) (locs : List Loc) (I1 : gMI) (J1 : gMJ), (I1, J1) = (RI, RJ) → decode prog_5_method_6_code pc = .ok (.return_, 1) → ga_W D T z L S I1 J1 s H locs → W p l e rm_Question_beginStep s m args below meth c H locs 0 0 Q (F0 m pc ls [])) → W p l e rm_Question_beginStep s m args below meth c s.heap [] 0 0 Q (F0 m 0 ls []) := by
    intro Q hret
    rw [f_Question_beginStep] at hF
    refine lv_aload_n hx hb d_Question_beginStep_0 rfl (lv_at hl 0 rfl) ?_
    refine lv_dup hx hb d_Question_beginStep_1 rfl ?_
    obtain ⟨t1, hF⟩ := gd_ex hF
    refine ga_getI C hw gf_Question_60 t1 d_Question_beginStep_2 ?_
    refine lv_iconst (v := 1) hx hb d_Question_beginStep_5 (by decide) ?_
    refine lv_iadd hx hb d_Question_beginStep_6 ?_
    obtain ⟨I2, eI2, hF⟩ := bnd_ex hF
    refine ga_putI C hw gp_Question_60 t1 rfl rfl eI2 d_Question_beginStep_7 (fun H locs hw => ?_)
    refine lv_aload_n hx hb d_Question_beginStep_10 rfl (lv_at hl 0 rfl) ?_
    obtain ⟨r3, hr3, hF⟩ := ob_ex hF
    refine ga_getR C hw gf_Question_24 t1 hr3 d_Question_beginStep_11 ?_
    obtain ⟨t4, hF⟩ := gd_ex hF
    obtain ⟨I5, J6, c7, hF⟩ := bd2_ex hF
    refine ga_cVv (As := []) C hw (c_Replies_clear l D T z L c7) gy_Question_78 t4 rfl hl.1 ⟨Nat.le_of_ble_eq_true rfl, Nat.le_of_ble_eq_true rfl, rfl, rfl, Nat.le_of_ble_eq_true rfl, Nat.le_of_ble_eq_true rfl⟩ (Nat.le_of_ble_eq_true rfl) rfl d_Question_beginStep_14 (fun H locs hw => ?_)
    exact hret _ _ _ _ _ _ (Option.some.inj hF) d_Question_beginStep_17 hw
  refine key _ (fun pc ls H locs I1 J1 he hd hw => ?_)
  · cases he
    exact W.vret hx hb hr (fun t ht _ => ⟨⟨(), rfl, trivial, ga_o hw ht⟩, hw.2.2.2.1.F ht⟩) hw.2.2.2.1.2.2 hd
set_option maxHeartbeats 4000000 in
set_option maxRecDepth 100000 in
theorem c_Question_numbersAsked (l : Launch) (D : va_G) (T : Nat → ClassId) (z : Nat) (L : List Nat) {S : gS} {I : gMI} {J : gMJ} {p0 : Nat} {r : Int32} (hF : f_Question_numbersAsked S I J p0 = some (r)) : ga_Mi l y_Question_numbersAsked prog_5_method_10_code 1 (Option.some Jvm.ClassFile.FieldType.int) rm_Question_numbersAsked [.ref p0] D T z L S I J r I J := by
  refine Met.ofW (cc := prog_5_method_10_code) (maxL := 1) (ret := (Option.some Jvm.ClassFile.FieldType.int)) (by decide) rfl ?_
  intro p e s m args below meth c s₁ B hml hv
  obtain ⟨ha, hv⟩ := hv
  have hx := B.exec
  have hb := B.bytes
  have hr := B.returns
  have hts := atoms_spec (ws := .code y_Question_numbersAsked prog_5_method_10_code 1 (Option.some Jvm.ClassFile.FieldType.int) :: ga_ws) B.pre
  have hown : s.vm.findClass "RankHouse$Question" = some m.cls := findClass_of_methodNamed B.named
  have hlocks := B.notSynchronized
  have C : CallFix p m c prog_5_method_10_code 1 s args ga_ws "RankHouse$Question" := ⟨hx, hb, hml, hown, fun w h => hts w (List.mem_cons_of_mem _ h)⟩
  have hw := ga_start hv
  have hl := lv_entry ([.ref p0]) (n := 1) (Nat.le_of_ble_eq_true rfl)
  rw [show entryFrame m args 1 = entryFrame m ([.ref p0] : List Value).toArray 1 by rw [ha], lg_entry_eq]
  generalize (lg_sl ([.ref p0]) ++ List.replicate (1 - (lg_sl ([.ref p0])).length) Slot.unset).toArray = ls at hl ⊢
  have hl : lv_has ls 1 [(0, .ref p0)] := hl
  have key : ∀ Q : State → Prop, (∀ (pc : Nat) (ls : Array Slot) (H : Heap) (locs : List Loc) (x : Int32), (x) = (r) → decode prog_5_method_10_code pc = .ok (.ireturn, 1) → ga_W D T z L S I J s H locs → W p l e rm_Question_numbersAsked s m args below meth c H locs 0 0 Q (F0 m pc ls [.int x])) → W p l e rm_Question_numbersAsked s m args below meth c s.heap [] 0 0 Q (F0 m 0 ls []) := by
    intro Q hret
    rw [f_Question_numbersAsked] at hF
    refine lv_aload_n hx hb d_Question_numbersAsked_0 rfl (lv_at hl 0 rfl) ?_
    obtain ⟨t1, hF⟩ := gd_ex hF
    refine ga_getI C hw gf_Question_75 t1 d_Question_numbersAsked_1 ?_
    by_cases h2 : (I p0 5) = (1 : Int32)
    · rw [if_pos h2] at hF
      refine lv_lookup (tgt := 32) (off := 28) hx hb d_Question_numbersAsked_4 (by decide) (by rw [h2]; first | done | rfl) (by decide) ?_
      refine lv_iconst (v := 0) hx hb d_Question_numbersAsked_32 (by decide) ?_
      exact hret _ _ _ _ _ (Option.some.inj hF) d_Question_numbersAsked_33 hw
    · rw [if_neg h2] at hF
      by_cases h3 : (I p0 5) = (5 : Int32)
      · rw [if_pos h3] at hF
        refine lv_lookup (tgt := 34) (off := 30) hx hb d_Question_numbersAsked_4 (by decide) (by rw [h3]; first | done | rfl) (by decide) ?_
        refine lv_iconst (v := 3) hx hb d_Question_numbersAsked_34 (by decide) ?_
        exact hret _ _ _ _ _ (Option.some.inj hF) d_Question_numbersAsked_35 hw
      · rw [if_neg h3] at hF
        refine lv_lookup (tgt := 36) (off := 32) hx hb d_Question_numbersAsked_4 (by decide) (by rw [lv_osw h2 (by decide), lv_osw h3 (by decide)]; first | done | rfl) (by decide) ?_
        refine lv_iconst (v := 2) hx hb d_Question_numbersAsked_36 (by decide) ?_
        exact hret _ _ _ _ _ (Option.some.inj hF) d_Question_numbersAsked_37 hw
  refine key _ (fun pc ls H locs x he hd hw => ?_)
  · cases he
    exact W.iret hx hb hr (fun t ht _ => ⟨⟨_, (), rfl, rfl, ga_o hw ht⟩, hw.2.2.2.1.F ht⟩) hw.2.2.2.1.2.2 hd
set_option maxHeartbeats 4000000 in
set_option maxRecDepth 100000 in
theorem m_Question_writeAsking_b32 {zz : gMI × gMJ} (hret : ∀ (pc : Nat) (ls : Array Slot) (H : Heap) (locs : List Loc) (I1 : gMI) (J1 : gMJ), (I1, J1) = zz → decode prog_5_method_9_code pc = .ok (.return_, 1) → ga_W D T z L S I1 J1 s H locs → W p l e rm_Question_writeAsking s m args below meth c H locs 0 0 Q (F0 m pc ls [])) (C : CallFix p m c prog_5_method_9_code 4 s args ga_ws "RankHouse$Question") : ∀ (n : Nat) (I : gMI) (J : gMJ) (l0 : Nat) (l1 : Nat) (l3 : Int32), f_Question_writeAsking_b32 S n I J l0 l1 l3 = some zz → ∀ (ls : Array Slot) (H : Heap) (locs : List Loc), lv_has ls 4 [(0, .ref l0), (1, .ref l1), (3, .int l3)] → ga_W D T z L S I J s H locs → W p l e rm_Question_writeAsking s m args below meth c H locs 0 0 Q (F0 m 32 ls []) := by
  intro n
  induction n with
  | zero =>
    intro I J l0 l1 l3 hF ls H locs hl hw
    rw [f_Question_writeAsking_b32] at hF
    cases hF
  | succ n ih =>
    intro I J l0 l1 l3 hF ls H locs hl hw
    have hx := C.1
    have hb := C.2.1
    rw [f_Question_writeAsking_b32] at hF
    refine lv_iload_n hx hb d_Question_writeAsking_32 rfl (lv_at hl 2 rfl) ?_
    refine lv_aload_n hx hb d_Question_writeAsking_33 rfl (lv_at hl 0 rfl) ?_
    obtain ⟨t1, hF⟩ := gd_ex hF
    obtain ⟨x2, c3, hF⟩ := ob_ex hF
    refine ga_cVi (As := []) C hw (c_Question_numbersAsked l D T z L c3) gy_Question_106 t1 rfl hl.1 ⟨Nat.le_of_ble_eq_true rfl, Nat.le_of_ble_eq_true rfl, rfl, rfl, Nat.le_of_ble_eq_true rfl, Nat.le_of_ble_eq_true rfl⟩ (Nat.le_of_ble_eq_true rfl) rfl d_Question_writeAsking_34 (fun H locs hw => ?_)
    by_cases h4 : x2 ≤ l3
    · rw [if_pos h4] at hF
      refine lv_icmp_ge (tgt := 56) hx hb d_Question_writeAsking_37 (by decide) (fun _ => ?_) (fun hn => absurd h4 hn)
      exact hret _ _ _ _ _ _ (Option.some.inj hF) d_Question_writeAsking_56 hw
    · rw [if_neg h4] at hF
      refine lv_icmp_ge (tgt := 56) hx hb d_Question_writeAsking_37 (by decide) (fun hp => absurd hp h4) (fun _ => ?_)
      refine lv_aload_n hx hb d_Question_writeAsking_40 rfl (lv_at hl 1 rfl) ?_
      refine lv_aload_n hx hb d_Question_writeAsking_41 rfl (lv_at hl 0 rfl) ?_
      obtain ⟨r5, hr5, hF⟩ := ob_ex hF
      refine ga_getR C hw gf_Question_35 t1 hr5 d_Question_writeAsking_42 ?_
      refine lv_iload_n hx hb d_Question_writeAsking_45 rfl (lv_at hl 2 rfl) ?_
      obtain ⟨t6, hF⟩ := gd_ex hF
      obtain ⟨b7, hF⟩ := gd_ex hF
      refine ga_iald C hw t6 b7 d_Question_writeAsking_46 ?_
      obtain ⟨t8, hF⟩ := gd_ex hF
      obtain ⟨I9, c10, hF⟩ := ob_ex hF
      refine ga_cVv (As := [.int (I r5 l3.toNatClampNeg)]) C hw (c_Letter_put l D T z L c10) gy_Question_110 t8 rfl hl.1 ⟨Nat.le_of_ble_eq_true rfl, Nat.le_of_ble_eq_true rfl, rfl, rfl, Nat.le_of_ble_eq_true rfl, Nat.le_of_ble_eq_true rfl⟩ (Nat.le_of_ble_eq_true rfl) rfl d_Question_writeAsking_47 (fun H locs hw => ?_)
      obtain ⟨v11, ev11, hF⟩ := bnd_ex hF
      refine lv_iinc (k := 2) (v := v11) hx hb d_Question_writeAsking_50 hl rfl (by rw [ev11]; rfl) (by decide) rfl (fun ls hl => ?_)
      have hl : lv_has ls 4 [(3, .int v11), (0, .ref l0), (1, .ref l1)] := hl
      refine lv_goto (tgt := 32) hx hb d_Question_writeAsking_53 (by decide) ?_
      exact ih _ _ _ _ _ hF _ _ _ (lv_sub hl [1, 2, 0] rfl) hw
set_option maxHeartbeats 4000000 in
set_option maxRecDepth 100000 in
theorem c_Question_writeAsking_n (l : Launch) (D : va_G) (T : Nat → ClassId) (z : Nat) (L : List Nat) {S : gS} {I : gMI} {J : gMJ} {p0 : Nat} {p2 : Int32} {RI : gMI} {RJ : gMJ} (hF : f_Question_writeAsking S I J p0 none p2 = some (RI, RJ)) : ga_Mv l y_Question_writeAsking prog_5_method_9_code 4 (Option.none : Option Jvm.ClassFile.FieldType) rm_Question_writeAsking [.ref p0, .null, .int p2] D T z L S I J RI RJ := by
  refine Met.ofW (cc := prog_5_method_9_code) (maxL := 4) (ret := (Option.none : Option Jvm.ClassFile.FieldType)) (by decide) rfl ?_
  intro p e s m args below meth c s₁ B hml hv
  obtain ⟨ha, hv⟩ := hv
  have hx := B.exec
  have hb := B.bytes
  have hr := B.returns
  have hts := atoms_spec (ws := .code y_Question_writeAsking prog_5_method_9_code 4 (Option.none : Option Jvm.ClassFile.FieldType) :: ga_ws) B.pre
  have hown : s.vm.findClass "RankHouse$Question" = some m.cls := findClass_of_methodNamed B.named
  have hlocks := B.notSynchronized
  have C : CallFix p m c prog_5_method_9_code 4 s args ga_ws "RankHouse$Question" := ⟨hx, hb, hml, hown, fun w h => hts w (List.mem_cons_of_mem _ h)⟩
  have hw := ga_start hv
  have hl := lv_entry ([.ref p0, .null, .int p2]) (n := 4) (Nat.le_of_ble_eq_true rfl)
  rw [show entryFrame m args 4 = entryFrame m ([.ref p0, .null, .int p2] : List Value).toArray 4 by rw [ha], lg_entry_eq]
  generalize (lg_sl ([.ref p0, .null, .int p2]) ++ List.replicate (4 - (lg_sl ([.ref p0, .null, .int p2])).length) Slot.unset).toArray = ls at hl ⊢
  have hl : lv_has ls 4 [(0, .ref p0), (1, .null), (2, .int p2)] := hl
  have key : ∀ Q : State → Prop, (∀ (pc : Nat) (ls : Array Slot) (H : Heap) (locs : List Loc) (I1 : gMI) (J1 : gMJ), (I1, J1) = (RI, RJ) → decode prog_5_method_9_code pc = .ok (.return_, 1) → ga_W D T z L S I1 J1 s H locs → W p l e rm_Question_writeAsking s m args below meth c H locs 0 0 Q (F0 m pc ls [])) → W p l e rm_Question_writeAsking s m args below meth c s.heap [] 0 0 Q (F0 m 0 ls []) := by
    intro Q hret
    rw [f_Question_writeAsking] at hF
    replace hF := gm_n hF
    refine lv_aload_nN hx hb d_Question_writeAsking_0 rfl (lv_at hl 1 rfl) ?_
    refine lv_ifnonnullN hx hb d_Question_writeAsking_1 ?_
    exact hret _ _ _ _ _ _ (Option.some.inj hF) d_Question_writeAsking_4 hw
  refine key _ (fun pc ls H locs I1 J1 he hd hw => ?_)
  · cases he
    exact W.vret hx hb hr (fun t ht _ => ⟨⟨(), rfl, trivial, ga_o hw ht⟩, hw.2.2.2.1.F ht⟩) hw.2.2.2.1.2.2 hd
set_option maxHeartbeats 4000000 in
set_option maxRecDepth 100000 in
theorem c_Question_writeAsking_s (l : Launch) (D : va_G) (T : Nat → ClassId) (z : Nat) (L : List Nat) {S : gS} {I : gMI} {J : gMJ} {p0 : Nat} {r0 : Nat} {p2 : Int32} {RI : gMI} {RJ : gMJ} (hF : f_Question_writeAsking S I J p0 (some r0) p2 = some (RI, RJ)) : ga_Mv l y_Question_writeAsking prog_5_method_9_code 4 (Option.none : Option Jvm.ClassFile.FieldType) rm_Question_writeAsking [.ref p0, .ref r0, .int p2] D T z L S I J RI RJ := by
  refine Met.ofW (cc := prog_5_method_9_code) (maxL := 4) (ret := (Option.none : Option Jvm.ClassFile.FieldType)) (by decide) rfl ?_
  intro p e s m args below meth c s₁ B hml hv
  obtain ⟨ha, hv⟩ := hv
  have hx := B.exec
  have hb := B.bytes
  have hr := B.returns
  have hts := atoms_spec (ws := .code y_Question_writeAsking prog_5_method_9_code 4 (Option.none : Option Jvm.ClassFile.FieldType) :: ga_ws) B.pre
  have hown : s.vm.findClass "RankHouse$Question" = some m.cls := findClass_of_methodNamed B.named
  have hlocks := B.notSynchronized
  have C : CallFix p m c prog_5_method_9_code 4 s args ga_ws "RankHouse$Question" := ⟨hx, hb, hml, hown, fun w h => hts w (List.mem_cons_of_mem _ h)⟩
  have hw := ga_start hv
  have hl := lv_entry ([.ref p0, .ref r0, .int p2]) (n := 4) (Nat.le_of_ble_eq_true rfl)
  rw [show entryFrame m args 4 = entryFrame m ([.ref p0, .ref r0, .int p2] : List Value).toArray 4 by rw [ha], lg_entry_eq]
  generalize (lg_sl ([.ref p0, .ref r0, .int p2]) ++ List.replicate (4 - (lg_sl ([.ref p0, .ref r0, .int p2])).length) Slot.unset).toArray = ls at hl ⊢
  have hl : lv_has ls 4 [(0, .ref p0), (1, .ref r0), (2, .int p2)] := hl
  have key : ∀ Q : State → Prop, (∀ (pc : Nat) (ls : Array Slot) (H : Heap) (locs : List Loc) (I1 : gMI) (J1 : gMJ), (I1, J1) = (RI, RJ) → decode prog_5_method_9_code pc = .ok (.return_, 1) → ga_W D T z L S I1 J1 s H locs → W p l e rm_Question_writeAsking s m args below meth c H locs 0 0 Q (F0 m pc ls [])) → W p l e rm_Question_writeAsking s m args below meth c s.heap [] 0 0 Q (F0 m 0 ls []) := by
    intro Q hret
    rw [f_Question_writeAsking] at hF
    replace hF := gm_s hF
    refine lv_aload_n hx hb d_Question_writeAsking_0 rfl (lv_at hl 1 rfl) ?_
    refine lv_ifnonnull (tgt := 5) hx hb d_Question_writeAsking_1 (by decide) ?_
    refine lv_aload_n hx hb d_Question_writeAsking_5 rfl (lv_at hl 1 rfl) ?_
    refine lv_aload_n hx hb d_Question_writeAsking_6 rfl (lv_at hl 0 rfl) ?_
    obtain ⟨t1, hF⟩ := gd_ex hF
    refine ga_getI C hw gf_Question_75 t1 d_Question_writeAsking_7 ?_
    refine lv_aload_n hx hb d_Question_writeAsking_10 rfl (lv_at hl 0 rfl) ?_
    refine ga_getI C hw gf_Question_41 t1 d_Question_writeAsking_11 ?_
    refine lv_aload_n hx hb d_Question_writeAsking_14 rfl (lv_at hl 0 rfl) ?_
    refine ga_getI C hw gf_Question_54 t1 d_Question_writeAsking_15 ?_
    refine lv_aload_n hx hb d_Question_writeAsking_18 rfl (lv_at hl 0 rfl) ?_
    refine ga_getI C hw gf_Question_60 t1 d_Question_writeAsking_19 ?_
    refine lv_aload_n hx hb d_Question_writeAsking_22 rfl (lv_at hl 0 rfl) ?_
    refine ga_getI C hw gf_Question_57 t1 d_Question_writeAsking_23 ?_
    refine lv_iload_n hx hb d_Question_writeAsking_26 rfl (lv_at hl 2 rfl) ?_
    obtain ⟨t2, hF⟩ := gd_ex hF
    obtain ⟨I3, J4, c5, hF⟩ := bd2_ex hF
    refine ga_cVv (As := [.int (I p0 5), .int (I p0 6), .int (I p0 11), .int (I p0 12), .int (I p0 10), .int p2]) C hw (c_Letter_address l D T z L c5) gy_Question_102 t2 rfl hl.1 ⟨Nat.le_of_ble_eq_true rfl, Nat.le_of_ble_eq_true rfl, rfl, rfl, Nat.le_of_ble_eq_true rfl, Nat.le_of_ble_eq_true rfl⟩ (Nat.le_of_ble_eq_true rfl) rfl d_Question_writeAsking_27 (fun H locs hw => ?_)
    refine lv_iconst (v := 0) hx hb d_Question_writeAsking_30 (by decide) ?_
    refine lv_istore_n hx hb d_Question_writeAsking_31 rfl hl (by decide) rfl (fun ls hl => ?_)
    have hl : lv_has ls 4 [(3, .int (0 : Int32)), (0, .ref p0), (1, .ref r0), (2, .int p2)] := hl
    exact m_Question_writeAsking_b32 hret C gFuel _ _ _ _ _ hF _ _ _ (lv_sub hl [1, 2, 0] rfl) hw
  refine key _ (fun pc ls H locs I1 J1 he hd hw => ?_)
  · cases he
    exact W.vret hx hb hr (fun t ht _ => ⟨⟨(), rfl, trivial, ga_o hw ht⟩, hw.2.2.2.1.F ht⟩) hw.2.2.2.1.2.2 hd
theorem c_Question_writeAsking (l : Launch) (D : va_G) (T : Nat → ClassId) (z : Nat) (L : List Nat) {S : gS} {I : gMI} {J : gMJ} {p0 : Nat} {p1 : Option Nat} {p2 : Int32} {RI : gMI} {RJ : gMJ} (hF : f_Question_writeAsking S I J p0 p1 p2 = some (RI, RJ)) : ga_Mv l y_Question_writeAsking prog_5_method_9_code 4 (Option.none : Option Jvm.ClassFile.FieldType) rm_Question_writeAsking [.ref p0, va_rf p1, .int p2] D T z L S I J RI RJ := by
  cases p1 with
  | none => exact c_Question_writeAsking_n l D T z L hF
  | some r => exact c_Question_writeAsking_s l D T z L hF
set_option maxHeartbeats 4000000 in
set_option maxRecDepth 100000 in
theorem m_Question_freeze_b30 {J : gMJ} {zz : gMI} (hret : ∀ (pc : Nat) (ls : Array Slot) (H : Heap) (locs : List Loc) (I1 : gMI), (I1) = zz → decode prog_5_method_7_code pc = .ok (.return_, 1) → ga_W D T z L S I1 J s H locs → W p l e rm_Question_freeze s m args below meth c H locs 0 0 Q (F0 m pc ls [])) (C : CallFix p m c prog_5_method_7_code 3 s args ga_ws "RankHouse$Question") : ∀ (I : gMI), f_Question_freeze_b30 S J I = some zz → ∀ (ls : Array Slot) (H : Heap) (locs : List Loc), lv_has ls 3 [] → ga_W D T z L S I J s H locs → W p l e rm_Question_freeze s m args below meth c H locs 0 0 Q (F0 m 30 ls []) := by
  intro I hF ls H locs hl hw
  have hx := C.1
  have hb := C.2.1
  rw [f_Question_freeze_b30] at hF
  exact hret _ _ _ _ _ (Option.some.inj hF) d_Question_freeze_30 hw
set_option maxHeartbeats 4000000 in
set_option maxRecDepth 100000 in
theorem c_Question_freeze (l : Launch) (D : va_G) (T : Nat → ClassId) (z : Nat) (L : List Nat) {S : gS} {I : gMI} {J : gMJ} {p0 : Nat} {p1 : Int32} {p2 : Nat} {RI : gMI} (hF : f_Question_freeze S I J p0 p1 p2 = some (RI)) : ga_Mv l y_Question_freeze prog_5_method_7_code 3 (Option.none : Option Jvm.ClassFile.FieldType) rm_Question_freeze [.ref p0, .int p1, .ref p2] D T z L S I J RI J := by
  refine Met.ofW (cc := prog_5_method_7_code) (maxL := 3) (ret := (Option.none : Option Jvm.ClassFile.FieldType)) (by decide) rfl ?_
  intro p e s m args below meth c s₁ B hml hv
  obtain ⟨ha, hv⟩ := hv
  have hx := B.exec
  have hb := B.bytes
  have hr := B.returns
  have hts := atoms_spec (ws := .code y_Question_freeze prog_5_method_7_code 3 (Option.none : Option Jvm.ClassFile.FieldType) :: ga_ws) B.pre
  have hown : s.vm.findClass "RankHouse$Question" = some m.cls := findClass_of_methodNamed B.named
  have hlocks := B.notSynchronized
  have C : CallFix p m c prog_5_method_7_code 3 s args ga_ws "RankHouse$Question" := ⟨hx, hb, hml, hown, fun w h => hts w (List.mem_cons_of_mem _ h)⟩
  have hw := ga_start hv
  have hl := lv_entry ([.ref p0, .int p1, .ref p2]) (n := 3) (Nat.le_of_ble_eq_true rfl)
  rw [show entryFrame m args 3 = entryFrame m ([.ref p0, .int p1, .ref p2] : List Value).toArray 3 by rw [ha], lg_entry_eq]
  generalize (lg_sl ([.ref p0, .int p1, .ref p2]) ++ List.replicate (3 - (lg_sl ([.ref p0, .int p1, .ref p2])).length) Slot.unset).toArray = ls at hl ⊢
  have hl : lv_has ls 3 [(0, .ref p0), (1, .int p1), (2, .ref p2)] := hl
  have key : ∀ Q : State → Prop, (∀ (pc : Nat) (ls : Array Slot) (H : Heap) (locs : List Loc) (I1 : gMI), (I1) = (RI) → decode prog_5_method_7_code pc = .ok (.return_, 1) → ga_W D T z L S I1 J s H locs → W p l e rm_Question_freeze s m args below meth c H locs 0 0 Q (F0 m pc ls [])) → W p l e rm_Question_freeze s m args below meth c s.heap [] 0 0 Q (F0 m 0 ls []) := by
    intro Q hret
    rw [f_Question_freeze] at hF
    refine lv_aload_n hx hb d_Question_freeze_0 rfl (lv_at hl 0 rfl) ?_
    obtain ⟨t1, hF⟩ := gd_ex hF
    obtain ⟨r2, hr2, hF⟩ := ob_ex hF
    refine ga_getR C hw gf_Question_9 t1 hr2 d_Question_freeze_1 ?_
    refine lv_iload_n hx hb d_Question_freeze_4 rfl (lv_at hl 1 rfl) ?_
    obtain ⟨t3, hF⟩ := gd_ex hF
    obtain ⟨b4, hF⟩ := gd_ex hF
    refine ga_iald C hw t3 b4 d_Question_freeze_5 ?_
    refine lv_iconst (v := -1) hx hb d_Question_freeze_6 (by decide) ?_
    by_cases h5 : (I r2 p1.toNatClampNeg) = (-1 : Int32)
    · rw [if_pos h5] at hF
      refine lv_icmp_ne (tgt := 30) hx hb d_Question_freeze_7 (by decide) (fun hn => absurd h5 hn) (fun _ => ?_)
      refine lv_aload_n hx hb d_Question_freeze_10 rfl (lv_at hl 0 rfl) ?_
      refine ga_getR C hw gf_Question_9 t1 hr2 d_Question_freeze_11 ?_
      refine lv_iload_n hx hb d_Question_freeze_14 rfl (lv_at hl 1 rfl) ?_
      refine lv_aload_n hx hb d_Question_freeze_15 rfl (lv_at hl 2 rfl) ?_
      obtain ⟨t6, hF⟩ := gd_ex hF
      refine ga_getI C hw gf_Question_81 t6 d_Question_freeze_16 ?_
      obtain ⟨I7, eI7, hF⟩ := bnd_ex hF
      refine ga_iast C hw t3 b4 eI7 d_Question_freeze_19 (fun H locs hw => ?_)
      refine lv_aload_n hx hb d_Question_freeze_20 rfl (lv_at hl 0 rfl) ?_
      obtain ⟨r8, hr8, hF⟩ := ob_ex hF
      refine ga_getR C hw gf_Question_17 t1 hr8 d_Question_freeze_21 ?_
      refine lv_iload_n hx hb d_Question_freeze_24 rfl (lv_at hl 1 rfl) ?_
      obtain ⟨t9, hF⟩ := gd_ex hF
      obtain ⟨b10, hF⟩ := gd_ex hF
      obtain ⟨r11, hr11, hF⟩ := ob_ex hF
      refine ga_rald C hw t9 (by decide) rfl rfl b10 hr11 d_Question_freeze_25 ?_
      refine lv_aload_n hx hb d_Question_freeze_26 rfl (lv_at hl 2 rfl) ?_
      obtain ⟨t12, hF⟩ := gd_ex hF
      obtain ⟨I13, c14, hF⟩ := ob_ex hF
      refine ga_cVv (As := [.ref p2]) C hw (c_SortedRow_copy l D T z L c14) gy_Question_84 t12 rfl hl.1 ⟨Nat.le_of_ble_eq_true rfl, Nat.le_of_ble_eq_true rfl, rfl, rfl, Nat.le_of_ble_eq_true rfl, Nat.le_of_ble_eq_true rfl⟩ (Nat.le_of_ble_eq_true rfl) rfl d_Question_freeze_27 (fun H locs hw => ?_)
      exact m_Question_freeze_b30 hret C _ hF _ _ _ (lv_sub hl [] rfl) hw
    · rw [if_neg h5] at hF
      refine lv_icmp_ne (tgt := 30) hx hb d_Question_freeze_7 (by decide) (fun _ => ?_) (fun hp => absurd hp h5)
      exact m_Question_freeze_b30 hret C _ hF _ _ _ (lv_sub hl [] rfl) hw
  refine key _ (fun pc ls H locs I1 he hd hw => ?_)
  · cases he
    exact W.vret hx hb hr (fun t ht _ => ⟨⟨(), rfl, trivial, ga_o hw ht⟩, hw.2.2.2.1.F ht⟩) hw.2.2.2.1.2.2 hd
set_option maxHeartbeats 4000000 in
set_option maxRecDepth 100000 in
theorem m_Question_awaits_b60 {I : gMI} {J : gMJ} {zz : Int32} (hret : ∀ (pc : Nat) (ls : Array Slot) (H : Heap) (locs : List Loc) (x : Int32), (x) = zz → decode prog_5_method_8_code pc = .ok (.ireturn, 1) → (x = 0 ∨ x = 1) → ga_W D T z L S I J s H locs → W p l e rm_Question_awaits s m args below meth c H locs 0 0 Q (F0 m pc ls [.int x])) (C : CallFix p m c prog_5_method_8_code 2 s args ga_ws "RankHouse$Question") : ∀ (s0 : Int32), f_Question_awaits_b60 S I J s0 = some zz → ∀ (ls : Array Slot) (H : Heap) (locs : List Loc), lv_has ls 2 [] → ga_W D T z L S I J s H locs → W p l e rm_Question_awaits s m args below meth c H locs 0 0 Q (F0 m 60 ls [.int s0]) := by
  intro s0 hF ls H locs hl hw
  have hx := C.1
  have hb := C.2.1
  rw [f_Question_awaits_b60] at hF
  obtain ⟨z1, hF⟩ := gd_ex hF
  exact hret _ _ _ _ _ (Option.some.inj hF) d_Question_awaits_60 z1 hw
set_option maxHeartbeats 4000000 in
set_option maxRecDepth 100000 in
theorem m_Question_awaits_b59 {I : gMI} {J : gMJ} {zz : Int32} (hret : ∀ (pc : Nat) (ls : Array Slot) (H : Heap) (locs : List Loc) (x : Int32), (x) = zz → decode prog_5_method_8_code pc = .ok (.ireturn, 1) → (x = 0 ∨ x = 1) → ga_W D T z L S I J s H locs → W p l e rm_Question_awaits s m args below meth c H locs 0 0 Q (F0 m pc ls [.int x])) (C : CallFix p m c prog_5_method_8_code 2 s args ga_ws "RankHouse$Question") : f_Question_awaits_b59 S I J = some zz → ∀ (ls : Array Slot) (H : Heap) (locs : List Loc), lv_has ls 2 [] → ga_W D T z L S I J s H locs → W p l e rm_Question_awaits s m args below meth c H locs 0 0 Q (F0 m 59 ls []) := by
  intro hF ls H locs hl hw
  have hx := C.1
  have hb := C.2.1
  rw [f_Question_awaits_b59] at hF
  refine lv_iconst (v := 0) hx hb d_Question_awaits_59 (by decide) ?_
  exact m_Question_awaits_b60 hret C _ hF _ _ _ hl hw
set_option maxHeartbeats 4000000 in
set_option maxRecDepth 100000 in
theorem c_Question_awaits (l : Launch) (D : va_G) (T : Nat → ClassId) (z : Nat) (L : List Nat) {S : gS} {I : gMI} {J : gMJ} {p0 : Nat} {p1 : Nat} {r : Int32} (hF : f_Question_awaits S I J p0 p1 = some (r)) : ga_Mi l y_Question_awaits prog_5_method_8_code 2 (Option.some Jvm.ClassFile.FieldType.boolean) rm_Question_awaits [.ref p0, .ref p1] D T z L S I J r I J := by
  refine Met.ofW (cc := prog_5_method_8_code) (maxL := 2) (ret := (Option.some Jvm.ClassFile.FieldType.boolean)) (by decide) rfl ?_
  intro p e s m args below meth c s₁ B hml hv
  obtain ⟨ha, hv⟩ := hv
  have hx := B.exec
  have hb := B.bytes
  have hr := B.returns
  have hts := atoms_spec (ws := .code y_Question_awaits prog_5_method_8_code 2 (Option.some Jvm.ClassFile.FieldType.boolean) :: ga_ws) B.pre
  have hown : s.vm.findClass "RankHouse$Question" = some m.cls := findClass_of_methodNamed B.named
  have hlocks := B.notSynchronized
  have C : CallFix p m c prog_5_method_8_code 2 s args ga_ws "RankHouse$Question" := ⟨hx, hb, hml, hown, fun w h => hts w (List.mem_cons_of_mem _ h)⟩
  have hw := ga_start hv
  have hl := lv_entry ([.ref p0, .ref p1]) (n := 2) (Nat.le_of_ble_eq_true rfl)
  rw [show entryFrame m args 2 = entryFrame m ([.ref p0, .ref p1] : List Value).toArray 2 by rw [ha], lg_entry_eq]
  generalize (lg_sl ([.ref p0, .ref p1]) ++ List.replicate (2 - (lg_sl ([.ref p0, .ref p1])).length) Slot.unset).toArray = ls at hl ⊢
  have hl : lv_has ls 2 [(0, .ref p0), (1, .ref p1)] := hl
  have key : ∀ Q : State → Prop, (∀ (pc : Nat) (ls : Array Slot) (H : Heap) (locs : List Loc) (x : Int32), (x) = (r) → decode prog_5_method_8_code pc = .ok (.ireturn, 1) → (x = 0 ∨ x = 1) → ga_W D T z L S I J s H locs → W p l e rm_Question_awaits s m args below meth c H locs 0 0 Q (F0 m pc ls [.int x])) → W p l e rm_Question_awaits s m args below meth c s.heap [] 0 0 Q (F0 m 0 ls []) := by
    intro Q hret
    rw [f_Question_awaits] at hF
    refine lv_aload_n hx hb d_Question_awaits_0 rfl (lv_at hl 0 rfl) ?_
    obtain ⟨t1, hF⟩ := gd_ex hF
    refine ga_getI C hw gf_Question_72 t1 d_Question_awaits_1 ?_
    by_cases h2 : (I p0 14) = 0
    · rw [if_pos h2] at hF
      refine lv_if_ne (tgt := 59) hx hb d_Question_awaits_4 (by decide) (fun hn => absurd h2 hn) (fun _ => ?_)
      refine lv_aload_n hx hb d_Question_awaits_7 rfl (lv_at hl 1 rfl) ?_
      obtain ⟨t3, hF⟩ := gd_ex hF
      refine ga_getI C hw gf_Question_88 t3 d_Question_awaits_8 ?_
      refine lv_aload_n hx hb d_Question_awaits_11 rfl (lv_at hl 0 rfl) ?_
      refine ga_getI C hw gf_Question_57 t1 d_Question_awaits_12 ?_
      by_cases h4 : (I p1 8) = (I p0 10)
      · rw [if_pos h4] at hF
        refine lv_icmp_ne (tgt := 59) hx hb d_Question_awaits_15 (by decide) (fun hn => absurd h4 hn) (fun _ => ?_)
        refine lv_aload_n hx hb d_Question_awaits_18 rfl (lv_at hl 1 rfl) ?_
        refine ga_getI C hw gf_Question_93 t3 d_Question_awaits_19 ?_
        refine lv_aload_n hx hb d_Question_awaits_22 rfl (lv_at hl 0 rfl) ?_
        refine ga_getI C hw gf_Question_54 t1 d_Question_awaits_23 ?_
        by_cases h5 : (I p1 5) = (I p0 11)
        · rw [if_pos h5] at hF
          refine lv_icmp_ne (tgt := 59) hx hb d_Question_awaits_26 (by decide) (fun hn => absurd h5 hn) (fun _ => ?_)
          refine lv_aload_n hx hb d_Question_awaits_29 rfl (lv_at hl 1 rfl) ?_
          refine ga_getI C hw gf_Question_94 t3 d_Question_awaits_30 ?_
          refine lv_aload_n hx hb d_Question_awaits_33 rfl (lv_at hl 0 rfl) ?_
          refine ga_getI C hw gf_Question_60 t1 d_Question_awaits_34 ?_
          by_cases h6 : (I p1 6) = (I p0 12)
          · rw [if_pos h6] at hF
            refine lv_icmp_ne (tgt := 59) hx hb d_Question_awaits_37 (by decide) (fun hn => absurd h6 hn) (fun _ => ?_)
            refine lv_aload_n hx hb d_Question_awaits_40 rfl (lv_at hl 0 rfl) ?_
            obtain ⟨r7, hr7, hF⟩ := ob_ex hF
            refine ga_getR C hw gf_Question_24 t1 hr7 d_Question_awaits_41 ?_
            obtain ⟨t8, hF⟩ := gd_ex hF
            obtain ⟨r9, hr9, hF⟩ := ob_ex hF
            refine ga_getR C hw gf_Question_95 t8 hr9 d_Question_awaits_44 ?_
            refine lv_aload_n hx hb d_Question_awaits_47 rfl (lv_at hl 1 rfl) ?_
            refine ga_getI C hw gf_Question_99 t3 d_Question_awaits_48 ?_
            obtain ⟨t10, hF⟩ := gd_ex hF
            obtain ⟨b11, hF⟩ := gd_ex hF
            refine ga_zald C hw t10 b11 d_Question_awaits_51 ?_
            by_cases h12 : (I r9 (I p1 7).toNatClampNeg) = 0
            · rw [if_pos h12] at hF
              refine lv_if_ne (tgt := 59) hx hb d_Question_awaits_52 (by decide) (fun hn => absurd h12 hn) (fun _ => ?_)
              refine lv_iconst (v := 1) hx hb d_Question_awaits_55 (by decide) ?_
              refine lv_goto (tgt := 60) hx hb d_Question_awaits_56 (by decide) ?_
              exact m_Question_awaits_b60 hret C _ hF _ _ _ (lv_sub hl [] rfl) hw
            · rw [if_neg h12] at hF
              refine lv_if_ne (tgt := 59) hx hb d_Question_awaits_52 (by decide) (fun _ => ?_) (fun hp => absurd hp h12)
              exact m_Question_awaits_b59 hret C hF _ _ _ (lv_sub hl [] rfl) hw
          · rw [if_neg h6] at hF
            refine lv_icmp_ne (tgt := 59) hx hb d_Question_awaits_37 (by decide) (fun _ => ?_) (fun hp => absurd hp h6)
            exact m_Question_awaits_b59 hret C hF _ _ _ (lv_sub hl [] rfl) hw
        · rw [if_neg h5] at hF
          refine lv_icmp_ne (tgt := 59) hx hb d_Question_awaits_26 (by decide) (fun _ => ?_) (fun hp => absurd hp h5)
          exact m_Question_awaits_b59 hret C hF _ _ _ (lv_sub hl [] rfl) hw
      · rw [if_neg h4] at hF
        refine lv_icmp_ne (tgt := 59) hx hb d_Question_awaits_15 (by decide) (fun _ => ?_) (fun hp => absurd hp h4)
        exact m_Question_awaits_b59 hret C hF _ _ _ (lv_sub hl [] rfl) hw
    · rw [if_neg h2] at hF
      refine lv_if_ne (tgt := 59) hx hb d_Question_awaits_4 (by decide) (fun _ => ?_) (fun hp => absurd hp h2)
      exact m_Question_awaits_b59 hret C hF _ _ _ (lv_sub hl [] rfl) hw
  refine key _ (fun pc ls H locs x he hd hz hw => ?_)
  · cases he
    exact W.zret hx hb hr (ga_zb hz) (fun t ht _ => ⟨⟨_, (), rfl, rfl, ga_o hw ht⟩, hw.2.2.2.1.F ht⟩) hw.2.2.2.1.2.2 hd
set_option maxHeartbeats 4000000 in
set_option maxRecDepth 100000 in
theorem c_Question_next (l : Launch) (D : va_G) (T : Nat → ClassId) (z : Nat) (L : List Nat) {S : gS} {I : gMI} {J : gMJ} {p0 : Nat} {p1 : Int32} {p2 : Int32} {p3 : Int32} {RI : gMI} (hF : f_Question_next S I J p0 p1 p2 p3 = some (RI)) : ga_Mv l y_Question_next prog_5_method_22_code 4 (Option.none : Option Jvm.ClassFile.FieldType) rm_Question_next [.ref p0, .int p1, .int p2, .int p3] D T z L S I J RI J := by
  refine Met.ofW (cc := prog_5_method_22_code) (maxL := 4) (ret := (Option.none : Option Jvm.ClassFile.FieldType)) (by decide) rfl ?_
  intro p e s m args below meth c s₁ B hml hv
  obtain ⟨ha, hv⟩ := hv
  have hx := B.exec
  have hb := B.bytes
  have hr := B.returns
  have hts := atoms_spec (ws := .code y_Question_next prog_5_method_22_code 4 (Option.none : Option Jvm.ClassFile.FieldType) :: ga_ws) B.pre
  have hown : s.vm.findClass "RankHouse$Question" = some m.cls := findClass_of_methodNamed B.named
  have hlocks := B.notSynchronized
  have C : CallFix p m c prog_5_method_22_code 4 s args ga_ws "RankHouse$Question" := ⟨hx, hb, hml, hown, fun w h => hts w (List.mem_cons_of_mem _ h)⟩
  have hw := ga_start hv
  have hl := lv_entry ([.ref p0, .int p1, .int p2, .int p3]) (n := 4) (Nat.le_of_ble_eq_true rfl)
  rw [show entryFrame m args 4 = entryFrame m ([.ref p0, .int p1, .int p2, .int p3] : List Value).toArray 4 by rw [ha], lg_entry_eq]
  generalize (lg_sl ([.ref p0, .int p1, .int p2, .int p3]) ++ List.replicate (4 - (lg_sl ([.ref p0, .int p1, .int p2, .int p3])).length) Slot.unset).toArray = ls at hl ⊢
  have hl : lv_has ls 4 [(0, .ref p0), (1, .int p1), (2, .int p2), (3, .int p3)] := hl
  have key : ∀ Q : State → Prop, (∀ (pc : Nat) (ls : Array Slot) (H : Heap) (locs : List Loc) (I1 : gMI), (I1) = (RI) → decode prog_5_method_22_code pc = .ok (.return_, 1) → ga_W D T z L S I1 J s H locs → W p l e rm_Question_next s m args below meth c H locs 0 0 Q (F0 m pc ls [])) → W p l e rm_Question_next s m args below meth c s.heap [] 0 0 Q (F0 m 0 ls []) := by
    intro Q hret
    rw [f_Question_next] at hF
    refine lv_aload_n hx hb d_Question_next_0 rfl (lv_at hl 0 rfl) ?_
    refine lv_iload_n hx hb d_Question_next_1 rfl (lv_at hl 1 rfl) ?_
    obtain ⟨t1, hF⟩ := gd_ex hF
    obtain ⟨I2, eI2, hF⟩ := bnd_ex hF
    refine ga_putI C hw gp_Question_75 t1 rfl rfl eI2 d_Question_next_2 (fun H locs hw => ?_)
    refine lv_aload_n hx hb d_Question_next_5 rfl (lv_at hl 0 rfl) ?_
    obtain ⟨r3, hr3, hF⟩ := ob_ex hF
    refine ga_getR C hw gf_Question_35 t1 hr3 d_Question_next_6 ?_
    refine lv_iconst (v := 0) hx hb d_Question_next_9 (by decide) ?_
    refine lv_iload_n hx hb d_Question_next_10 rfl (lv_at hl 2 rfl) ?_
    obtain ⟨t4, hF⟩ := gd_ex hF
    obtain ⟨b5, hF⟩ := gd_ex hF
    obtain ⟨I6, eI6, hF⟩ := bnd_ex hF
    refine ga_iast C hw t4 b5 eI6 d_Question_next_11 (fun H locs hw => ?_)
    refine lv_aload_n hx hb d_Question_next_12 rfl (lv_at hl 0 rfl) ?_
    refine ga_getR C hw gf_Question_35 t1 hr3 d_Question_next_13 ?_
    refine lv_iconst (v := 1) hx hb d_Question_next_16 (by decide) ?_
    refine lv_iload_n hx hb d_Question_next_17 rfl (lv_at hl 3 rfl) ?_
    obtain ⟨b7, hF⟩ := gd_ex hF
    obtain ⟨I8, eI8, hF⟩ := bnd_ex hF
    refine ga_iast C hw t4 b7 eI8 d_Question_next_18 (fun H locs hw => ?_)
    exact hret _ _ _ _ _ (Option.some.inj hF) d_Question_next_19 hw
  refine key _ (fun pc ls H locs I1 he hd hw => ?_)
  · cases he
    exact W.vret hx hb hr (fun t ht _ => ⟨⟨(), rfl, trivial, ga_o hw ht⟩, hw.2.2.2.1.F ht⟩) hw.2.2.2.1.2.2 hd
set_option maxHeartbeats 4000000 in
set_option maxRecDepth 100000 in
theorem c_Question_firstRank (l : Launch) (D : va_G) (T : Nat → ClassId) (z : Nat) (L : List Nat) {S : gS} {I : gMI} {J : gMJ} {p0 : Nat} {r : Int32} (hF : f_Question_firstRank S I J p0 = some (r)) : ga_Mi l y_Question_firstRank prog_5_method_19_code 1 (Option.some Jvm.ClassFile.FieldType.int) rm_Question_firstRank [.ref p0] D T z L S I J r I J := by
  refine Met.ofW (cc := prog_5_method_19_code) (maxL := 1) (ret := (Option.some Jvm.ClassFile.FieldType.int)) (by decide) rfl ?_
  intro p e s m args below meth c s₁ B hml hv
  obtain ⟨ha, hv⟩ := hv
  have hx := B.exec
  have hb := B.bytes
  have hr := B.returns
  have hts := atoms_spec (ws := .code y_Question_firstRank prog_5_method_19_code 1 (Option.some Jvm.ClassFile.FieldType.int) :: ga_ws) B.pre
  have hown : s.vm.findClass "RankHouse$Question" = some m.cls := findClass_of_methodNamed B.named
  have hlocks := B.notSynchronized
  have C : CallFix p m c prog_5_method_19_code 1 s args ga_ws "RankHouse$Question" := ⟨hx, hb, hml, hown, fun w h => hts w (List.mem_cons_of_mem _ h)⟩
  have hw := ga_start hv
  have hl := lv_entry ([.ref p0]) (n := 1) (Nat.le_of_ble_eq_true rfl)
  rw [show entryFrame m args 1 = entryFrame m ([.ref p0] : List Value).toArray 1 by rw [ha], lg_entry_eq]
  generalize (lg_sl ([.ref p0]) ++ List.replicate (1 - (lg_sl ([.ref p0])).length) Slot.unset).toArray = ls at hl ⊢
  have hl : lv_has ls 1 [(0, .ref p0)] := hl
  have key : ∀ Q : State → Prop, (∀ (pc : Nat) (ls : Array Slot) (H : Heap) (locs : List Loc) (x : Int32), (x) = (r) → decode prog_5_method_19_code pc = .ok (.ireturn, 1) → ga_W D T z L S I J s H locs → W p l e rm_Question_firstRank s m args below meth c H locs 0 0 Q (F0 m pc ls [.int x])) → W p l e rm_Question_firstRank s m args below meth c s.heap [] 0 0 Q (F0 m 0 ls []) := by
    intro Q hret
    rw [f_Question_firstRank] at hF
    refine lv_aload_n hx hb d_Question_firstRank_0 rfl (lv_at hl 0 rfl) ?_
    obtain ⟨t1, hF⟩ := gd_ex hF
    refine ga_getI C hw gf_Question_45 t1 d_Question_firstRank_1 ?_
    by_cases h2 : (I p0 7) = (2 : Int32)
    · rw [if_pos h2] at hF
      refine lv_lookup (tgt := 32) (off := 28) hx hb d_Question_firstRank_4 (by decide) (by rw [h2]; first | done | rfl) (by decide) ?_
      refine lv_aload_n hx hb d_Question_firstRank_32 rfl (lv_at hl 0 rfl) ?_
      refine ga_getI C hw gf_Question_66 t1 d_Question_firstRank_33 ?_
      refine lv_aload_n hx hb d_Question_firstRank_36 rfl (lv_at hl 0 rfl) ?_
      refine ga_getI C hw gf_Question_48 t1 d_Question_firstRank_37 ?_
      refine lv_imul hx hb d_Question_firstRank_40 ?_
      refine lv_sipush (v := 1000) hx hb d_Question_firstRank_41 (by decide) ?_
      refine lv_idiv hx hb d_Question_firstRank_44 (by decide) ?_
      refine lv_iconst (v := 1) hx hb d_Question_firstRank_45 (by decide) ?_
      refine lv_iadd hx hb d_Question_firstRank_46 ?_
      exact hret _ _ _ _ _ (Option.some.inj hF) d_Question_firstRank_47 hw
    · rw [if_neg h2] at hF
      by_cases h3 : (I p0 7) = (4 : Int32)
      · rw [if_pos h3] at hF
        refine lv_lookup (tgt := 48) (off := 44) hx hb d_Question_firstRank_4 (by decide) (by rw [h3]; first | done | rfl) (by decide) ?_
        refine lv_iconst (v := 1) hx hb d_Question_firstRank_48 (by decide) ?_
        refine lv_aload_n hx hb d_Question_firstRank_49 rfl (lv_at hl 0 rfl) ?_
        refine ga_getI C hw gf_Question_66 t1 d_Question_firstRank_50 ?_
        refine lv_iconst (v := 1) hx hb d_Question_firstRank_53 (by decide) ?_
        refine lv_iadd hx hb d_Question_firstRank_54 ?_
        refine lv_iconst (v := 2) hx hb d_Question_firstRank_55 (by decide) ?_
        refine lv_idiv hx hb d_Question_firstRank_56 (by decide) ?_
        refine lv_aload_n hx hb d_Question_firstRank_57 rfl (lv_at hl 0 rfl) ?_
        refine ga_getI C hw gf_Question_66 t1 d_Question_firstRank_58 ?_
        refine lv_aload_n hx hb d_Question_firstRank_61 rfl (lv_at hl 0 rfl) ?_
        refine ga_getI C hw gf_Question_48 t1 d_Question_firstRank_62 ?_
        refine lv_imul hx hb d_Question_firstRank_65 ?_
        refine lv_sipush (v := 2000) hx hb d_Question_firstRank_66 (by decide) ?_
        refine lv_idiv hx hb d_Question_firstRank_69 (by decide) ?_
        refine lv_isub hx hb d_Question_firstRank_70 ?_
        refine va_mmax hx hb (C.2.2.1.trans hl.1.symm) C.2.2.2.1 (C.2.2.2.2 _ gj_Question_205) (C.2.2.2.2 _ gj_max1) (C.2.2.2.2 _ gj_math) (C.2.2.2.2 _ gj_max2) (Nat.le_of_ble_eq_true rfl) (Nat.le_of_ble_eq_true rfl) (Nat.le_of_ble_eq_true rfl) (Nat.le_of_ble_eq_true rfl) d_Question_firstRank_71 ?_
        exact hret _ _ _ _ _ (Option.some.inj hF) d_Question_firstRank_74 hw
      · rw [if_neg h3] at hF
        refine lv_lookup (tgt := 75) (off := 71) hx hb d_Question_firstRank_4 (by decide) (by rw [lv_osw h2 (by decide), lv_osw h3 (by decide)]; first | done | rfl) (by decide) ?_
        refine lv_aload_n hx hb d_Question_firstRank_75 rfl (lv_at hl 0 rfl) ?_
        refine ga_getI C hw gf_Question_48 t1 d_Question_firstRank_76 ?_
        exact hret _ _ _ _ _ (Option.some.inj hF) d_Question_firstRank_79 hw
  refine key _ (fun pc ls H locs x he hd hw => ?_)
  · cases he
    exact W.iret hx hb hr (fun t ht _ => ⟨⟨_, (), rfl, rfl, ga_o hw ht⟩, hw.2.2.2.1.F ht⟩) hw.2.2.2.1.2.2 hd
set_option maxHeartbeats 4000000 in
set_option maxRecDepth 100000 in
theorem c_Question_seekRank (l : Launch) (D : va_G) (T : Nat → ClassId) (z : Nat) (L : List Nat) {S : gS} {I : gMI} {J : gMJ} {p0 : Nat} {p1 : Int32} {p2 : Int32} {RI : gMI} (hF : f_Question_seekRank S I J p0 p1 p2 = some (RI)) : ga_Mv l y_Question_seekRank prog_5_method_21_code 3 (Option.none : Option Jvm.ClassFile.FieldType) rm_Question_seekRank [.ref p0, .int p1, .int p2] D T z L S I J RI J := by
  refine Met.ofW (cc := prog_5_method_21_code) (maxL := 3) (ret := (Option.none : Option Jvm.ClassFile.FieldType)) (by decide) rfl ?_
  intro p e s m args below meth c s₁ B hml hv
  obtain ⟨ha, hv⟩ := hv
  have hx := B.exec
  have hb := B.bytes
  have hr := B.returns
  have hts := atoms_spec (ws := .code y_Question_seekRank prog_5_method_21_code 3 (Option.none : Option Jvm.ClassFile.FieldType) :: ga_ws) B.pre
  have hown : s.vm.findClass "RankHouse$Question" = some m.cls := findClass_of_methodNamed B.named
  have hlocks := B.notSynchronized
  have C : CallFix p m c prog_5_method_21_code 3 s args ga_ws "RankHouse$Question" := ⟨hx, hb, hml, hown, fun w h => hts w (List.mem_cons_of_mem _ h)⟩
  have hw := ga_start hv
  have hl := lv_entry ([.ref p0, .int p1, .int p2]) (n := 3) (Nat.le_of_ble_eq_true rfl)
  rw [show entryFrame m args 3 = entryFrame m ([.ref p0, .int p1, .int p2] : List Value).toArray 3 by rw [ha], lg_entry_eq]
  generalize (lg_sl ([.ref p0, .int p1, .int p2]) ++ List.replicate (3 - (lg_sl ([.ref p0, .int p1, .int p2])).length) Slot.unset).toArray = ls at hl ⊢
  have hl : lv_has ls 3 [(0, .ref p0), (1, .int p1), (2, .int p2)] := hl
  have key : ∀ Q : State → Prop, (∀ (pc : Nat) (ls : Array Slot) (H : Heap) (locs : List Loc) (I1 : gMI), (I1) = (RI) → decode prog_5_method_21_code pc = .ok (.return_, 1) → ga_W D T z L S I1 J s H locs → W p l e rm_Question_seekRank s m args below meth c H locs 0 0 Q (F0 m pc ls [])) → W p l e rm_Question_seekRank s m args below meth c s.heap [] 0 0 Q (F0 m 0 ls []) := by
    intro Q hret
    rw [f_Question_seekRank] at hF
    refine lv_aload_n hx hb d_Question_seekRank_0 rfl (lv_at hl 0 rfl) ?_
    obtain ⟨t1, hF⟩ := gd_ex hF
    obtain ⟨r2, hr2, hF⟩ := ob_ex hF
    refine ga_getR C hw gf_Question_31 t1 hr2 d_Question_seekRank_1 ?_
    refine lv_iload_n hx hb d_Question_seekRank_4 rfl (lv_at hl 1 rfl) ?_
    refine lv_iload_n hx hb d_Question_seekRank_5 rfl (lv_at hl 2 rfl) ?_
    refine lv_aload_n hx hb d_Question_seekRank_6 rfl (lv_at hl 0 rfl) ?_
    refine ga_getI C hw gf_Question_66 t1 d_Question_seekRank_7 ?_
    obtain ⟨t3, hF⟩ := gd_ex hF
    obtain ⟨I4, c5, hF⟩ := ob_ex hF
    refine ga_cVv (As := [.int p1, .int p2, .int (I p0 15)]) C hw (c_Search_begin l D T z L c5) gy_Question_214 t3 rfl hl.1 ⟨Nat.le_of_ble_eq_true rfl, Nat.le_of_ble_eq_true rfl, rfl, rfl, Nat.le_of_ble_eq_true rfl, Nat.le_of_ble_eq_true rfl⟩ (Nat.le_of_ble_eq_true rfl) rfl d_Question_seekRank_10 (fun H locs hw => ?_)
    refine lv_aload_n hx hb d_Question_seekRank_13 rfl (lv_at hl 0 rfl) ?_
    refine lv_iconst (v := 3) hx hb d_Question_seekRank_14 (by decide) ?_
    refine lv_aload_n hx hb d_Question_seekRank_15 rfl (lv_at hl 0 rfl) ?_
    refine ga_getR C hw gf_Question_31 t1 hr2 d_Question_seekRank_16 ?_
    refine ga_getI C hw gf_Question_158 t3 d_Question_seekRank_19 ?_
    refine lv_aload_n hx hb d_Question_seekRank_22 rfl (lv_at hl 0 rfl) ?_
    refine ga_getR C hw gf_Question_31 t1 hr2 d_Question_seekRank_23 ?_
    refine ga_getI C hw gf_Question_161 t3 d_Question_seekRank_26 ?_
    obtain ⟨I6, c7, hF⟩ := ob_ex hF
    refine ga_cVv (As := [.int (3 : Int32), .int (I4 r2 3), .int (I4 r2 4)]) C hw (c_Question_next l D T z L c7) gy_Question_144 t1 rfl hl.1 ⟨Nat.le_of_ble_eq_true rfl, Nat.le_of_ble_eq_true rfl, rfl, rfl, Nat.le_of_ble_eq_true rfl, Nat.le_of_ble_eq_true rfl⟩ (Nat.le_of_ble_eq_true rfl) rfl d_Question_seekRank_29 (fun H locs hw => ?_)
    exact hret _ _ _ _ _ (Option.some.inj hF) d_Question_seekRank_32 hw
  refine key _ (fun pc ls H locs I1 he hd hw => ?_)
  · cases he
    exact W.vret hx hb hr (fun t ht _ => ⟨⟨(), rfl, trivial, ga_o hw ht⟩, hw.2.2.2.1.F ht⟩) hw.2.2.2.1.2.2 hd
set_option maxHeartbeats 4000000 in
set_option maxRecDepth 100000 in
theorem m_Question_afterFreeze_b102 {J : gMJ} {zz : gMI} (hret : ∀ (pc : Nat) (ls : Array Slot) (H : Heap) (locs : List Loc) (I1 : gMI), (I1) = zz → decode prog_5_method_12_code pc = .ok (.return_, 1) → ga_W D T z L S I1 J s H locs → W p l e rm_Question_afterFreeze s m args below meth c H locs 0 0 Q (F0 m pc ls [])) (C : CallFix p m c prog_5_method_12_code 1 s args ga_ws "RankHouse$Question") : ∀ (I : gMI), f_Question_afterFreeze_b102 S J I = some zz → ∀ (ls : Array Slot) (H : Heap) (locs : List Loc), lv_has ls 1 [] → ga_W D T z L S I J s H locs → W p l e rm_Question_afterFreeze s m args below meth c H locs 0 0 Q (F0 m 102 ls []) := by
  intro I hF ls H locs hl hw
  have hx := C.1
  have hb := C.2.1
  rw [f_Question_afterFreeze_b102] at hF
  exact hret _ _ _ _ _ (Option.some.inj hF) d_Question_afterFreeze_102 hw
set_option maxHeartbeats 4000000 in
set_option maxRecDepth 100000 in
theorem m_Question_afterFreeze_b37 {J : gMJ} {zz : gMI} (hret : ∀ (pc : Nat) (ls : Array Slot) (H : Heap) (locs : List Loc) (I1 : gMI), (I1) = zz → decode prog_5_method_12_code pc = .ok (.return_, 1) → ga_W D T z L S I1 J s H locs → W p l e rm_Question_afterFreeze s m args below meth c H locs 0 0 Q (F0 m pc ls [])) (C : CallFix p m c prog_5_method_12_code 1 s args ga_ws "RankHouse$Question") : ∀ (I : gMI) (l0 : Nat), f_Question_afterFreeze_b37 S J I l0 = some zz → ∀ (ls : Array Slot) (H : Heap) (locs : List Loc), lv_has ls 1 [(0, .ref l0)] → ga_W D T z L S I J s H locs → W p l e rm_Question_afterFreeze s m args below meth c H locs 0 0 Q (F0 m 37 ls []) := by
  intro I l0 hF ls H locs hl hw
  have hx := C.1
  have hb := C.2.1
  rw [f_Question_afterFreeze_b37] at hF
  refine lv_aload_n hx hb d_Question_afterFreeze_37 rfl (lv_at hl 0 rfl) ?_
  refine lv_iconst (v := 2) hx hb d_Question_afterFreeze_38 (by decide) ?_
  obtain ⟨t1, hF⟩ := gd_ex hF
  obtain ⟨I2, eI2, hF⟩ := bnd_ex hF
  refine ga_putI C hw gp_Question_72 t1 rfl rfl eI2 d_Question_afterFreeze_39 (fun H locs hw => ?_)
  refine lv_goto (tgt := 102) hx hb d_Question_afterFreeze_42 (by decide) ?_
  exact m_Question_afterFreeze_b102 hret C _ hF _ _ _ (lv_sub hl [] rfl) hw
set_option maxHeartbeats 4000000 in
set_option maxRecDepth 100000 in
theorem m_Question_afterFreeze_b45 {J : gMJ} {zz : gMI} (hret : ∀ (pc : Nat) (ls : Array Slot) (H : Heap) (locs : List Loc) (I1 : gMI), (I1) = zz → decode prog_5_method_12_code pc = .ok (.return_, 1) → ga_W D T z L S I1 J s H locs → W p l e rm_Question_afterFreeze s m args below meth c H locs 0 0 Q (F0 m pc ls [])) (C : CallFix p m c prog_5_method_12_code 1 s args ga_ws "RankHouse$Question") : ∀ (I : gMI) (l0 : Nat), f_Question_afterFreeze_b45 S J I l0 = some zz → ∀ (ls : Array Slot) (H : Heap) (locs : List Loc), lv_has ls 1 [(0, .ref l0)] → ga_W D T z L S I J s H locs → W p l e rm_Question_afterFreeze s m args below meth c H locs 0 0 Q (F0 m 45 ls []) := by
  intro I l0 hF ls H locs hl hw
  have hx := C.1
  have hb := C.2.1
  rw [f_Question_afterFreeze_b45] at hF
  refine lv_aload_n hx hb d_Question_afterFreeze_45 rfl (lv_at hl 0 rfl) ?_
  obtain ⟨t1, hF⟩ := gd_ex hF
  refine ga_getI C hw gf_Question_45 t1 d_Question_afterFreeze_46 ?_
  refine lv_iconst (v := 1) hx hb d_Question_afterFreeze_49 (by decide) ?_
  by_cases h2 : (I l0 7) = (1 : Int32)
  · rw [if_pos h2] at hF
    refine lv_icmp_ne (tgt := 70) hx hb d_Question_afterFreeze_50 (by decide) (fun hn => absurd h2 hn) (fun _ => ?_)
    refine lv_aload_n hx hb d_Question_afterFreeze_53 rfl (lv_at hl 0 rfl) ?_
    refine lv_bipush (v := 9) hx hb d_Question_afterFreeze_54 (by decide) ?_
    refine lv_aload_n hx hb d_Question_afterFreeze_56 rfl (lv_at hl 0 rfl) ?_
    refine ga_getI C hw gf_Question_48 t1 d_Question_afterFreeze_57 ?_
    refine lv_aload_n hx hb d_Question_afterFreeze_60 rfl (lv_at hl 0 rfl) ?_
    refine ga_getI C hw gf_Question_51 t1 d_Question_afterFreeze_61 ?_
    obtain ⟨I10, c11, hF⟩ := ob_ex hF
    refine ga_cVv (As := [.int (9 : Int32), .int (I l0 8), .int (I l0 9)]) C hw (c_Question_next l D T z L c11) gy_Question_144 t1 rfl hl.1 ⟨Nat.le_of_ble_eq_true rfl, Nat.le_of_ble_eq_true rfl, rfl, rfl, Nat.le_of_ble_eq_true rfl, Nat.le_of_ble_eq_true rfl⟩ (Nat.le_of_ble_eq_true rfl) rfl d_Question_afterFreeze_64 (fun H locs hw => ?_)
    refine lv_goto (tgt := 102) hx hb d_Question_afterFreeze_67 (by decide) ?_
    exact m_Question_afterFreeze_b102 hret C _ hF _ _ _ (lv_sub hl [] rfl) hw
  · rw [if_neg h2] at hF
    refine lv_icmp_ne (tgt := 70) hx hb d_Question_afterFreeze_50 (by decide) (fun _ => ?_) (fun hp => absurd hp h2)
    refine lv_aload_n hx hb d_Question_afterFreeze_70 rfl (lv_at hl 0 rfl) ?_
    refine ga_getI C hw gf_Question_45 t1 d_Question_afterFreeze_71 ?_
    refine lv_iconst (v := 3) hx hb d_Question_afterFreeze_74 (by decide) ?_
    by_cases h3 : (I l0 7) = (3 : Int32)
    · rw [if_pos h3] at hF
      refine lv_icmp_ne (tgt := 93) hx hb d_Question_afterFreeze_75 (by decide) (fun hn => absurd h3 hn) (fun _ => ?_)
      refine lv_aload_n hx hb d_Question_afterFreeze_78 rfl (lv_at hl 0 rfl) ?_
      refine lv_bipush (v := 9) hx hb d_Question_afterFreeze_79 (by decide) ?_
      refine lv_ldc hx hb C.2.2.2.1 (C.2.2.2.2 _ gk_Question_150) d_Question_afterFreeze_81 ?_
      refine lv_aload_n hx hb d_Question_afterFreeze_83 rfl (lv_at hl 0 rfl) ?_
      refine ga_getI C hw gf_Question_48 t1 d_Question_afterFreeze_84 ?_
      obtain ⟨I8, c9, hF⟩ := ob_ex hF
      refine ga_cVv (As := [.int (9 : Int32), .int (-2147483648 : Int32), .int (I l0 8)]) C hw (c_Question_next l D T z L c9) gy_Question_144 t1 rfl hl.1 ⟨Nat.le_of_ble_eq_true rfl, Nat.le_of_ble_eq_true rfl, rfl, rfl, Nat.le_of_ble_eq_true rfl, Nat.le_of_ble_eq_true rfl⟩ (Nat.le_of_ble_eq_true rfl) rfl d_Question_afterFreeze_87 (fun H locs hw => ?_)
      refine lv_goto (tgt := 102) hx hb d_Question_afterFreeze_90 (by decide) ?_
      exact m_Question_afterFreeze_b102 hret C _ hF _ _ _ (lv_sub hl [] rfl) hw
    · rw [if_neg h3] at hF
      refine lv_icmp_ne (tgt := 93) hx hb d_Question_afterFreeze_75 (by decide) (fun _ => ?_) (fun hp => absurd hp h3)
      refine lv_aload_n hx hb d_Question_afterFreeze_93 rfl (lv_at hl 0 rfl) ?_
      refine lv_aload_n hx hb d_Question_afterFreeze_94 rfl (lv_at hl 0 rfl) ?_
      obtain ⟨x4, c5, hF⟩ := ob_ex hF
      refine ga_cVi (As := []) C hw (c_Question_firstRank l D T z L c5) gy_Question_151 t1 rfl hl.1 ⟨Nat.le_of_ble_eq_true rfl, Nat.le_of_ble_eq_true rfl, rfl, rfl, Nat.le_of_ble_eq_true rfl, Nat.le_of_ble_eq_true rfl⟩ (Nat.le_of_ble_eq_true rfl) rfl d_Question_afterFreeze_95 (fun H locs hw => ?_)
      refine lv_iconst (v := 0) hx hb d_Question_afterFreeze_98 (by decide) ?_
      obtain ⟨I6, c7, hF⟩ := ob_ex hF
      refine ga_cVv (As := [.int x4, .int (0 : Int32)]) C hw (c_Question_seekRank l D T z L c7) gy_Question_154 t1 rfl hl.1 ⟨Nat.le_of_ble_eq_true rfl, Nat.le_of_ble_eq_true rfl, rfl, rfl, Nat.le_of_ble_eq_true rfl, Nat.le_of_ble_eq_true rfl⟩ (Nat.le_of_ble_eq_true rfl) rfl d_Question_afterFreeze_99 (fun H locs hw => ?_)
      exact m_Question_afterFreeze_b102 hret C _ hF _ _ _ (lv_sub hl [] rfl) hw
set_option maxHeartbeats 4000000 in
set_option maxRecDepth 100000 in
theorem c_Question_afterFreeze (l : Launch) (D : va_G) (T : Nat → ClassId) (z : Nat) (L : List Nat) {S : gS} {I : gMI} {J : gMJ} {p0 : Nat} {RI : gMI} (hF : f_Question_afterFreeze S I J p0 = some (RI)) : ga_Mv l y_Question_afterFreeze prog_5_method_12_code 1 (Option.none : Option Jvm.ClassFile.FieldType) rm_Question_afterFreeze [.ref p0] D T z L S I J RI J := by
  refine Met.ofW (cc := prog_5_method_12_code) (maxL := 1) (ret := (Option.none : Option Jvm.ClassFile.FieldType)) (by decide) rfl ?_
  intro p e s m args below meth c s₁ B hml hv
  obtain ⟨ha, hv⟩ := hv
  have hx := B.exec
  have hb := B.bytes
  have hr := B.returns
  have hts := atoms_spec (ws := .code y_Question_afterFreeze prog_5_method_12_code 1 (Option.none : Option Jvm.ClassFile.FieldType) :: ga_ws) B.pre
  have hown : s.vm.findClass "RankHouse$Question" = some m.cls := findClass_of_methodNamed B.named
  have hlocks := B.notSynchronized
  have C : CallFix p m c prog_5_method_12_code 1 s args ga_ws "RankHouse$Question" := ⟨hx, hb, hml, hown, fun w h => hts w (List.mem_cons_of_mem _ h)⟩
  have hw := ga_start hv
  have hl := lv_entry ([.ref p0]) (n := 1) (Nat.le_of_ble_eq_true rfl)
  rw [show entryFrame m args 1 = entryFrame m ([.ref p0] : List Value).toArray 1 by rw [ha], lg_entry_eq]
  generalize (lg_sl ([.ref p0]) ++ List.replicate (1 - (lg_sl ([.ref p0])).length) Slot.unset).toArray = ls at hl ⊢
  have hl : lv_has ls 1 [(0, .ref p0)] := hl
  have key : ∀ Q : State → Prop, (∀ (pc : Nat) (ls : Array Slot) (H : Heap) (locs : List Loc) (I1 : gMI), (I1) = (RI) → decode prog_5_method_12_code pc = .ok (.return_, 1) → ga_W D T z L S I1 J s H locs → W p l e rm_Question_afterFreeze s m args below meth c H locs 0 0 Q (F0 m pc ls [])) → W p l e rm_Question_afterFreeze s m args below meth c s.heap [] 0 0 Q (F0 m 0 ls []) := by
    intro Q hret
    rw [f_Question_afterFreeze] at hF
    refine lv_aload_n hx hb d_Question_afterFreeze_0 rfl (lv_at hl 0 rfl) ?_
    refine lv_aload_n hx hb d_Question_afterFreeze_1 rfl (lv_at hl 0 rfl) ?_
    obtain ⟨t1, hF⟩ := gd_ex hF
    obtain ⟨r2, hr2, hF⟩ := ob_ex hF
    refine ga_getR C hw gf_Question_24 t1 hr2 d_Question_afterFreeze_2 ?_
    refine lv_iconst (v := 0) hx hb d_Question_afterFreeze_5 (by decide) ?_
    obtain ⟨t3, hF⟩ := gd_ex hF
    obtain ⟨x4, c5, hF⟩ := ob_ex hF
    refine ga_cVi (As := [.int (0 : Int32)]) C hw (c_Replies_total l D T z L c5) gy_Question_142 t3 rfl hl.1 ⟨Nat.le_of_ble_eq_true rfl, Nat.le_of_ble_eq_true rfl, rfl, rfl, Nat.le_of_ble_eq_true rfl, Nat.le_of_ble_eq_true rfl⟩ (Nat.le_of_ble_eq_true rfl) rfl d_Question_afterFreeze_6 (fun H locs hw => ?_)
    obtain ⟨I6, eI6, hF⟩ := bnd_ex hF
    refine ga_putI C hw gp_Question_66 t1 rfl rfl eI6 d_Question_afterFreeze_9 (fun H locs hw => ?_)
    refine lv_aload_n hx hb d_Question_afterFreeze_12 rfl (lv_at hl 0 rfl) ?_
    refine ga_getI C hw gf_Question_66 t1 d_Question_afterFreeze_13 ?_
    by_cases h7 : (I6 p0 15) = 0
    · rw [if_pos h7] at hF
      refine lv_if_eq (tgt := 37) hx hb d_Question_afterFreeze_16 (by decide) (fun _ => ?_) (fun hn => absurd h7 hn)
      exact m_Question_afterFreeze_b37 hret C _ _ hF _ _ _ hl hw
    · rw [if_neg h7] at hF
      refine lv_if_eq (tgt := 37) hx hb d_Question_afterFreeze_16 (by decide) (fun hp => absurd hp h7) (fun _ => ?_)
      refine lv_aload_n hx hb d_Question_afterFreeze_19 rfl (lv_at hl 0 rfl) ?_
      refine ga_getI C hw gf_Question_45 t1 d_Question_afterFreeze_20 ?_
      by_cases h8 : (I6 p0 7) = 0
      · rw [if_pos h8] at hF
        refine lv_if_ne (tgt := 45) hx hb d_Question_afterFreeze_23 (by decide) (fun hn => absurd h8 hn) (fun _ => ?_)
        refine lv_aload_n hx hb d_Question_afterFreeze_26 rfl (lv_at hl 0 rfl) ?_
        refine ga_getI C hw gf_Question_48 t1 d_Question_afterFreeze_27 ?_
        refine lv_aload_n hx hb d_Question_afterFreeze_30 rfl (lv_at hl 0 rfl) ?_
        refine ga_getI C hw gf_Question_66 t1 d_Question_afterFreeze_31 ?_
        by_cases h9 : (I6 p0 8) ≤ (I6 p0 15)
        · rw [if_pos h9] at hF
          refine lv_icmp_le (tgt := 45) hx hb d_Question_afterFreeze_34 (by decide) (fun _ => ?_) (fun hn => absurd h9 hn)
          exact m_Question_afterFreeze_b45 hret C _ _ hF _ _ _ hl hw
        · rw [if_neg h9] at hF
          refine lv_icmp_le (tgt := 45) hx hb d_Question_afterFreeze_34 (by decide) (fun hp => absurd hp h9) (fun _ => ?_)
          exact m_Question_afterFreeze_b37 hret C _ _ hF _ _ _ hl hw
      · rw [if_neg h8] at hF
        refine lv_if_ne (tgt := 45) hx hb d_Question_afterFreeze_23 (by decide) (fun _ => ?_) (fun hp => absurd hp h8)
        exact m_Question_afterFreeze_b45 hret C _ _ hF _ _ _ hl hw
  refine key _ (fun pc ls H locs I1 he hd hw => ?_)
  · cases he
    exact W.vret hx hb hr (fun t ht _ => ⟨⟨(), rfl, trivial, ga_o hw ht⟩, hw.2.2.2.1.F ht⟩) hw.2.2.2.1.2.2 hd
set_option maxHeartbeats 4000000 in
set_option maxRecDepth 100000 in
theorem m_Question_afterSplit_b103 {J : gMJ} {zz : gMI} (hret : ∀ (pc : Nat) (ls : Array Slot) (H : Heap) (locs : List Loc) (I1 : gMI), (I1) = zz → decode prog_5_method_13_code pc = .ok (.return_, 1) → ga_W D T z L S I1 J s H locs → W p l e rm_Question_afterSplit s m args below meth c H locs 0 0 Q (F0 m pc ls [])) (C : CallFix p m c prog_5_method_13_code 1 s args ga_ws "RankHouse$Question") : ∀ (I : gMI), f_Question_afterSplit_b103 S J I = some zz → ∀ (ls : Array Slot) (H : Heap) (locs : List Loc), lv_has ls 1 [] → ga_W D T z L S I J s H locs → W p l e rm_Question_afterSplit s m args below meth c H locs 0 0 Q (F0 m 103 ls []) := by
  intro I hF ls H locs hl hw
  have hx := C.1
  have hb := C.2.1
  rw [f_Question_afterSplit_b103] at hF
  exact hret _ _ _ _ _ (Option.some.inj hF) d_Question_afterSplit_103 hw
set_option maxHeartbeats 4000000 in
set_option maxRecDepth 100000 in
theorem c_Question_afterSplit (l : Launch) (D : va_G) (T : Nat → ClassId) (z : Nat) (L : List Nat) {S : gS} {I : gMI} {J : gMJ} {p0 : Nat} {RI : gMI} (hF : f_Question_afterSplit S I J p0 = some (RI)) : ga_Mv l y_Question_afterSplit prog_5_method_13_code 1 (Option.none : Option Jvm.ClassFile.FieldType) rm_Question_afterSplit [.ref p0] D T z L S I J RI J := by
  refine Met.ofW (cc := prog_5_method_13_code) (maxL := 1) (ret := (Option.none : Option Jvm.ClassFile.FieldType)) (by decide) rfl ?_
  intro p e s m args below meth c s₁ B hml hv
  obtain ⟨ha, hv⟩ := hv
  have hx := B.exec
  have hb := B.bytes
  have hr := B.returns
  have hts := atoms_spec (ws := .code y_Question_afterSplit prog_5_method_13_code 1 (Option.none : Option Jvm.ClassFile.FieldType) :: ga_ws) B.pre
  have hown : s.vm.findClass "RankHouse$Question" = some m.cls := findClass_of_methodNamed B.named
  have hlocks := B.notSynchronized
  have C : CallFix p m c prog_5_method_13_code 1 s args ga_ws "RankHouse$Question" := ⟨hx, hb, hml, hown, fun w h => hts w (List.mem_cons_of_mem _ h)⟩
  have hw := ga_start hv
  have hl := lv_entry ([.ref p0]) (n := 1) (Nat.le_of_ble_eq_true rfl)
  rw [show entryFrame m args 1 = entryFrame m ([.ref p0] : List Value).toArray 1 by rw [ha], lg_entry_eq]
  generalize (lg_sl ([.ref p0]) ++ List.replicate (1 - (lg_sl ([.ref p0])).length) Slot.unset).toArray = ls at hl ⊢
  have hl : lv_has ls 1 [(0, .ref p0)] := hl
  have key : ∀ Q : State → Prop, (∀ (pc : Nat) (ls : Array Slot) (H : Heap) (locs : List Loc) (I1 : gMI), (I1) = (RI) → decode prog_5_method_13_code pc = .ok (.return_, 1) → ga_W D T z L S I1 J s H locs → W p l e rm_Question_afterSplit s m args below meth c H locs 0 0 Q (F0 m pc ls [])) → W p l e rm_Question_afterSplit s m args below meth c s.heap [] 0 0 Q (F0 m 0 ls []) := by
    intro Q hret
    rw [f_Question_afterSplit] at hF
    refine lv_aload_n hx hb d_Question_afterSplit_0 rfl (lv_at hl 0 rfl) ?_
    obtain ⟨t1, hF⟩ := gd_ex hF
    obtain ⟨r2, hr2, hF⟩ := ob_ex hF
    refine ga_getR C hw gf_Question_31 t1 hr2 d_Question_afterSplit_1 ?_
    refine lv_aload_n hx hb d_Question_afterSplit_4 rfl (lv_at hl 0 rfl) ?_
    obtain ⟨r3, hr3, hF⟩ := ob_ex hF
    refine ga_getR C hw gf_Question_24 t1 hr3 d_Question_afterSplit_5 ?_
    refine lv_iconst (v := 0) hx hb d_Question_afterSplit_8 (by decide) ?_
    obtain ⟨t4, hF⟩ := gd_ex hF
    obtain ⟨x5, c6, hF⟩ := ob_ex hF
    refine ga_cVi (As := [.int (0 : Int32)]) C hw (c_Replies_total l D T z L c6) gy_Question_142 t4 rfl hl.1 ⟨Nat.le_of_ble_eq_true rfl, Nat.le_of_ble_eq_true rfl, rfl, rfl, Nat.le_of_ble_eq_true rfl, Nat.le_of_ble_eq_true rfl⟩ (Nat.le_of_ble_eq_true rfl) rfl d_Question_afterSplit_9 (fun H locs hw => ?_)
    obtain ⟨t7, hF⟩ := gd_ex hF
    obtain ⟨I8, eI8, hF⟩ := bnd_ex hF
    refine ga_putI C hw gp_Question_69 t7 rfl rfl eI8 d_Question_afterSplit_12 (fun H locs hw => ?_)
    refine lv_aload_n hx hb d_Question_afterSplit_15 rfl (lv_at hl 0 rfl) ?_
    refine ga_getR C hw gf_Question_31 t1 hr2 d_Question_afterSplit_16 ?_
    refine ga_getI C hw gf_Question_69 t7 d_Question_afterSplit_19 ?_
    refine lv_bipush (v := 64) hx hb d_Question_afterSplit_22 (by decide) ?_
    by_cases h9 : (64 : Int32) < (I8 r2 6)
    · rw [if_pos h9] at hF
      refine lv_icmp_gt (tgt := 50) hx hb d_Question_afterSplit_24 (by decide) (fun _ => ?_) (fun hn => absurd h9 hn)
      refine lv_aload_n hx hb d_Question_afterSplit_50 rfl (lv_at hl 0 rfl) ?_
      refine ga_getR C hw gf_Question_31 t1 hr2 d_Question_afterSplit_51 ?_
      refine lv_aload_n hx hb d_Question_afterSplit_54 rfl (lv_at hl 0 rfl) ?_
      refine ga_getR C hw gf_Question_24 t1 hr3 d_Question_afterSplit_55 ?_
      refine lv_aload_n hx hb d_Question_afterSplit_58 rfl (lv_at hl 0 rfl) ?_
      refine ga_getR C hw gf_Question_31 t1 hr2 d_Question_afterSplit_59 ?_
      refine ga_getI C hw gf_Question_69 t7 d_Question_afterSplit_62 ?_
      obtain ⟨x10, c11, hF⟩ := ob_ex hF
      refine ga_cVi (As := [.int (I8 r2 6)]) C hw (c_Replies_pivot l D T z L c11) gy_Question_164 t4 rfl hl.1 ⟨Nat.le_of_ble_eq_true rfl, Nat.le_of_ble_eq_true rfl, rfl, rfl, Nat.le_of_ble_eq_true rfl, Nat.le_of_ble_eq_true rfl⟩ (Nat.le_of_ble_eq_true rfl) rfl d_Question_afterSplit_65 (fun H locs hw => ?_)
      obtain ⟨I12, eI12, hF⟩ := bnd_ex hF
      refine ga_putI C hw gp_Question_167 t7 rfl rfl eI12 d_Question_afterSplit_68 (fun H locs hw => ?_)
      refine lv_aload_n hx hb d_Question_afterSplit_71 rfl (lv_at hl 0 rfl) ?_
      refine lv_iconst (v := 5) hx hb d_Question_afterSplit_72 (by decide) ?_
      refine lv_aload_n hx hb d_Question_afterSplit_73 rfl (lv_at hl 0 rfl) ?_
      refine ga_getR C hw gf_Question_31 t1 hr2 d_Question_afterSplit_74 ?_
      refine ga_getI C hw gf_Question_158 t7 d_Question_afterSplit_77 ?_
      refine lv_aload_n hx hb d_Question_afterSplit_80 rfl (lv_at hl 0 rfl) ?_
      refine ga_getR C hw gf_Question_31 t1 hr2 d_Question_afterSplit_81 ?_
      refine ga_getI C hw gf_Question_161 t7 d_Question_afterSplit_84 ?_
      obtain ⟨I13, c14, hF⟩ := ob_ex hF
      refine ga_cVv (As := [.int (5 : Int32), .int (I12 r2 3), .int (I12 r2 4)]) C hw (c_Question_next l D T z L c14) gy_Question_144 t1 rfl hl.1 ⟨Nat.le_of_ble_eq_true rfl, Nat.le_of_ble_eq_true rfl, rfl, rfl, Nat.le_of_ble_eq_true rfl, Nat.le_of_ble_eq_true rfl⟩ (Nat.le_of_ble_eq_true rfl) rfl d_Question_afterSplit_87 (fun H locs hw => ?_)
      refine lv_aload_n hx hb d_Question_afterSplit_90 rfl (lv_at hl 0 rfl) ?_
      obtain ⟨r15, hr15, hF⟩ := ob_ex hF
      refine ga_getR C hw gf_Question_35 t1 hr15 d_Question_afterSplit_91 ?_
      refine lv_iconst (v := 2) hx hb d_Question_afterSplit_94 (by decide) ?_
      refine lv_aload_n hx hb d_Question_afterSplit_95 rfl (lv_at hl 0 rfl) ?_
      refine ga_getR C hw gf_Question_31 t1 hr2 d_Question_afterSplit_96 ?_
      refine ga_getI C hw gf_Question_167 t7 d_Question_afterSplit_99 ?_
      obtain ⟨t16, hF⟩ := gd_ex hF
      obtain ⟨b17, hF⟩ := gd_ex hF
      obtain ⟨I18, eI18, hF⟩ := bnd_ex hF
      refine ga_iast C hw t16 b17 eI18 d_Question_afterSplit_102 (fun H locs hw => ?_)
      exact m_Question_afterSplit_b103 hret C _ hF _ _ _ (lv_sub hl [] rfl) hw
    · rw [if_neg h9] at hF
      refine lv_icmp_gt (tgt := 50) hx hb d_Question_afterSplit_24 (by decide) (fun hp => absurd hp h9) (fun _ => ?_)
      refine lv_aload_n hx hb d_Question_afterSplit_27 rfl (lv_at hl 0 rfl) ?_
      refine lv_bipush (v := 7) hx hb d_Question_afterSplit_28 (by decide) ?_
      refine lv_aload_n hx hb d_Question_afterSplit_30 rfl (lv_at hl 0 rfl) ?_
      refine ga_getR C hw gf_Question_31 t1 hr2 d_Question_afterSplit_31 ?_
      refine ga_getI C hw gf_Question_158 t7 d_Question_afterSplit_34 ?_
      refine lv_aload_n hx hb d_Question_afterSplit_37 rfl (lv_at hl 0 rfl) ?_
      refine ga_getR C hw gf_Question_31 t1 hr2 d_Question_afterSplit_38 ?_
      refine ga_getI C hw gf_Question_161 t7 d_Question_afterSplit_41 ?_
      obtain ⟨I19, c20, hF⟩ := ob_ex hF
      refine ga_cVv (As := [.int (7 : Int32), .int (I8 r2 3), .int (I8 r2 4)]) C hw (c_Question_next l D T z L c20) gy_Question_144 t1 rfl hl.1 ⟨Nat.le_of_ble_eq_true rfl, Nat.le_of_ble_eq_true rfl, rfl, rfl, Nat.le_of_ble_eq_true rfl, Nat.le_of_ble_eq_true rfl⟩ (Nat.le_of_ble_eq_true rfl) rfl d_Question_afterSplit_44 (fun H locs hw => ?_)
      refine lv_goto (tgt := 103) hx hb d_Question_afterSplit_47 (by decide) ?_
      exact m_Question_afterSplit_b103 hret C _ hF _ _ _ (lv_sub hl [] rfl) hw
  refine key _ (fun pc ls H locs I1 he hd hw => ?_)
  · cases he
    exact W.vret hx hb hr (fun t ht _ => ⟨⟨(), rfl, trivial, ga_o hw ht⟩, hw.2.2.2.1.F ht⟩) hw.2.2.2.1.2.2 hd
set_option maxHeartbeats 4000000 in
set_option maxRecDepth 100000 in
theorem m_Question_hasTwoRanks_b21 {I : gMI} {J : gMJ} {zz : Int32} (hret : ∀ (pc : Nat) (ls : Array Slot) (H : Heap) (locs : List Loc) (x : Int32), (x) = zz → decode prog_5_method_3_code pc = .ok (.ireturn, 1) → (x = 0 ∨ x = 1) → ga_W D T z L S I J s H locs → W p l e rm_Question_hasTwoRanks s m args below meth c H locs 0 0 Q (F0 m pc ls [.int x])) (C : CallFix p m c prog_5_method_3_code 1 s args ga_ws "RankHouse$Question") : ∀ (s0 : Int32), f_Question_hasTwoRanks_b21 S I J s0 = some zz → ∀ (ls : Array Slot) (H : Heap) (locs : List Loc), lv_has ls 1 [] → ga_W D T z L S I J s H locs → W p l e rm_Question_hasTwoRanks s m args below meth c H locs 0 0 Q (F0 m 21 ls [.int s0]) := by
  intro s0 hF ls H locs hl hw
  have hx := C.1
  have hb := C.2.1
  rw [f_Question_hasTwoRanks_b21] at hF
  obtain ⟨z1, hF⟩ := gd_ex hF
  exact hret _ _ _ _ _ (Option.some.inj hF) d_Question_hasTwoRanks_21 z1 hw
set_option maxHeartbeats 4000000 in
set_option maxRecDepth 100000 in
theorem m_Question_hasTwoRanks_b16 {I : gMI} {J : gMJ} {zz : Int32} (hret : ∀ (pc : Nat) (ls : Array Slot) (H : Heap) (locs : List Loc) (x : Int32), (x) = zz → decode prog_5_method_3_code pc = .ok (.ireturn, 1) → (x = 0 ∨ x = 1) → ga_W D T z L S I J s H locs → W p l e rm_Question_hasTwoRanks s m args below meth c H locs 0 0 Q (F0 m pc ls [.int x])) (C : CallFix p m c prog_5_method_3_code 1 s args ga_ws "RankHouse$Question") : f_Question_hasTwoRanks_b16 S I J = some zz → ∀ (ls : Array Slot) (H : Heap) (locs : List Loc), lv_has ls 1 [] → ga_W D T z L S I J s H locs → W p l e rm_Question_hasTwoRanks s m args below meth c H locs 0 0 Q (F0 m 16 ls []) := by
  intro hF ls H locs hl hw
  have hx := C.1
  have hb := C.2.1
  rw [f_Question_hasTwoRanks_b16] at hF
  refine lv_iconst (v := 1) hx hb d_Question_hasTwoRanks_16 (by decide) ?_
  refine lv_goto (tgt := 21) hx hb d_Question_hasTwoRanks_17 (by decide) ?_
  exact m_Question_hasTwoRanks_b21 hret C _ hF _ _ _ hl hw
set_option maxHeartbeats 4000000 in
set_option maxRecDepth 100000 in
theorem c_Question_hasTwoRanks (l : Launch) (D : va_G) (T : Nat → ClassId) (z : Nat) (L : List Nat) {S : gS} {I : gMI} {J : gMJ} {p0 : Nat} {r : Int32} (hF : f_Question_hasTwoRanks S I J p0 = some (r)) : ga_Mi l y_Question_hasTwoRanks prog_5_method_3_code 1 (Option.some Jvm.ClassFile.FieldType.boolean) rm_Question_hasTwoRanks [.ref p0] D T z L S I J r I J := by
  refine Met.ofW (cc := prog_5_method_3_code) (maxL := 1) (ret := (Option.some Jvm.ClassFile.FieldType.boolean)) (by decide) rfl ?_
  intro p e s m args below meth c s₁ B hml hv
  obtain ⟨ha, hv⟩ := hv
  have hx := B.exec
  have hb := B.bytes
  have hr := B.returns
  have hts := atoms_spec (ws := .code y_Question_hasTwoRanks prog_5_method_3_code 1 (Option.some Jvm.ClassFile.FieldType.boolean) :: ga_ws) B.pre
  have hown : s.vm.findClass "RankHouse$Question" = some m.cls := findClass_of_methodNamed B.named
  have hlocks := B.notSynchronized
  have C : CallFix p m c prog_5_method_3_code 1 s args ga_ws "RankHouse$Question" := ⟨hx, hb, hml, hown, fun w h => hts w (List.mem_cons_of_mem _ h)⟩
  have hw := ga_start hv
  have hl := lv_entry ([.ref p0]) (n := 1) (Nat.le_of_ble_eq_true rfl)
  rw [show entryFrame m args 1 = entryFrame m ([.ref p0] : List Value).toArray 1 by rw [ha], lg_entry_eq]
  generalize (lg_sl ([.ref p0]) ++ List.replicate (1 - (lg_sl ([.ref p0])).length) Slot.unset).toArray = ls at hl ⊢
  have hl : lv_has ls 1 [(0, .ref p0)] := hl
  have key : ∀ Q : State → Prop, (∀ (pc : Nat) (ls : Array Slot) (H : Heap) (locs : List Loc) (x : Int32), (x) = (r) → decode prog_5_method_3_code pc = .ok (.ireturn, 1) → (x = 0 ∨ x = 1) → ga_W D T z L S I J s H locs → W p l e rm_Question_hasTwoRanks s m args below meth c H locs 0 0 Q (F0 m pc ls [.int x])) → W p l e rm_Question_hasTwoRanks s m args below meth c s.heap [] 0 0 Q (F0 m 0 ls []) := by
    intro Q hret
    rw [f_Question_hasTwoRanks] at hF
    refine lv_aload_n hx hb d_Question_hasTwoRanks_0 rfl (lv_at hl 0 rfl) ?_
    obtain ⟨t1, hF⟩ := gd_ex hF
    refine ga_getI C hw gf_Question_45 t1 d_Question_hasTwoRanks_1 ?_
    refine lv_iconst (v := 2) hx hb d_Question_hasTwoRanks_4 (by decide) ?_
    by_cases h2 : (I p0 7) = (2 : Int32)
    · rw [if_pos h2] at hF
      refine lv_icmp_eq (tgt := 16) hx hb d_Question_hasTwoRanks_5 (by decide) (fun _ => ?_) (fun hn => absurd h2 hn)
      exact m_Question_hasTwoRanks_b16 hret C hF _ _ _ (lv_sub hl [] rfl) hw
    · rw [if_neg h2] at hF
      refine lv_icmp_eq (tgt := 16) hx hb d_Question_hasTwoRanks_5 (by decide) (fun hp => absurd hp h2) (fun _ => ?_)
      refine lv_aload_n hx hb d_Question_hasTwoRanks_8 rfl (lv_at hl 0 rfl) ?_
      refine ga_getI C hw gf_Question_45 t1 d_Question_hasTwoRanks_9 ?_
      refine lv_iconst (v := 4) hx hb d_Question_hasTwoRanks_12 (by decide) ?_
      by_cases h3 : (I p0 7) = (4 : Int32)
      · rw [if_pos h3] at hF
        refine lv_icmp_ne (tgt := 20) hx hb d_Question_hasTwoRanks_13 (by decide) (fun hn => absurd h3 hn) (fun _ => ?_)
        exact m_Question_hasTwoRanks_b16 hret C hF _ _ _ (lv_sub hl [] rfl) hw
      · rw [if_neg h3] at hF
        refine lv_icmp_ne (tgt := 20) hx hb d_Question_hasTwoRanks_13 (by decide) (fun _ => ?_) (fun hp => absurd hp h3)
        refine lv_iconst (v := 0) hx hb d_Question_hasTwoRanks_20 (by decide) ?_
        exact m_Question_hasTwoRanks_b21 hret C _ hF _ _ _ (lv_sub hl [] rfl) hw
  refine key _ (fun pc ls H locs x he hd hz hw => ?_)
  · cases he
    exact W.zret hx hb hr (ga_zb hz) (fun t ht _ => ⟨⟨_, (), rfl, rfl, ga_o hw ht⟩, hw.2.2.2.1.F ht⟩) hw.2.2.2.1.2.2 hd
set_option maxHeartbeats 4000000 in
set_option maxRecDepth 100000 in
theorem c_Question_conclude (l : Launch) (D : va_G) (T : Nat → ClassId) (z : Nat) (L : List Nat) {S : gS} {I : gMI} {J : gMJ} {p0 : Nat} {p1 : Int64} {RI : gMI} {RJ : gMJ} (hF : f_Question_conclude S I J p0 p1 = some (RI, RJ)) : ga_Mv l y_Question_conclude prog_5_method_23_code 3 (Option.none : Option Jvm.ClassFile.FieldType) rm_Question_conclude [.ref p0, .long p1] D T z L S I J RI RJ := by
  refine Met.ofW (cc := prog_5_method_23_code) (maxL := 3) (ret := (Option.none : Option Jvm.ClassFile.FieldType)) (by decide) rfl ?_
  intro p e s m args below meth c s₁ B hml hv
  obtain ⟨ha, hv⟩ := hv
  have hx := B.exec
  have hb := B.bytes
  have hr := B.returns
  have hts := atoms_spec (ws := .code y_Question_conclude prog_5_method_23_code 3 (Option.none : Option Jvm.ClassFile.FieldType) :: ga_ws) B.pre
  have hown : s.vm.findClass "RankHouse$Question" = some m.cls := findClass_of_methodNamed B.named
  have hlocks := B.notSynchronized
  have C : CallFix p m c prog_5_method_23_code 3 s args ga_ws "RankHouse$Question" := ⟨hx, hb, hml, hown, fun w h => hts w (List.mem_cons_of_mem _ h)⟩
  have hw := ga_start hv
  have hl := lv_entry ([.ref p0, .long p1]) (n := 3) (Nat.le_of_ble_eq_true rfl)
  rw [show entryFrame m args 3 = entryFrame m ([.ref p0, .long p1] : List Value).toArray 3 by rw [ha], lg_entry_eq]
  generalize (lg_sl ([.ref p0, .long p1]) ++ List.replicate (3 - (lg_sl ([.ref p0, .long p1])).length) Slot.unset).toArray = ls at hl ⊢
  have hl : lv_has ls 3 [(0, .ref p0), (1, .long p1)] := hl
  have key : ∀ Q : State → Prop, (∀ (pc : Nat) (ls : Array Slot) (H : Heap) (locs : List Loc) (I1 : gMI) (J1 : gMJ), (I1, J1) = (RI, RJ) → decode prog_5_method_23_code pc = .ok (.return_, 1) → ga_W D T z L S I1 J1 s H locs → W p l e rm_Question_conclude s m args below meth c H locs 0 0 Q (F0 m pc ls [])) → W p l e rm_Question_conclude s m args below meth c s.heap [] 0 0 Q (F0 m 0 ls []) := by
    intro Q hret
    rw [f_Question_conclude] at hF
    refine lv_aload_n hx hb d_Question_conclude_0 rfl (lv_at hl 0 rfl) ?_
    refine lv_iconst (v := 1) hx hb d_Question_conclude_1 (by decide) ?_
    obtain ⟨t1, hF⟩ := gd_ex hF
    obtain ⟨I2, eI2, hF⟩ := bnd_ex hF
    refine ga_putI C hw gp_Question_72 t1 rfl rfl eI2 d_Question_conclude_2 (fun H locs hw => ?_)
    refine lv_aload_n hx hb d_Question_conclude_5 rfl (lv_at hl 0 rfl) ?_
    refine lv_lload_n hx hb d_Question_conclude_6 rfl (lv_at hl 1 rfl) ?_
    obtain ⟨J3, eJ3, hF⟩ := bnd_ex hF
    refine ga_putJ C hw gp_Question_218 t1 eJ3 d_Question_conclude_7 (fun H locs hw => ?_)
    exact hret _ _ _ _ _ _ (Option.some.inj hF) d_Question_conclude_10 hw
  refine key _ (fun pc ls H locs I1 J1 he hd hw => ?_)
  · cases he
    exact W.vret hx hb hr (fun t ht _ => ⟨⟨(), rfl, trivial, ga_o hw ht⟩, hw.2.2.2.1.F ht⟩) hw.2.2.2.1.2.2 hd
set_option maxHeartbeats 4000000 in
set_option maxRecDepth 100000 in
theorem c_Question_lastRank (l : Launch) (D : va_G) (T : Nat → ClassId) (z : Nat) (L : List Nat) {S : gS} {I : gMI} {J : gMJ} {p0 : Nat} {r : Int32} (hF : f_Question_lastRank S I J p0 = some (r)) : ga_Mi l y_Question_lastRank prog_5_method_20_code 1 (Option.some Jvm.ClassFile.FieldType.int) rm_Question_lastRank [.ref p0] D T z L S I J r I J := by
  refine Met.ofW (cc := prog_5_method_20_code) (maxL := 1) (ret := (Option.some Jvm.ClassFile.FieldType.int)) (by decide) rfl ?_
  intro p e s m args below meth c s₁ B hml hv
  obtain ⟨ha, hv⟩ := hv
  have hx := B.exec
  have hb := B.bytes
  have hr := B.returns
  have hts := atoms_spec (ws := .code y_Question_lastRank prog_5_method_20_code 1 (Option.some Jvm.ClassFile.FieldType.int) :: ga_ws) B.pre
  have hown : s.vm.findClass "RankHouse$Question" = some m.cls := findClass_of_methodNamed B.named
  have hlocks := B.notSynchronized
  have C : CallFix p m c prog_5_method_20_code 1 s args ga_ws "RankHouse$Question" := ⟨hx, hb, hml, hown, fun w h => hts w (List.mem_cons_of_mem _ h)⟩
  have hw := ga_start hv
  have hl := lv_entry ([.ref p0]) (n := 1) (Nat.le_of_ble_eq_true rfl)
  rw [show entryFrame m args 1 = entryFrame m ([.ref p0] : List Value).toArray 1 by rw [ha], lg_entry_eq]
  generalize (lg_sl ([.ref p0]) ++ List.replicate (1 - (lg_sl ([.ref p0])).length) Slot.unset).toArray = ls at hl ⊢
  have hl : lv_has ls 1 [(0, .ref p0)] := hl
  have key : ∀ Q : State → Prop, (∀ (pc : Nat) (ls : Array Slot) (H : Heap) (locs : List Loc) (x : Int32), (x) = (r) → decode prog_5_method_20_code pc = .ok (.ireturn, 1) → ga_W D T z L S I J s H locs → W p l e rm_Question_lastRank s m args below meth c H locs 0 0 Q (F0 m pc ls [.int x])) → W p l e rm_Question_lastRank s m args below meth c s.heap [] 0 0 Q (F0 m 0 ls []) := by
    intro Q hret
    rw [f_Question_lastRank] at hF
    refine lv_aload_n hx hb d_Question_lastRank_0 rfl (lv_at hl 0 rfl) ?_
    obtain ⟨t1, hF⟩ := gd_ex hF
    refine ga_getI C hw gf_Question_45 t1 d_Question_lastRank_1 ?_
    by_cases h2 : (I p0 7) = (2 : Int32)
    · rw [if_pos h2] at hF
      refine lv_lookup (tgt := 32) (off := 28) hx hb d_Question_lastRank_4 (by decide) (by rw [h2]; first | done | rfl) (by decide) ?_
      refine lv_aload_n hx hb d_Question_lastRank_32 rfl (lv_at hl 0 rfl) ?_
      refine ga_getI C hw gf_Question_66 t1 d_Question_lastRank_33 ?_
      refine lv_aload_n hx hb d_Question_lastRank_36 rfl (lv_at hl 0 rfl) ?_
      refine ga_getI C hw gf_Question_66 t1 d_Question_lastRank_37 ?_
      refine lv_aload_n hx hb d_Question_lastRank_40 rfl (lv_at hl 0 rfl) ?_
      refine ga_getI C hw gf_Question_48 t1 d_Question_lastRank_41 ?_
      refine lv_imul hx hb d_Question_lastRank_44 ?_
      refine lv_sipush (v := 1000) hx hb d_Question_lastRank_45 (by decide) ?_
      refine lv_idiv hx hb d_Question_lastRank_48 (by decide) ?_
      refine lv_isub hx hb d_Question_lastRank_49 ?_
      exact hret _ _ _ _ _ (Option.some.inj hF) d_Question_lastRank_50 hw
    · rw [if_neg h2] at hF
      by_cases h3 : (I p0 7) = (4 : Int32)
      · rw [if_pos h3] at hF
        refine lv_lookup (tgt := 51) (off := 47) hx hb d_Question_lastRank_4 (by decide) (by rw [h3]; first | done | rfl) (by decide) ?_
        refine lv_aload_n hx hb d_Question_lastRank_51 rfl (lv_at hl 0 rfl) ?_
        refine ga_getI C hw gf_Question_66 t1 d_Question_lastRank_52 ?_
        refine lv_aload_n hx hb d_Question_lastRank_55 rfl (lv_at hl 0 rfl) ?_
        refine ga_getI C hw gf_Question_66 t1 d_Question_lastRank_56 ?_
        refine lv_iconst (v := 1) hx hb d_Question_lastRank_59 (by decide) ?_
        refine lv_iadd hx hb d_Question_lastRank_60 ?_
        refine lv_iconst (v := 2) hx hb d_Question_lastRank_61 (by decide) ?_
        refine lv_idiv hx hb d_Question_lastRank_62 (by decide) ?_
        refine lv_aload_n hx hb d_Question_lastRank_63 rfl (lv_at hl 0 rfl) ?_
        refine ga_getI C hw gf_Question_66 t1 d_Question_lastRank_64 ?_
        refine lv_aload_n hx hb d_Question_lastRank_67 rfl (lv_at hl 0 rfl) ?_
        refine ga_getI C hw gf_Question_48 t1 d_Question_lastRank_68 ?_
        refine lv_imul hx hb d_Question_lastRank_71 ?_
        refine lv_sipush (v := 2000) hx hb d_Question_lastRank_72 (by decide) ?_
        refine lv_idiv hx hb d_Question_lastRank_75 (by decide) ?_
        refine lv_iadd hx hb d_Question_lastRank_76 ?_
        refine va_mmin hx hb (C.2.2.1.trans hl.1.symm) C.2.2.2.1 (C.2.2.2.2 _ gj_Question_211) (C.2.2.2.2 _ gj_min1) (C.2.2.2.2 _ gj_math) (C.2.2.2.2 _ gj_min2) (Nat.le_of_ble_eq_true rfl) (Nat.le_of_ble_eq_true rfl) (Nat.le_of_ble_eq_true rfl) (Nat.le_of_ble_eq_true rfl) d_Question_lastRank_77 ?_
        exact hret _ _ _ _ _ (Option.some.inj hF) d_Question_lastRank_80 hw
      · rw [if_neg h3] at hF
        refine lv_lookup (tgt := 81) (off := 77) hx hb d_Question_lastRank_4 (by decide) (by rw [lv_osw h2 (by decide), lv_osw h3 (by decide)]; first | done | rfl) (by decide) ?_
        refine lv_aload_n hx hb d_Question_lastRank_81 rfl (lv_at hl 0 rfl) ?_
        refine ga_getI C hw gf_Question_48 t1 d_Question_lastRank_82 ?_
        exact hret _ _ _ _ _ (Option.some.inj hF) d_Question_lastRank_85 hw
  refine key _ (fun pc ls H locs x he hd hw => ?_)
  · cases he
    exact W.iret hx hb hr (fun t ht _ => ⟨⟨_, (), rfl, rfl, ga_o hw ht⟩, hw.2.2.2.1.F ht⟩) hw.2.2.2.1.2.2 hd
set_option maxHeartbeats 4000000 in
set_option maxRecDepth 100000 in
theorem m_Question_afterBothRanks_b76 {zz : gMI × gMJ} (hret : ∀ (pc : Nat) (ls : Array Slot) (H : Heap) (locs : List Loc) (I1 : gMI) (J1 : gMJ), (I1, J1) = zz → decode prog_5_method_18_code pc = .ok (.return_, 1) → ga_W D T z L S I1 J1 s H locs → W p l e rm_Question_afterBothRanks s m args below meth c H locs 0 0 Q (F0 m pc ls [])) (C : CallFix p m c prog_5_method_18_code 1 s args ga_ws "RankHouse$Question") : ∀ (I : gMI) (J : gMJ), f_Question_afterBothRanks_b76 S I J = some zz → ∀ (ls : Array Slot) (H : Heap) (locs : List Loc), lv_has ls 1 [] → ga_W D T z L S I J s H locs → W p l e rm_Question_afterBothRanks s m args below meth c H locs 0 0 Q (F0 m 76 ls []) := by
  intro I J hF ls H locs hl hw
  have hx := C.1
  have hb := C.2.1
  rw [f_Question_afterBothRanks_b76] at hF
  exact hret _ _ _ _ _ _ (Option.some.inj hF) d_Question_afterBothRanks_76 hw
set_option maxHeartbeats 4000000 in
set_option maxRecDepth 100000 in
theorem c_Question_afterBothRanks (l : Launch) (D : va_G) (T : Nat → ClassId) (z : Nat) (L : List Nat) {S : gS} {I : gMI} {J : gMJ} {p0 : Nat} {RI : gMI} {RJ : gMJ} (hF : f_Question_afterBothRanks S I J p0 = some (RI, RJ)) : ga_Mv l y_Question_afterBothRanks prog_5_method_18_code 1 (Option.none : Option Jvm.ClassFile.FieldType) rm_Question_afterBothRanks [.ref p0] D T z L S I J RI RJ := by
  refine Met.ofW (cc := prog_5_method_18_code) (maxL := 1) (ret := (Option.none : Option Jvm.ClassFile.FieldType)) (by decide) rfl ?_
  intro p e s m args below meth c s₁ B hml hv
  obtain ⟨ha, hv⟩ := hv
  have hx := B.exec
  have hb := B.bytes
  have hr := B.returns
  have hts := atoms_spec (ws := .code y_Question_afterBothRanks prog_5_method_18_code 1 (Option.none : Option Jvm.ClassFile.FieldType) :: ga_ws) B.pre
  have hown : s.vm.findClass "RankHouse$Question" = some m.cls := findClass_of_methodNamed B.named
  have hlocks := B.notSynchronized
  have C : CallFix p m c prog_5_method_18_code 1 s args ga_ws "RankHouse$Question" := ⟨hx, hb, hml, hown, fun w h => hts w (List.mem_cons_of_mem _ h)⟩
  have hw := ga_start hv
  have hl := lv_entry ([.ref p0]) (n := 1) (Nat.le_of_ble_eq_true rfl)
  rw [show entryFrame m args 1 = entryFrame m ([.ref p0] : List Value).toArray 1 by rw [ha], lg_entry_eq]
  generalize (lg_sl ([.ref p0]) ++ List.replicate (1 - (lg_sl ([.ref p0])).length) Slot.unset).toArray = ls at hl ⊢
  have hl : lv_has ls 1 [(0, .ref p0)] := hl
  have key : ∀ Q : State → Prop, (∀ (pc : Nat) (ls : Array Slot) (H : Heap) (locs : List Loc) (I1 : gMI) (J1 : gMJ), (I1, J1) = (RI, RJ) → decode prog_5_method_18_code pc = .ok (.return_, 1) → ga_W D T z L S I1 J1 s H locs → W p l e rm_Question_afterBothRanks s m args below meth c H locs 0 0 Q (F0 m pc ls [])) → W p l e rm_Question_afterBothRanks s m args below meth c s.heap [] 0 0 Q (F0 m 0 ls []) := by
    intro Q hret
    rw [f_Question_afterBothRanks] at hF
    refine lv_aload_n hx hb d_Question_afterBothRanks_0 rfl (lv_at hl 0 rfl) ?_
    obtain ⟨t1, hF⟩ := gd_ex hF
    refine ga_getI C hw gf_Question_45 t1 d_Question_afterBothRanks_1 ?_
    refine lv_iconst (v := 4) hx hb d_Question_afterBothRanks_4 (by decide) ?_
    by_cases h2 : (I p0 7) = (4 : Int32)
    · rw [if_pos h2] at hF
      refine lv_icmp_ne (tgt := 26) hx hb d_Question_afterBothRanks_5 (by decide) (fun hn => absurd h2 hn) (fun _ => ?_)
      refine lv_aload_n hx hb d_Question_afterBothRanks_8 rfl (lv_at hl 0 rfl) ?_
      refine lv_aload_n hx hb d_Question_afterBothRanks_9 rfl (lv_at hl 0 rfl) ?_
      refine ga_getI C hw gf_Question_191 t1 d_Question_afterBothRanks_10 ?_
      refine lv_i2l hx hb d_Question_afterBothRanks_13 rfl ?_
      refine lv_aload_n hx hb d_Question_afterBothRanks_14 rfl (lv_at hl 0 rfl) ?_
      refine ga_getI C hw gf_Question_184 t1 d_Question_afterBothRanks_15 ?_
      refine lv_i2l hx hb d_Question_afterBothRanks_18 rfl ?_
      refine lv_lsub hx hb d_Question_afterBothRanks_19 ?_
      obtain ⟨I13, J14, c15, hF⟩ := bd2_ex hF
      refine ga_cVv (As := [.long ((I p0 17).toInt64 - (I p0 16).toInt64)]) C hw (c_Question_conclude l D T z L c15) gy_Question_175 t1 rfl hl.1 ⟨Nat.le_of_ble_eq_true rfl, Nat.le_of_ble_eq_true rfl, rfl, rfl, Nat.le_of_ble_eq_true rfl, Nat.le_of_ble_eq_true rfl⟩ (Nat.le_of_ble_eq_true rfl) rfl d_Question_afterBothRanks_20 (fun H locs hw => ?_)
      refine lv_goto (tgt := 76) hx hb d_Question_afterBothRanks_23 (by decide) ?_
      exact m_Question_afterBothRanks_b76 hret C _ _ hF _ _ _ (lv_sub hl [] rfl) hw
    · rw [if_neg h2] at hF
      refine lv_icmp_ne (tgt := 26) hx hb d_Question_afterBothRanks_5 (by decide) (fun _ => ?_) (fun hp => absurd hp h2)
      refine lv_aload_n hx hb d_Question_afterBothRanks_26 rfl (lv_at hl 0 rfl) ?_
      refine ga_getI C hw gf_Question_184 t1 d_Question_afterBothRanks_27 ?_
      refine lv_aload_n hx hb d_Question_afterBothRanks_30 rfl (lv_at hl 0 rfl) ?_
      refine ga_getI C hw gf_Question_191 t1 d_Question_afterBothRanks_31 ?_
      by_cases h3 : (I p0 16) = (I p0 17)
      · rw [if_pos h3] at hF
        refine lv_icmp_ne (tgt := 62) hx hb d_Question_afterBothRanks_34 (by decide) (fun hn => absurd h3 hn) (fun _ => ?_)
        refine lv_aload_n hx hb d_Question_afterBothRanks_37 rfl (lv_at hl 0 rfl) ?_
        refine lv_aload_n hx hb d_Question_afterBothRanks_38 rfl (lv_at hl 0 rfl) ?_
        refine ga_getI C hw gf_Question_184 t1 d_Question_afterBothRanks_39 ?_
        refine lv_i2l hx hb d_Question_afterBothRanks_42 rfl ?_
        refine lv_aload_n hx hb d_Question_afterBothRanks_43 rfl (lv_at hl 0 rfl) ?_
        obtain ⟨x6, c7, hF⟩ := ob_ex hF
        refine ga_cVi (As := []) C hw (c_Question_lastRank l D T z L c7) gy_Question_181 t1 rfl hl.1 ⟨Nat.le_of_ble_eq_true rfl, Nat.le_of_ble_eq_true rfl, rfl, rfl, Nat.le_of_ble_eq_true rfl, Nat.le_of_ble_eq_true rfl⟩ (Nat.le_of_ble_eq_true rfl) rfl d_Question_afterBothRanks_44 (fun H locs hw => ?_)
        refine lv_aload_n hx hb d_Question_afterBothRanks_47 rfl (lv_at hl 0 rfl) ?_
        obtain ⟨x8, c9, hF⟩ := ob_ex hF
        refine ga_cVi (As := []) C hw (c_Question_firstRank l D T z L c9) gy_Question_151 t1 rfl hl.1 ⟨Nat.le_of_ble_eq_true rfl, Nat.le_of_ble_eq_true rfl, rfl, rfl, Nat.le_of_ble_eq_true rfl, Nat.le_of_ble_eq_true rfl⟩ (Nat.le_of_ble_eq_true rfl) rfl d_Question_afterBothRanks_48 (fun H locs hw => ?_)
        refine lv_isub hx hb d_Question_afterBothRanks_51 ?_
        refine lv_iconst (v := 1) hx hb d_Question_afterBothRanks_52 (by decide) ?_
        refine lv_iadd hx hb d_Question_afterBothRanks_53 ?_
        refine lv_i2l hx hb d_Question_afterBothRanks_54 rfl ?_
        refine lv_lmul hx hb d_Question_afterBothRanks_55 ?_
        obtain ⟨I10, J11, c12, hF⟩ := bd2_ex hF
        refine ga_cVv (As := [.long ((I p0 16).toInt64 * ((x6 - x8) + (1 : Int32)).toInt64)]) C hw (c_Question_conclude l D T z L c12) gy_Question_175 t1 rfl hl.1 ⟨Nat.le_of_ble_eq_true rfl, Nat.le_of_ble_eq_true rfl, rfl, rfl, Nat.le_of_ble_eq_true rfl, Nat.le_of_ble_eq_true rfl⟩ (Nat.le_of_ble_eq_true rfl) rfl d_Question_afterBothRanks_56 (fun H locs hw => ?_)
        refine lv_goto (tgt := 76) hx hb d_Question_afterBothRanks_59 (by decide) ?_
        exact m_Question_afterBothRanks_b76 hret C _ _ hF _ _ _ (lv_sub hl [] rfl) hw
      · rw [if_neg h3] at hF
        refine lv_icmp_ne (tgt := 62) hx hb d_Question_afterBothRanks_34 (by decide) (fun _ => ?_) (fun hp => absurd hp h3)
        refine lv_aload_n hx hb d_Question_afterBothRanks_62 rfl (lv_at hl 0 rfl) ?_
        refine lv_bipush (v := 11) hx hb d_Question_afterBothRanks_63 (by decide) ?_
        refine lv_aload_n hx hb d_Question_afterBothRanks_65 rfl (lv_at hl 0 rfl) ?_
        refine ga_getI C hw gf_Question_184 t1 d_Question_afterBothRanks_66 ?_
        refine lv_aload_n hx hb d_Question_afterBothRanks_69 rfl (lv_at hl 0 rfl) ?_
        refine ga_getI C hw gf_Question_191 t1 d_Question_afterBothRanks_70 ?_
        obtain ⟨I4, c5, hF⟩ := ob_ex hF
        refine ga_cVv (As := [.int (11 : Int32), .int (I p0 16), .int (I p0 17)]) C hw (c_Question_next l D T z L c5) gy_Question_144 t1 rfl hl.1 ⟨Nat.le_of_ble_eq_true rfl, Nat.le_of_ble_eq_true rfl, rfl, rfl, Nat.le_of_ble_eq_true rfl, Nat.le_of_ble_eq_true rfl⟩ (Nat.le_of_ble_eq_true rfl) rfl d_Question_afterBothRanks_73 (fun H locs hw => ?_)
        exact m_Question_afterBothRanks_b76 hret C _ _ hF _ _ _ (lv_sub hl [] rfl) hw
  refine key _ (fun pc ls H locs I1 J1 he hd hw => ?_)
  · cases he
    exact W.vret hx hb hr (fun t ht _ => ⟨⟨(), rfl, trivial, ga_o hw ht⟩, hw.2.2.2.1.F ht⟩) hw.2.2.2.1.2.2 hd
set_option maxHeartbeats 4000000 in
set_option maxRecDepth 100000 in
theorem m_Question_settle_b52 {zz : gMI × gMJ} (hret : ∀ (pc : Nat) (ls : Array Slot) (H : Heap) (locs : List Loc) (I1 : gMI) (J1 : gMJ), (I1, J1) = zz → decode prog_5_method_17_code pc = .ok (.return_, 1) → ga_W D T z L S I1 J1 s H locs → W p l e rm_Question_settle s m args below meth c H locs 0 0 Q (F0 m pc ls [])) (C : CallFix p m c prog_5_method_17_code 2 s args ga_ws "RankHouse$Question") : ∀ (I : gMI) (J : gMJ), f_Question_settle_b52 S I J = some zz → ∀ (ls : Array Slot) (H : Heap) (locs : List Loc), lv_has ls 2 [] → ga_W D T z L S I J s H locs → W p l e rm_Question_settle s m args below meth c H locs 0 0 Q (F0 m 52 ls []) := by
  intro I J hF ls H locs hl hw
  have hx := C.1
  have hb := C.2.1
  rw [f_Question_settle_b52] at hF
  exact hret _ _ _ _ _ _ (Option.some.inj hF) d_Question_settle_52 hw
set_option maxHeartbeats 4000000 in
set_option maxRecDepth 100000 in
theorem c_Question_settle (l : Launch) (D : va_G) (T : Nat → ClassId) (z : Nat) (L : List Nat) {S : gS} {I : gMI} {J : gMJ} {p0 : Nat} {p1 : Int32} {RI : gMI} {RJ : gMJ} (hF : f_Question_settle S I J p0 p1 = some (RI, RJ)) : ga_Mv l y_Question_settle prog_5_method_17_code 2 (Option.none : Option Jvm.ClassFile.FieldType) rm_Question_settle [.ref p0, .int p1] D T z L S I J RI RJ := by
  refine Met.ofW (cc := prog_5_method_17_code) (maxL := 2) (ret := (Option.none : Option Jvm.ClassFile.FieldType)) (by decide) rfl ?_
  intro p e s m args below meth c s₁ B hml hv
  obtain ⟨ha, hv⟩ := hv
  have hx := B.exec
  have hb := B.bytes
  have hr := B.returns
  have hts := atoms_spec (ws := .code y_Question_settle prog_5_method_17_code 2 (Option.none : Option Jvm.ClassFile.FieldType) :: ga_ws) B.pre
  have hown : s.vm.findClass "RankHouse$Question" = some m.cls := findClass_of_methodNamed B.named
  have hlocks := B.notSynchronized
  have C : CallFix p m c prog_5_method_17_code 2 s args ga_ws "RankHouse$Question" := ⟨hx, hb, hml, hown, fun w h => hts w (List.mem_cons_of_mem _ h)⟩
  have hw := ga_start hv
  have hl := lv_entry ([.ref p0, .int p1]) (n := 2) (Nat.le_of_ble_eq_true rfl)
  rw [show entryFrame m args 2 = entryFrame m ([.ref p0, .int p1] : List Value).toArray 2 by rw [ha], lg_entry_eq]
  generalize (lg_sl ([.ref p0, .int p1]) ++ List.replicate (2 - (lg_sl ([.ref p0, .int p1])).length) Slot.unset).toArray = ls at hl ⊢
  have hl : lv_has ls 2 [(0, .ref p0), (1, .int p1)] := hl
  have key : ∀ Q : State → Prop, (∀ (pc : Nat) (ls : Array Slot) (H : Heap) (locs : List Loc) (I1 : gMI) (J1 : gMJ), (I1, J1) = (RI, RJ) → decode prog_5_method_17_code pc = .ok (.return_, 1) → ga_W D T z L S I1 J1 s H locs → W p l e rm_Question_settle s m args below meth c H locs 0 0 Q (F0 m pc ls [])) → W p l e rm_Question_settle s m args below meth c s.heap [] 0 0 Q (F0 m 0 ls []) := by
    intro Q hret
    rw [f_Question_settle] at hF
    refine lv_aload_n hx hb d_Question_settle_0 rfl (lv_at hl 0 rfl) ?_
    obtain ⟨t1, hF⟩ := gd_ex hF
    obtain ⟨x2, c3, hF⟩ := ob_ex hF
    refine ga_cVi (As := []) C hw (c_Question_hasTwoRanks l D T z L c3) gy_Question_194 t1 rfl hl.1 ⟨Nat.le_of_ble_eq_true rfl, Nat.le_of_ble_eq_true rfl, rfl, rfl, Nat.le_of_ble_eq_true rfl, Nat.le_of_ble_eq_true rfl⟩ (Nat.le_of_ble_eq_true rfl) rfl d_Question_settle_1 (fun H locs hw => ?_)
    by_cases h4 : x2 = 0
    · rw [if_pos h4] at hF
      refine lv_if_ne (tgt := 16) hx hb d_Question_settle_4 (by decide) (fun hn => absurd h4 hn) (fun _ => ?_)
      refine lv_aload_n hx hb d_Question_settle_7 rfl (lv_at hl 0 rfl) ?_
      refine lv_iload_n hx hb d_Question_settle_8 rfl (lv_at hl 1 rfl) ?_
      refine lv_i2l hx hb d_Question_settle_9 rfl ?_
      obtain ⟨I17, J18, c19, hF⟩ := bd2_ex hF
      refine ga_cVv (As := [.long p1.toInt64]) C hw (c_Question_conclude l D T z L c19) gy_Question_175 t1 rfl hl.1 ⟨Nat.le_of_ble_eq_true rfl, Nat.le_of_ble_eq_true rfl, rfl, rfl, Nat.le_of_ble_eq_true rfl, Nat.le_of_ble_eq_true rfl⟩ (Nat.le_of_ble_eq_true rfl) rfl d_Question_settle_10 (fun H locs hw => ?_)
      refine lv_goto (tgt := 52) hx hb d_Question_settle_13 (by decide) ?_
      exact m_Question_settle_b52 hret C _ _ hF _ _ _ (lv_sub hl [] rfl) hw
    · rw [if_neg h4] at hF
      refine lv_if_ne (tgt := 16) hx hb d_Question_settle_4 (by decide) (fun _ => ?_) (fun hp => absurd hp h4)
      refine lv_aload_n hx hb d_Question_settle_16 rfl (lv_at hl 0 rfl) ?_
      obtain ⟨r5, hr5, hF⟩ := ob_ex hF
      refine ga_getR C hw gf_Question_31 t1 hr5 d_Question_settle_17 ?_
      obtain ⟨t6, hF⟩ := gd_ex hF
      refine ga_getI C hw gf_Question_198 t6 d_Question_settle_20 ?_
      by_cases h7 : (I r5 0) = 0
      · rw [if_pos h7] at hF
        refine lv_if_ne (tgt := 43) hx hb d_Question_settle_23 (by decide) (fun hn => absurd h7 hn) (fun _ => ?_)
        refine lv_aload_n hx hb d_Question_settle_26 rfl (lv_at hl 0 rfl) ?_
        refine lv_iload_n hx hb d_Question_settle_27 rfl (lv_at hl 1 rfl) ?_
        obtain ⟨I12, eI12, hF⟩ := bnd_ex hF
        refine ga_putI C hw gp_Question_184 t1 rfl rfl eI12 d_Question_settle_28 (fun H locs hw => ?_)
        refine lv_aload_n hx hb d_Question_settle_31 rfl (lv_at hl 0 rfl) ?_
        refine lv_aload_n hx hb d_Question_settle_32 rfl (lv_at hl 0 rfl) ?_
        obtain ⟨x13, c14, hF⟩ := ob_ex hF
        refine ga_cVi (As := []) C hw (c_Question_lastRank l D T z L c14) gy_Question_181 t1 rfl hl.1 ⟨Nat.le_of_ble_eq_true rfl, Nat.le_of_ble_eq_true rfl, rfl, rfl, Nat.le_of_ble_eq_true rfl, Nat.le_of_ble_eq_true rfl⟩ (Nat.le_of_ble_eq_true rfl) rfl d_Question_settle_33 (fun H locs hw => ?_)
        refine lv_iconst (v := 1) hx hb d_Question_settle_36 (by decide) ?_
        obtain ⟨I15, c16, hF⟩ := ob_ex hF
        refine ga_cVv (As := [.int x13, .int (1 : Int32)]) C hw (c_Question_seekRank l D T z L c16) gy_Question_154 t1 rfl hl.1 ⟨Nat.le_of_ble_eq_true rfl, Nat.le_of_ble_eq_true rfl, rfl, rfl, Nat.le_of_ble_eq_true rfl, Nat.le_of_ble_eq_true rfl⟩ (Nat.le_of_ble_eq_true rfl) rfl d_Question_settle_37 (fun H locs hw => ?_)
        refine lv_goto (tgt := 52) hx hb d_Question_settle_40 (by decide) ?_
        exact m_Question_settle_b52 hret C _ _ hF _ _ _ (lv_sub hl [] rfl) hw
      · rw [if_neg h7] at hF
        refine lv_if_ne (tgt := 43) hx hb d_Question_settle_23 (by decide) (fun _ => ?_) (fun hp => absurd hp h7)
        refine lv_aload_n hx hb d_Question_settle_43 rfl (lv_at hl 0 rfl) ?_
        refine lv_iload_n hx hb d_Question_settle_44 rfl (lv_at hl 1 rfl) ?_
        obtain ⟨I8, eI8, hF⟩ := bnd_ex hF
        refine ga_putI C hw gp_Question_191 t1 rfl rfl eI8 d_Question_settle_45 (fun H locs hw => ?_)
        refine lv_aload_n hx hb d_Question_settle_48 rfl (lv_at hl 0 rfl) ?_
        obtain ⟨I9, J10, c11, hF⟩ := bd2_ex hF
        refine ga_cVv (As := []) C hw (c_Question_afterBothRanks l D T z L c11) gy_Question_202 t1 rfl hl.1 ⟨Nat.le_of_ble_eq_true rfl, Nat.le_of_ble_eq_true rfl, rfl, rfl, Nat.le_of_ble_eq_true rfl, Nat.le_of_ble_eq_true rfl⟩ (Nat.le_of_ble_eq_true rfl) rfl d_Question_settle_49 (fun H locs hw => ?_)
        exact m_Question_settle_b52 hret C _ _ hF _ _ _ (lv_sub hl [] rfl) hw
  refine key _ (fun pc ls H locs I1 J1 he hd hw => ?_)
  · cases he
    exact W.vret hx hb hr (fun t ht _ => ⟨⟨(), rfl, trivial, ga_o hw ht⟩, hw.2.2.2.1.F ht⟩) hw.2.2.2.1.2.2 hd
set_option maxHeartbeats 4000000 in
set_option maxRecDepth 100000 in
theorem m_Question_afterCut_b94 {zz : gMI × gMJ} (hret : ∀ (pc : Nat) (ls : Array Slot) (H : Heap) (locs : List Loc) (I1 : gMI) (J1 : gMJ), (I1, J1) = zz → decode prog_5_method_14_code pc = .ok (.return_, 1) → ga_W D T z L S I1 J1 s H locs → W p l e rm_Question_afterCut s m args below meth c H locs 0 0 Q (F0 m pc ls [])) (C : CallFix p m c prog_5_method_14_code 3 s args ga_ws "RankHouse$Question") : ∀ (I : gMI) (J : gMJ) (l0 : Nat), f_Question_afterCut_b94 S I J l0 = some zz → ∀ (ls : Array Slot) (H : Heap) (locs : List Loc), lv_has ls 3 [(0, .ref l0)] → ga_W D T z L S I J s H locs → W p l e rm_Question_afterCut s m args below meth c H locs 0 0 Q (F0 m 94 ls []) := by
  intro I J l0 hF ls H locs hl hw
  have hx := C.1
  have hb := C.2.1
  rw [f_Question_afterCut_b94] at hF
  refine lv_aload_n hx hb d_Question_afterCut_94 rfl (lv_at hl 0 rfl) ?_
  refine lv_iconst (v := 3) hx hb d_Question_afterCut_95 (by decide) ?_
  refine lv_aload_n hx hb d_Question_afterCut_96 rfl (lv_at hl 0 rfl) ?_
  obtain ⟨t1, hF⟩ := gd_ex hF
  obtain ⟨r2, hr2, hF⟩ := ob_ex hF
  refine ga_getR C hw gf_Question_31 t1 hr2 d_Question_afterCut_97 ?_
  obtain ⟨t3, hF⟩ := gd_ex hF
  refine ga_getI C hw gf_Question_158 t3 d_Question_afterCut_100 ?_
  refine lv_aload_n hx hb d_Question_afterCut_103 rfl (lv_at hl 0 rfl) ?_
  refine ga_getR C hw gf_Question_31 t1 hr2 d_Question_afterCut_104 ?_
  refine ga_getI C hw gf_Question_161 t3 d_Question_afterCut_107 ?_
  obtain ⟨I4, c5, hF⟩ := ob_ex hF
  refine ga_cVv (As := [.int (3 : Int32), .int (I r2 3), .int (I r2 4)]) C hw (c_Question_next l D T z L c5) gy_Question_144 t1 rfl hl.1 ⟨Nat.le_of_ble_eq_true rfl, Nat.le_of_ble_eq_true rfl, rfl, rfl, Nat.le_of_ble_eq_true rfl, Nat.le_of_ble_eq_true rfl⟩ (Nat.le_of_ble_eq_true rfl) rfl d_Question_afterCut_110 (fun H locs hw => ?_)
  exact hret _ _ _ _ _ _ (Option.some.inj hF) d_Question_afterCut_113 hw
set_option maxHeartbeats 4000000 in
set_option maxRecDepth 100000 in
theorem m_Question_afterCut_b64 {zz : gMI × gMJ} (hret : ∀ (pc : Nat) (ls : Array Slot) (H : Heap) (locs : List Loc) (I1 : gMI) (J1 : gMJ), (I1, J1) = zz → decode prog_5_method_14_code pc = .ok (.return_, 1) → ga_W D T z L S I1 J1 s H locs → W p l e rm_Question_afterCut s m args below meth c H locs 0 0 Q (F0 m pc ls [])) (C : CallFix p m c prog_5_method_14_code 3 s args ga_ws "RankHouse$Question") : ∀ (I : gMI) (J : gMJ) (l0 : Nat) (l1 : Int32) (l2 : Int32), f_Question_afterCut_b64 S I J l0 l1 l2 = some zz → ∀ (ls : Array Slot) (H : Heap) (locs : List Loc), lv_has ls 3 [(0, .ref l0), (1, .int l1), (2, .int l2)] → ga_W D T z L S I J s H locs → W p l e rm_Question_afterCut s m args below meth c H locs 0 0 Q (F0 m 64 ls []) := by
  intro I J l0 l1 l2 hF ls H locs hl hw
  have hx := C.1
  have hb := C.2.1
  rw [f_Question_afterCut_b64] at hF
  refine lv_aload_n hx hb d_Question_afterCut_64 rfl (lv_at hl 0 rfl) ?_
  obtain ⟨t1, hF⟩ := gd_ex hF
  obtain ⟨r2, hr2, hF⟩ := ob_ex hF
  refine ga_getR C hw gf_Question_31 t1 hr2 d_Question_afterCut_65 ?_
  obtain ⟨t3, hF⟩ := gd_ex hF
  obtain ⟨x4, c5, hF⟩ := ob_ex hF
  refine ga_cVi (As := []) C hw (c_Search_rankWithin l D T z L c5) gy_Question_126 t3 rfl hl.1 ⟨Nat.le_of_ble_eq_true rfl, Nat.le_of_ble_eq_true rfl, rfl, rfl, Nat.le_of_ble_eq_true rfl, Nat.le_of_ble_eq_true rfl⟩ (Nat.le_of_ble_eq_true rfl) rfl d_Question_afterCut_68 (fun H locs hw => ?_)
  refine lv_iload_n hx hb d_Question_afterCut_71 rfl (lv_at hl 1 rfl) ?_
  by_cases h6 : l1 < x4
  · rw [if_pos h6] at hF
    refine lv_icmp_gt (tgt := 86) hx hb d_Question_afterCut_72 (by decide) (fun _ => ?_) (fun hn => absurd h6 hn)
    refine lv_aload_n hx hb d_Question_afterCut_86 rfl (lv_at hl 0 rfl) ?_
    refine ga_getR C hw gf_Question_31 t1 hr2 d_Question_afterCut_87 ?_
    refine lv_iload_n hx hb d_Question_afterCut_90 rfl (lv_at hl 2 rfl) ?_
    obtain ⟨I7, c8, hF⟩ := ob_ex hF
    refine ga_cVv (As := [.int l2]) C hw (c_Search_keepAbovePivot l D T z L c8) gy_Question_172 t3 rfl hl.1 ⟨Nat.le_of_ble_eq_true rfl, Nat.le_of_ble_eq_true rfl, rfl, rfl, Nat.le_of_ble_eq_true rfl, Nat.le_of_ble_eq_true rfl⟩ (Nat.le_of_ble_eq_true rfl) rfl d_Question_afterCut_91 (fun H locs hw => ?_)
    exact m_Question_afterCut_b94 hret C _ _ _ hF _ _ _ (lv_sub hl [0] rfl) hw
  · rw [if_neg h6] at hF
    refine lv_icmp_gt (tgt := 86) hx hb d_Question_afterCut_72 (by decide) (fun hp => absurd hp h6) (fun _ => ?_)
    refine lv_aload_n hx hb d_Question_afterCut_75 rfl (lv_at hl 0 rfl) ?_
    refine ga_getR C hw gf_Question_31 t1 hr2 d_Question_afterCut_76 ?_
    refine lv_iload_n hx hb d_Question_afterCut_79 rfl (lv_at hl 1 rfl) ?_
    obtain ⟨I9, c10, hF⟩ := ob_ex hF
    refine ga_cVv (As := [.int l1]) C hw (c_Search_keepBelowPivot l D T z L c10) gy_Question_169 t3 rfl hl.1 ⟨Nat.le_of_ble_eq_true rfl, Nat.le_of_ble_eq_true rfl, rfl, rfl, Nat.le_of_ble_eq_true rfl, Nat.le_of_ble_eq_true rfl⟩ (Nat.le_of_ble_eq_true rfl) rfl d_Question_afterCut_80 (fun H locs hw => ?_)
    refine lv_goto (tgt := 94) hx hb d_Question_afterCut_83 (by decide) ?_
    exact m_Question_afterCut_b94 hret C _ _ _ hF _ _ _ (lv_sub hl [0] rfl) hw
set_option maxHeartbeats 4000000 in
set_option maxRecDepth 100000 in
theorem c_Question_afterCut (l : Launch) (D : va_G) (T : Nat → ClassId) (z : Nat) (L : List Nat) {S : gS} {I : gMI} {J : gMJ} {p0 : Nat} {RI : gMI} {RJ : gMJ} (hF : f_Question_afterCut S I J p0 = some (RI, RJ)) : ga_Mv l y_Question_afterCut prog_5_method_14_code 3 (Option.none : Option Jvm.ClassFile.FieldType) rm_Question_afterCut [.ref p0] D T z L S I J RI RJ := by
  refine Met.ofW (cc := prog_5_method_14_code) (maxL := 3) (ret := (Option.none : Option Jvm.ClassFile.FieldType)) (by decide) rfl ?_
  intro p e s m args below meth c s₁ B hml hv
  obtain ⟨ha, hv⟩ := hv
  have hx := B.exec
  have hb := B.bytes
  have hr := B.returns
  have hts := atoms_spec (ws := .code y_Question_afterCut prog_5_method_14_code 3 (Option.none : Option Jvm.ClassFile.FieldType) :: ga_ws) B.pre
  have hown : s.vm.findClass "RankHouse$Question" = some m.cls := findClass_of_methodNamed B.named
  have hlocks := B.notSynchronized
  have C : CallFix p m c prog_5_method_14_code 3 s args ga_ws "RankHouse$Question" := ⟨hx, hb, hml, hown, fun w h => hts w (List.mem_cons_of_mem _ h)⟩
  have hw := ga_start hv
  have hl := lv_entry ([.ref p0]) (n := 3) (Nat.le_of_ble_eq_true rfl)
  rw [show entryFrame m args 3 = entryFrame m ([.ref p0] : List Value).toArray 3 by rw [ha], lg_entry_eq]
  generalize (lg_sl ([.ref p0]) ++ List.replicate (3 - (lg_sl ([.ref p0])).length) Slot.unset).toArray = ls at hl ⊢
  have hl : lv_has ls 3 [(0, .ref p0)] := hl
  have key : ∀ Q : State → Prop, (∀ (pc : Nat) (ls : Array Slot) (H : Heap) (locs : List Loc) (I1 : gMI) (J1 : gMJ), (I1, J1) = (RI, RJ) → decode prog_5_method_14_code pc = .ok (.return_, 1) → ga_W D T z L S I1 J1 s H locs → W p l e rm_Question_afterCut s m args below meth c H locs 0 0 Q (F0 m pc ls [])) → W p l e rm_Question_afterCut s m args below meth c s.heap [] 0 0 Q (F0 m 0 ls []) := by
    intro Q hret
    rw [f_Question_afterCut] at hF
    refine lv_aload_n hx hb d_Question_afterCut_0 rfl (lv_at hl 0 rfl) ?_
    refine lv_dup hx hb d_Question_afterCut_1 rfl ?_
    obtain ⟨t1, hF⟩ := gd_ex hF
    refine ga_getI C hw gf_Question_63 t1 d_Question_afterCut_2 ?_
    refine lv_iconst (v := 1) hx hb d_Question_afterCut_5 (by decide) ?_
    refine lv_iadd hx hb d_Question_afterCut_6 ?_
    obtain ⟨I2, eI2, hF⟩ := bnd_ex hF
    refine ga_putI C hw gp_Question_63 t1 rfl rfl eI2 d_Question_afterCut_7 (fun H locs hw => ?_)
    refine lv_aload_n hx hb d_Question_afterCut_10 rfl (lv_at hl 0 rfl) ?_
    obtain ⟨r3, hr3, hF⟩ := ob_ex hF
    refine ga_getR C hw gf_Question_24 t1 hr3 d_Question_afterCut_11 ?_
    refine lv_iconst (v := 0) hx hb d_Question_afterCut_14 (by decide) ?_
    obtain ⟨t4, hF⟩ := gd_ex hF
    obtain ⟨x5, c6, hF⟩ := ob_ex hF
    refine ga_cVi (As := [.int (0 : Int32)]) C hw (c_Replies_total l D T z L c6) gy_Question_142 t4 rfl hl.1 ⟨Nat.le_of_ble_eq_true rfl, Nat.le_of_ble_eq_true rfl, rfl, rfl, Nat.le_of_ble_eq_true rfl, Nat.le_of_ble_eq_true rfl⟩ (Nat.le_of_ble_eq_true rfl) rfl d_Question_afterCut_15 (fun H locs hw => ?_)
    refine lv_istore_n hx hb d_Question_afterCut_18 rfl hl (by decide) rfl (fun ls hl => ?_)
    have hl : lv_has ls 3 [(1, .int x5), (0, .ref p0)] := hl
    refine lv_iload_n hx hb d_Question_afterCut_19 rfl (lv_at hl 0 rfl) ?_
    refine lv_aload_n hx hb d_Question_afterCut_20 rfl (lv_at hl 1 rfl) ?_
    refine ga_getR C hw gf_Question_24 t1 hr3 d_Question_afterCut_21 ?_
    refine lv_iconst (v := 1) hx hb d_Question_afterCut_24 (by decide) ?_
    obtain ⟨x7, c8, hF⟩ := ob_ex hF
    refine ga_cVi (As := [.int (1 : Int32)]) C hw (c_Replies_total l D T z L c8) gy_Question_142 t4 rfl hl.1 ⟨Nat.le_of_ble_eq_true rfl, Nat.le_of_ble_eq_true rfl, rfl, rfl, Nat.le_of_ble_eq_true rfl, Nat.le_of_ble_eq_true rfl⟩ (Nat.le_of_ble_eq_true rfl) rfl d_Question_afterCut_25 (fun H locs hw => ?_)
    refine lv_iadd hx hb d_Question_afterCut_28 ?_
    refine lv_topi (fun v9 ev9 => ?_)
    replace hF := bnd_at hF ev9
    refine lv_istore_n hx hb d_Question_afterCut_29 rfl hl (by decide) rfl (fun ls hl => ?_)
    have hl : lv_has ls 3 [(2, .int v9), (1, .int x5), (0, .ref p0)] := hl
    refine lv_aload_n hx hb d_Question_afterCut_30 rfl (lv_at hl 2 rfl) ?_
    obtain ⟨r10, hr10, hF⟩ := ob_ex hF
    refine ga_getR C hw gf_Question_31 t1 hr10 d_Question_afterCut_31 ?_
    obtain ⟨t11, hF⟩ := gd_ex hF
    obtain ⟨x12, c13, hF⟩ := ob_ex hF
    refine ga_cVi (As := []) C hw (c_Search_rankWithin l D T z L c13) gy_Question_126 t11 rfl hl.1 ⟨Nat.le_of_ble_eq_true rfl, Nat.le_of_ble_eq_true rfl, rfl, rfl, Nat.le_of_ble_eq_true rfl, Nat.le_of_ble_eq_true rfl⟩ (Nat.le_of_ble_eq_true rfl) rfl d_Question_afterCut_34 (fun H locs hw => ?_)
    refine lv_iload_n hx hb d_Question_afterCut_37 rfl (lv_at hl 1 rfl) ?_
    by_cases h14 : x12 ≤ x5
    · rw [if_pos h14] at hF
      refine lv_icmp_le (tgt := 64) hx hb d_Question_afterCut_38 (by decide) (fun _ => ?_) (fun hn => absurd h14 hn)
      exact m_Question_afterCut_b64 hret C _ _ _ _ _ hF _ _ _ (lv_sub hl [2, 1, 0] rfl) hw
    · rw [if_neg h14] at hF
      refine lv_icmp_le (tgt := 64) hx hb d_Question_afterCut_38 (by decide) (fun hp => absurd hp h14) (fun _ => ?_)
      refine lv_aload_n hx hb d_Question_afterCut_41 rfl (lv_at hl 2 rfl) ?_
      refine ga_getR C hw gf_Question_31 t1 hr10 d_Question_afterCut_42 ?_
      obtain ⟨x15, c16, hF⟩ := ob_ex hF
      refine ga_cVi (As := []) C hw (c_Search_rankWithin l D T z L c16) gy_Question_126 t11 rfl hl.1 ⟨Nat.le_of_ble_eq_true rfl, Nat.le_of_ble_eq_true rfl, rfl, rfl, Nat.le_of_ble_eq_true rfl, Nat.le_of_ble_eq_true rfl⟩ (Nat.le_of_ble_eq_true rfl) rfl d_Question_afterCut_45 (fun H locs hw => ?_)
      refine lv_iload_n hx hb d_Question_afterCut_48 rfl (lv_at hl 0 rfl) ?_
      by_cases h17 : v9 < x15
      · rw [if_pos h17] at hF
        refine lv_icmp_gt (tgt := 64) hx hb d_Question_afterCut_49 (by decide) (fun _ => ?_) (fun hn => absurd h17 hn)
        exact m_Question_afterCut_b64 hret C _ _ _ _ _ hF _ _ _ (lv_sub hl [2, 1, 0] rfl) hw
      · rw [if_neg h17] at hF
        refine lv_icmp_gt (tgt := 64) hx hb d_Question_afterCut_49 (by decide) (fun hp => absurd hp h17) (fun _ => ?_)
        refine lv_aload_n hx hb d_Question_afterCut_52 rfl (lv_at hl 2 rfl) ?_
        refine lv_aload_n hx hb d_Question_afterCut_53 rfl (lv_at hl 2 rfl) ?_
        refine ga_getR C hw gf_Question_31 t1 hr10 d_Question_afterCut_54 ?_
        refine ga_getI C hw gf_Question_167 t11 d_Question_afterCut_57 ?_
        obtain ⟨I18, J19, c20, hF⟩ := bd2_ex hF
        refine ga_cVv (As := [.int (I2 r10 5)]) C hw (c_Question_settle l D T z L c20) gy_Question_133 t1 rfl hl.1 ⟨Nat.le_of_ble_eq_true rfl, Nat.le_of_ble_eq_true rfl, rfl, rfl, Nat.le_of_ble_eq_true rfl, Nat.le_of_ble_eq_true rfl⟩ (Nat.le_of_ble_eq_true rfl) rfl d_Question_afterCut_60 (fun H locs hw => ?_)
        exact hret _ _ _ _ _ _ (Option.some.inj hF) d_Question_afterCut_63 hw
  refine key _ (fun pc ls H locs I1 J1 he hd hw => ?_)
  · cases he
    exact W.vret hx hb hr (fun t ht _ => ⟨⟨(), rfl, trivial, ga_o hw ht⟩, hw.2.2.2.1.F ht⟩) hw.2.2.2.1.2.2 hd
set_option maxHeartbeats 4000000 in
set_option maxRecDepth 100000 in
theorem m_Question_afterHold_b52 {zz : gMI × gMJ} (hret : ∀ (pc : Nat) (ls : Array Slot) (H : Heap) (locs : List Loc) (I1 : gMI) (J1 : gMJ), (I1, J1) = zz → decode prog_5_method_15_code pc = .ok (.return_, 1) → ga_W D T z L S I1 J1 s H locs → W p l e rm_Question_afterHold s m args below meth c H locs 0 0 Q (F0 m pc ls [])) (C : CallFix p m c prog_5_method_15_code 3 s args ga_ws "RankHouse$Question") : ∀ (I : gMI) (J : gMJ), f_Question_afterHold_b52 S I J = some zz → ∀ (ls : Array Slot) (H : Heap) (locs : List Loc), lv_has ls 3 [] → ga_W D T z L S I J s H locs → W p l e rm_Question_afterHold s m args below meth c H locs 0 0 Q (F0 m 52 ls []) := by
  intro I J hF ls H locs hl hw
  have hx := C.1
  have hb := C.2.1
  rw [f_Question_afterHold_b52] at hF
  exact hret _ _ _ _ _ _ (Option.some.inj hF) d_Question_afterHold_52 hw
set_option maxHeartbeats 4000000 in
set_option maxRecDepth 100000 in
theorem m_Question_afterHold_b49 {zz : gMI × gMJ} (hret : ∀ (pc : Nat) (ls : Array Slot) (H : Heap) (locs : List Loc) (I1 : gMI) (J1 : gMJ), (I1, J1) = zz → decode prog_5_method_15_code pc = .ok (.return_, 1) → ga_W D T z L S I1 J1 s H locs → W p l e rm_Question_afterHold s m args below meth c H locs 0 0 Q (F0 m pc ls [])) (C : CallFix p m c prog_5_method_15_code 3 s args ga_ws "RankHouse$Question") : ∀ (I : gMI) (J : gMJ) (s0 : Int64) (s1 : Nat), f_Question_afterHold_b49 S I J s0 s1 = some zz → ∀ (ls : Array Slot) (H : Heap) (locs : List Loc), lv_has ls 3 [] → ga_W D T z L S I J s H locs → W p l e rm_Question_afterHold s m args below meth c H locs 0 0 Q (F0 m 49 ls [.long s0, .ref s1]) := by
  intro I J s0 s1 hF ls H locs hl hw
  have hx := C.1
  have hb := C.2.1
  rw [f_Question_afterHold_b49] at hF
  obtain ⟨t1, hF⟩ := gd_ex hF
  obtain ⟨I2, J3, c4, hF⟩ := bd2_ex hF
  refine ga_cVv (As := [.long s0]) C hw (c_Question_conclude l D T z L c4) gy_Question_175 t1 rfl hl.1 ⟨Nat.le_of_ble_eq_true rfl, Nat.le_of_ble_eq_true rfl, rfl, rfl, Nat.le_of_ble_eq_true rfl, Nat.le_of_ble_eq_true rfl⟩ (Nat.le_of_ble_eq_true rfl) rfl d_Question_afterHold_49 (fun H locs hw => ?_)
  exact m_Question_afterHold_b52 hret C _ _ hF _ _ _ hl hw
set_option maxHeartbeats 4000000 in
set_option maxRecDepth 100000 in
theorem c_Question_afterHold (l : Launch) (D : va_G) (T : Nat → ClassId) (z : Nat) (L : List Nat) {S : gS} {I : gMI} {J : gMJ} {p0 : Nat} {RI : gMI} {RJ : gMJ} (hF : f_Question_afterHold S I J p0 = some (RI, RJ)) : ga_Mv l y_Question_afterHold prog_5_method_15_code 3 (Option.none : Option Jvm.ClassFile.FieldType) rm_Question_afterHold [.ref p0] D T z L S I J RI RJ := by
  refine Met.ofW (cc := prog_5_method_15_code) (maxL := 3) (ret := (Option.none : Option Jvm.ClassFile.FieldType)) (by decide) rfl ?_
  intro p e s m args below meth c s₁ B hml hv
  obtain ⟨ha, hv⟩ := hv
  have hx := B.exec
  have hb := B.bytes
  have hr := B.returns
  have hts := atoms_spec (ws := .code y_Question_afterHold prog_5_method_15_code 3 (Option.none : Option Jvm.ClassFile.FieldType) :: ga_ws) B.pre
  have hown : s.vm.findClass "RankHouse$Question" = some m.cls := findClass_of_methodNamed B.named
  have hlocks := B.notSynchronized
  have C : CallFix p m c prog_5_method_15_code 3 s args ga_ws "RankHouse$Question" := ⟨hx, hb, hml, hown, fun w h => hts w (List.mem_cons_of_mem _ h)⟩
  have hw := ga_start hv
  have hl := lv_entry ([.ref p0]) (n := 3) (Nat.le_of_ble_eq_true rfl)
  rw [show entryFrame m args 3 = entryFrame m ([.ref p0] : List Value).toArray 3 by rw [ha], lg_entry_eq]
  generalize (lg_sl ([.ref p0]) ++ List.replicate (3 - (lg_sl ([.ref p0])).length) Slot.unset).toArray = ls at hl ⊢
  have hl : lv_has ls 3 [(0, .ref p0)] := hl
  have key : ∀ Q : State → Prop, (∀ (pc : Nat) (ls : Array Slot) (H : Heap) (locs : List Loc) (I1 : gMI) (J1 : gMJ), (I1, J1) = (RI, RJ) → decode prog_5_method_15_code pc = .ok (.return_, 1) → ga_W D T z L S I1 J1 s H locs → W p l e rm_Question_afterHold s m args below meth c H locs 0 0 Q (F0 m pc ls [])) → W p l e rm_Question_afterHold s m args below meth c s.heap [] 0 0 Q (F0 m 0 ls []) := by
    intro Q hret
    rw [f_Question_afterHold] at hF
    refine lv_aload_n hx hb d_Question_afterHold_0 rfl (lv_at hl 0 rfl) ?_
    obtain ⟨t1, hF⟩ := gd_ex hF
    obtain ⟨r2, hr2, hF⟩ := ob_ex hF
    refine ga_getR C hw gf_Question_24 t1 hr2 d_Question_afterHold_1 ?_
    refine lv_iconst (v := 0) hx hb d_Question_afterHold_4 (by decide) ?_
    obtain ⟨t3, hF⟩ := gd_ex hF
    obtain ⟨x4, c5, hF⟩ := ob_ex hF
    refine ga_cVi (As := [.int (0 : Int32)]) C hw (c_Replies_total l D T z L c5) gy_Question_142 t3 rfl hl.1 ⟨Nat.le_of_ble_eq_true rfl, Nat.le_of_ble_eq_true rfl, rfl, rfl, Nat.le_of_ble_eq_true rfl, Nat.le_of_ble_eq_true rfl⟩ (Nat.le_of_ble_eq_true rfl) rfl d_Question_afterHold_5 (fun H locs hw => ?_)
    refine lv_i2l hx hb d_Question_afterHold_8 rfl ?_
    refine lv_topl (fun v6 ev6 => ?_)
    replace hF := bnd_at hF ev6
    refine lv_lstore_n hx hb d_Question_afterHold_9 rfl hl (by decide) rfl (fun ls hl => ?_)
    have hl : lv_has ls 3 [(1, .long v6), (0, .ref p0)] := hl
    refine lv_aload_n hx hb d_Question_afterHold_10 rfl (lv_at hl 1 rfl) ?_
    refine ga_getI C hw gf_Question_45 t1 d_Question_afterHold_11 ?_
    refine lv_iconst (v := 1) hx hb d_Question_afterHold_14 (by decide) ?_
    by_cases h7 : (I p0 7) = (1 : Int32)
    · rw [if_pos h7] at hF
      refine lv_icmp_ne (tgt := 26) hx hb d_Question_afterHold_15 (by decide) (fun hn => absurd h7 hn) (fun _ => ?_)
      refine lv_aload_n hx hb d_Question_afterHold_18 rfl (lv_at hl 1 rfl) ?_
      refine lv_lload_n hx hb d_Question_afterHold_19 rfl (lv_at hl 0 rfl) ?_
      obtain ⟨I10, J11, c12, hF⟩ := bd2_ex hF
      refine ga_cVv (As := [.long v6]) C hw (c_Question_conclude l D T z L c12) gy_Question_175 t1 rfl hl.1 ⟨Nat.le_of_ble_eq_true rfl, Nat.le_of_ble_eq_true rfl, rfl, rfl, Nat.le_of_ble_eq_true rfl, Nat.le_of_ble_eq_true rfl⟩ (Nat.le_of_ble_eq_true rfl) rfl d_Question_afterHold_20 (fun H locs hw => ?_)
      refine lv_goto (tgt := 52) hx hb d_Question_afterHold_23 (by decide) ?_
      exact m_Question_afterHold_b52 hret C _ _ hF _ _ _ (lv_sub hl [] rfl) hw
    · rw [if_neg h7] at hF
      refine lv_icmp_ne (tgt := 26) hx hb d_Question_afterHold_15 (by decide) (fun _ => ?_) (fun hp => absurd hp h7)
      refine lv_aload_n hx hb d_Question_afterHold_26 rfl (lv_at hl 1 rfl) ?_
      refine lv_aload_n hx hb d_Question_afterHold_27 rfl (lv_at hl 1 rfl) ?_
      refine ga_getI C hw gf_Question_66 t1 d_Question_afterHold_28 ?_
      by_cases h8 : (I p0 15) = 0
      · rw [if_pos h8] at hF
        refine lv_if_ne (tgt := 38) hx hb d_Question_afterHold_31 (by decide) (fun hn => absurd h8 hn) (fun _ => ?_)
        refine lv_lconst (v := 0) hx hb d_Question_afterHold_34 (by decide) ?_
        refine lv_goto (tgt := 49) hx hb d_Question_afterHold_35 (by decide) ?_
        exact m_Question_afterHold_b49 hret C _ _ _ _ hF _ _ _ (lv_sub hl [] rfl) hw
      · rw [if_neg h8] at hF
        refine lv_if_ne (tgt := 38) hx hb d_Question_afterHold_31 (by decide) (fun _ => ?_) (fun hp => absurd hp h8)
        refine lv_ldc2 hx hb C.2.2.2.1 (C.2.2.2.2 _ gk_Question_179) d_Question_afterHold_38 ?_
        refine lv_lload_n hx hb d_Question_afterHold_41 rfl (lv_at hl 0 rfl) ?_
        refine lv_lmul hx hb d_Question_afterHold_42 ?_
        refine lv_aload_n hx hb d_Question_afterHold_43 rfl (lv_at hl 1 rfl) ?_
        refine ga_getI C hw gf_Question_66 t1 d_Question_afterHold_44 ?_
        refine lv_i2l hx hb d_Question_afterHold_47 rfl ?_
        obtain ⟨h9, hF⟩ := gd_ex hF
        refine lv_ldiv hx hb d_Question_afterHold_48 h9 ?_
        exact m_Question_afterHold_b49 hret C _ _ _ _ hF _ _ _ (lv_sub hl [] rfl) hw
  refine key _ (fun pc ls H locs I1 J1 he hd hw => ?_)
  · cases he
    exact W.vret hx hb hr (fun t ht _ => ⟨⟨(), rfl, trivial, ga_o hw ht⟩, hw.2.2.2.1.F ht⟩) hw.2.2.2.1.2.2 hd
end WALK
