section WALK
variable {p : Program} {l : Launch} {e : Env} {s : State} {m : MethodId} {args : Array Value} {below : List Frame} {meth : Method} {c : Code} {Q : State → Prop} {D : va_G} {T : Nat → ClassId} {z : Nat} {L : List Nat} {S : gS}
set_option maxHeartbeats 4000000 in
set_option maxRecDepth 100000 in
theorem c_Letter_address (l : Launch) (D : va_G) (T : Nat → ClassId) (z : Nat) (L : List Nat) {S : gS} {I : gMI} {J : gMJ} {p0 : Nat} {p1 : Int32} {p2 : Int32} {p3 : Int32} {p4 : Int32} {p5 : Int32} {p6 : Int32} {RI : gMI} {RJ : gMJ} (hF : f_Letter_address S I J p0 p1 p2 p3 p4 p5 p6 = some (RI, RJ)) : ga_Mv l y_Letter_address prog_2_method_3_code 7 (Option.none : Option Jvm.ClassFile.FieldType) rm_Letter_address [.ref p0, .int p1, .int p2, .int p3, .int p4, .int p5, .int p6] D T z L S I J RI RJ := by
  refine Met.ofW (cc := prog_2_method_3_code) (maxL := 7) (ret := (Option.none : Option Jvm.ClassFile.FieldType)) (by decide) rfl ?_
  intro p e s m args below meth c s₁ B hml hv
  obtain ⟨ha, hv⟩ := hv
  have hx := B.exec
  have hb := B.bytes
  have hr := B.returns
  have hts := atoms_spec (ws := .code y_Letter_address prog_2_method_3_code 7 (Option.none : Option Jvm.ClassFile.FieldType) :: ga_ws) B.pre
  have hown : s.vm.findClass "RankHouse$Letter" = some m.cls := findClass_of_methodNamed B.named
  have hlocks := B.notSynchronized
  have C : CallFix p m c prog_2_method_3_code 7 s args ga_ws "RankHouse$Letter" := ⟨hx, hb, hml, hown, fun w h => hts w (List.mem_cons_of_mem _ h)⟩
  have hw := ga_start hv
  have hl := lv_entry ([.ref p0, .int p1, .int p2, .int p3, .int p4, .int p5, .int p6]) (n := 7) (Nat.le_of_ble_eq_true rfl)
  rw [show entryFrame m args 7 = entryFrame m ([.ref p0, .int p1, .int p2, .int p3, .int p4, .int p5, .int p6] : List Value).toArray 7 by rw [ha], lg_entry_eq]
  generalize (lg_sl ([.ref p0, .int p1, .int p2, .int p3, .int p4, .int p5, .int p6]) ++ List.replicate (7 - (lg_sl ([.ref p0, .int p1, .int p2, .int p3, .int p4, .int p5, .int p6])).length) Slot.unset).toArray = ls at hl ⊢
  have hl : lv_has ls 7 [(0, .ref p0), (1, .int p1), (2, .int p2), (3, .int p3), (4, .int p4), (5, .int p5), (6, .int p6)] := hl
  have key : ∀ Q : State → Prop, (∀ (pc : Nat) (ls : Array Slot) (H : Heap) (locs : List Loc) (I1 : gMI) (J1 : gMJ), (I1, J1) = (RI, RJ) → decode prog_2_method_3_code pc = .ok (.return_, 1) → ga_W D T z L S I1 J1 s H locs → W p l e rm_Letter_address s m args below meth c H locs 0 0 Q (F0 m pc ls [])) → W p l e rm_Letter_address s m args below meth c s.heap [] 0 0 Q (F0 m 0 ls []) := by
    intro Q hret
    rw [f_Letter_address] at hF
    refine lv_aload_n hx hb d_Letter_address_0 rfl (lv_at hl 0 rfl) ?_
    refine lv_iload_n hx hb d_Letter_address_1 rfl (lv_at hl 1 rfl) ?_
    obtain ⟨t1, hF⟩ := gd_ex hF
    obtain ⟨I2, eI2, hF⟩ := bnd_ex hF
    refine ga_putI C hw gp_Letter_15 t1 rfl rfl eI2 d_Letter_address_2 (fun H locs hw => ?_)
    refine lv_aload_n hx hb d_Letter_address_5 rfl (lv_at hl 0 rfl) ?_
    refine lv_iload_n hx hb d_Letter_address_6 rfl (lv_at hl 2 rfl) ?_
    obtain ⟨I3, eI3, hF⟩ := bnd_ex hF
    refine ga_putI C hw gp_Letter_19 t1 rfl rfl eI3 d_Letter_address_7 (fun H locs hw => ?_)
    refine lv_aload_n hx hb d_Letter_address_10 rfl (lv_at hl 0 rfl) ?_
    refine lv_iload_n hx hb d_Letter_address_11 rfl (lv_at hl 3 rfl) ?_
    obtain ⟨I4, eI4, hF⟩ := bnd_ex hF
    refine ga_putI C hw gp_Letter_22 t1 rfl rfl eI4 d_Letter_address_12 (fun H locs hw => ?_)
    refine lv_aload_n hx hb d_Letter_address_15 rfl (lv_at hl 0 rfl) ?_
    refine lv_iload hx hb d_Letter_address_16 (lv_at hl 4 rfl) ?_
    obtain ⟨I5, eI5, hF⟩ := bnd_ex hF
    refine ga_putI C hw gp_Letter_25 t1 rfl rfl eI5 d_Letter_address_18 (fun H locs hw => ?_)
    refine lv_aload_n hx hb d_Letter_address_21 rfl (lv_at hl 0 rfl) ?_
    refine lv_iload hx hb d_Letter_address_22 (lv_at hl 5 rfl) ?_
    obtain ⟨I6, eI6, hF⟩ := bnd_ex hF
    refine ga_putI C hw gp_Letter_28 t1 rfl rfl eI6 d_Letter_address_24 (fun H locs hw => ?_)
    refine lv_aload_n hx hb d_Letter_address_27 rfl (lv_at hl 0 rfl) ?_
    refine lv_iload hx hb d_Letter_address_28 (lv_at hl 6 rfl) ?_
    obtain ⟨I7, eI7, hF⟩ := bnd_ex hF
    refine ga_putI C hw gp_Letter_31 t1 rfl rfl eI7 d_Letter_address_30 (fun H locs hw => ?_)
    refine lv_aload_n hx hb d_Letter_address_33 rfl (lv_at hl 0 rfl) ?_
    refine lv_iconst (v := 0) hx hb d_Letter_address_34 (by decide) ?_
    obtain ⟨I8, eI8, hF⟩ := bnd_ex hF
    refine ga_putI C hw gp_Letter_34 t1 rfl rfl eI8 d_Letter_address_35 (fun H locs hw => ?_)
    refine lv_aload_n hx hb d_Letter_address_38 rfl (lv_at hl 0 rfl) ?_
    refine lv_lconst (v := 0) hx hb d_Letter_address_39 (by decide) ?_
    obtain ⟨J9, eJ9, hF⟩ := bnd_ex hF
    refine ga_putJ C hw gp_Letter_37 t1 eJ9 d_Letter_address_40 (fun H locs hw => ?_)
    exact hret _ _ _ _ _ _ (Option.some.inj hF) d_Letter_address_43 hw
  refine key _ (fun pc ls H locs I1 J1 he hd hw => ?_)
  · cases he
    exact W.vret hx hb hr (fun t ht _ => ⟨⟨(), rfl, trivial, ga_o hw ht⟩, hw.2.2.2.1.F ht⟩) hw.2.2.2.1.2.2 hd
set_option maxHeartbeats 4000000 in
set_option maxRecDepth 100000 in
theorem m_Letter_put_b29 {J : gMJ} {zz : gMI} (hret : ∀ (pc : Nat) (ls : Array Slot) (H : Heap) (locs : List Loc) (I1 : gMI), (I1) = zz → decode prog_2_method_6_code pc = .ok (.return_, 1) → ga_W D T z L S I1 J s H locs → W p l e rm_Letter_put s m args below meth c H locs 0 0 Q (F0 m pc ls [])) (C : CallFix p m c prog_2_method_6_code 2 s args ga_ws "RankHouse$Letter") : ∀ (I : gMI), f_Letter_put_b29 S J I = some zz → ∀ (ls : Array Slot) (H : Heap) (locs : List Loc), lv_has ls 2 [] → ga_W D T z L S I J s H locs → W p l e rm_Letter_put s m args below meth c H locs 0 0 Q (F0 m 29 ls []) := by
  intro I hF ls H locs hl hw
  have hx := C.1
  have hb := C.2.1
  rw [f_Letter_put_b29] at hF
  exact hret _ _ _ _ _ (Option.some.inj hF) d_Letter_put_29 hw
set_option maxHeartbeats 4000000 in
set_option maxRecDepth 100000 in
theorem c_Letter_put (l : Launch) (D : va_G) (T : Nat → ClassId) (z : Nat) (L : List Nat) {S : gS} {I : gMI} {J : gMJ} {p0 : Nat} {p1 : Int32} {RI : gMI} (hF : f_Letter_put S I J p0 p1 = some (RI)) : ga_Mv l y_Letter_put prog_2_method_6_code 2 (Option.none : Option Jvm.ClassFile.FieldType) rm_Letter_put [.ref p0, .int p1] D T z L S I J RI J := by
  refine Met.ofW (cc := prog_2_method_6_code) (maxL := 2) (ret := (Option.none : Option Jvm.ClassFile.FieldType)) (by decide) rfl ?_
  intro p e s m args below meth c s₁ B hml hv
  obtain ⟨ha, hv⟩ := hv
  have hx := B.exec
  have hb := B.bytes
  have hr := B.returns
  have hts := atoms_spec (ws := .code y_Letter_put prog_2_method_6_code 2 (Option.none : Option Jvm.ClassFile.FieldType) :: ga_ws) B.pre
  have hown : s.vm.findClass "RankHouse$Letter" = some m.cls := findClass_of_methodNamed B.named
  have hlocks := B.notSynchronized
  have C : CallFix p m c prog_2_method_6_code 2 s args ga_ws "RankHouse$Letter" := ⟨hx, hb, hml, hown, fun w h => hts w (List.mem_cons_of_mem _ h)⟩
  have hw := ga_start hv
  have hl := lv_entry ([.ref p0, .int p1]) (n := 2) (Nat.le_of_ble_eq_true rfl)
  rw [show entryFrame m args 2 = entryFrame m ([.ref p0, .int p1] : List Value).toArray 2 by rw [ha], lg_entry_eq]
  generalize (lg_sl ([.ref p0, .int p1]) ++ List.replicate (2 - (lg_sl ([.ref p0, .int p1])).length) Slot.unset).toArray = ls at hl ⊢
  have hl : lv_has ls 2 [(0, .ref p0), (1, .int p1)] := hl
  have key : ∀ Q : State → Prop, (∀ (pc : Nat) (ls : Array Slot) (H : Heap) (locs : List Loc) (I1 : gMI), (I1) = (RI) → decode prog_2_method_6_code pc = .ok (.return_, 1) → ga_W D T z L S I1 J s H locs → W p l e rm_Letter_put s m args below meth c H locs 0 0 Q (F0 m pc ls [])) → W p l e rm_Letter_put s m args below meth c s.heap [] 0 0 Q (F0 m 0 ls []) := by
    intro Q hret
    rw [f_Letter_put] at hF
    refine lv_aload_n hx hb d_Letter_put_0 rfl (lv_at hl 0 rfl) ?_
    obtain ⟨t1, hF⟩ := gd_ex hF
    refine ga_getI C hw gf_Letter_34 t1 d_Letter_put_1 ?_
    refine lv_bipush (v := 64) hx hb d_Letter_put_4 (by decide) ?_
    by_cases h2 : (64 : Int32) ≤ (I p0 1)
    · rw [if_pos h2] at hF
      refine lv_icmp_ge (tgt := 29) hx hb d_Letter_put_6 (by decide) (fun _ => ?_) (fun hn => absurd h2 hn)
      exact m_Letter_put_b29 hret C _ hF _ _ _ (lv_sub hl [] rfl) hw
    · rw [if_neg h2] at hF
      refine lv_icmp_ge (tgt := 29) hx hb d_Letter_put_6 (by decide) (fun hp => absurd hp h2) (fun _ => ?_)
      refine lv_aload_n hx hb d_Letter_put_9 rfl (lv_at hl 0 rfl) ?_
      obtain ⟨r3, hr3, hF⟩ := ob_ex hF
      refine ga_getR C hw gf_Letter_9 t1 hr3 d_Letter_put_10 ?_
      refine lv_aload_n hx hb d_Letter_put_13 rfl (lv_at hl 0 rfl) ?_
      refine ga_getI C hw gf_Letter_34 t1 d_Letter_put_14 ?_
      refine lv_iload_n hx hb d_Letter_put_17 rfl (lv_at hl 1 rfl) ?_
      obtain ⟨t4, hF⟩ := gd_ex hF
      obtain ⟨b5, hF⟩ := gd_ex hF
      obtain ⟨I6, eI6, hF⟩ := bnd_ex hF
      refine ga_iast C hw t4 b5 eI6 d_Letter_put_18 (fun H locs hw => ?_)
      refine lv_aload_n hx hb d_Letter_put_19 rfl (lv_at hl 0 rfl) ?_
      refine lv_dup hx hb d_Letter_put_20 rfl ?_
      refine ga_getI C hw gf_Letter_34 t1 d_Letter_put_21 ?_
      refine lv_iconst (v := 1) hx hb d_Letter_put_24 (by decide) ?_
      refine lv_iadd hx hb d_Letter_put_25 ?_
      obtain ⟨I7, eI7, hF⟩ := bnd_ex hF
      refine ga_putI C hw gp_Letter_34 t1 rfl rfl eI7 d_Letter_put_26 (fun H locs hw => ?_)
      exact m_Letter_put_b29 hret C _ hF _ _ _ (lv_sub hl [] rfl) hw
  refine key _ (fun pc ls H locs I1 he hd hw => ?_)
  · cases he
    exact W.vret hx hb hr (fun t ht _ => ⟨⟨(), rfl, trivial, ga_o hw ht⟩, hw.2.2.2.1.F ht⟩) hw.2.2.2.1.2.2 hd
set_option maxHeartbeats 4000000 in
set_option maxRecDepth 100000 in
theorem m_Letter_number_b22 {I : gMI} {J : gMJ} {zz : Int32} (hret : ∀ (pc : Nat) (ls : Array Slot) (H : Heap) (locs : List Loc) (x : Int32), (x) = zz → decode prog_2_method_7_code pc = .ok (.ireturn, 1) → ga_W D T z L S I J s H locs → W p l e rm_Letter_number s m args below meth c H locs 0 0 Q (F0 m pc ls [.int x])) (C : CallFix p m c prog_2_method_7_code 2 s args ga_ws "RankHouse$Letter") : ∀ (s0 : Int32), f_Letter_number_b22 S I J s0 = some zz → ∀ (ls : Array Slot) (H : Heap) (locs : List Loc), lv_has ls 2 [] → ga_W D T z L S I J s H locs → W p l e rm_Letter_number s m args below meth c H locs 0 0 Q (F0 m 22 ls [.int s0]) := by
  intro s0 hF ls H locs hl hw
  have hx := C.1
  have hb := C.2.1
  rw [f_Letter_number_b22] at hF
  exact hret _ _ _ _ _ (Option.some.inj hF) d_Letter_number_22 hw
set_option maxHeartbeats 4000000 in
set_option maxRecDepth 100000 in
theorem m_Letter_number_b21 {I : gMI} {J : gMJ} {zz : Int32} (hret : ∀ (pc : Nat) (ls : Array Slot) (H : Heap) (locs : List Loc) (x : Int32), (x) = zz → decode prog_2_method_7_code pc = .ok (.ireturn, 1) → ga_W D T z L S I J s H locs → W p l e rm_Letter_number s m args below meth c H locs 0 0 Q (F0 m pc ls [.int x])) (C : CallFix p m c prog_2_method_7_code 2 s args ga_ws "RankHouse$Letter") : f_Letter_number_b21 S I J = some zz → ∀ (ls : Array Slot) (H : Heap) (locs : List Loc), lv_has ls 2 [] → ga_W D T z L S I J s H locs → W p l e rm_Letter_number s m args below meth c H locs 0 0 Q (F0 m 21 ls []) := by
  intro hF ls H locs hl hw
  have hx := C.1
  have hb := C.2.1
  rw [f_Letter_number_b21] at hF
  refine lv_iconst (v := 0) hx hb d_Letter_number_21 (by decide) ?_
  exact m_Letter_number_b22 hret C _ hF _ _ _ hl hw
set_option maxHeartbeats 4000000 in
set_option maxRecDepth 100000 in
theorem c_Letter_number (l : Launch) (D : va_G) (T : Nat → ClassId) (z : Nat) (L : List Nat) {S : gS} {I : gMI} {J : gMJ} {p0 : Nat} {p1 : Int32} {r : Int32} (hF : f_Letter_number S I J p0 p1 = some (r)) : ga_Mi l y_Letter_number prog_2_method_7_code 2 (Option.some Jvm.ClassFile.FieldType.int) rm_Letter_number [.ref p0, .int p1] D T z L S I J r I J := by
  refine Met.ofW (cc := prog_2_method_7_code) (maxL := 2) (ret := (Option.some Jvm.ClassFile.FieldType.int)) (by decide) rfl ?_
  intro p e s m args below meth c s₁ B hml hv
  obtain ⟨ha, hv⟩ := hv
  have hx := B.exec
  have hb := B.bytes
  have hr := B.returns
  have hts := atoms_spec (ws := .code y_Letter_number prog_2_method_7_code 2 (Option.some Jvm.ClassFile.FieldType.int) :: ga_ws) B.pre
  have hown : s.vm.findClass "RankHouse$Letter" = some m.cls := findClass_of_methodNamed B.named
  have hlocks := B.notSynchronized
  have C : CallFix p m c prog_2_method_7_code 2 s args ga_ws "RankHouse$Letter" := ⟨hx, hb, hml, hown, fun w h => hts w (List.mem_cons_of_mem _ h)⟩
  have hw := ga_start hv
  have hl := lv_entry ([.ref p0, .int p1]) (n := 2) (Nat.le_of_ble_eq_true rfl)
  rw [show entryFrame m args 2 = entryFrame m ([.ref p0, .int p1] : List Value).toArray 2 by rw [ha], lg_entry_eq]
  generalize (lg_sl ([.ref p0, .int p1]) ++ List.replicate (2 - (lg_sl ([.ref p0, .int p1])).length) Slot.unset).toArray = ls at hl ⊢
  have hl : lv_has ls 2 [(0, .ref p0), (1, .int p1)] := hl
  have key : ∀ Q : State → Prop, (∀ (pc : Nat) (ls : Array Slot) (H : Heap) (locs : List Loc) (x : Int32), (x) = (r) → decode prog_2_method_7_code pc = .ok (.ireturn, 1) → ga_W D T z L S I J s H locs → W p l e rm_Letter_number s m args below meth c H locs 0 0 Q (F0 m pc ls [.int x])) → W p l e rm_Letter_number s m args below meth c s.heap [] 0 0 Q (F0 m 0 ls []) := by
    intro Q hret
    rw [f_Letter_number] at hF
    refine lv_iload_n hx hb d_Letter_number_0 rfl (lv_at hl 1 rfl) ?_
    by_cases h1 : p1 < 0
    · rw [if_pos h1] at hF
      refine lv_if_lt (tgt := 21) hx hb d_Letter_number_1 (by decide) (fun _ => ?_) (fun hn => absurd h1 hn)
      exact m_Letter_number_b21 hret C hF _ _ _ (lv_sub hl [] rfl) hw
    · rw [if_neg h1] at hF
      refine lv_if_lt (tgt := 21) hx hb d_Letter_number_1 (by decide) (fun hp => absurd hp h1) (fun _ => ?_)
      refine lv_iload_n hx hb d_Letter_number_4 rfl (lv_at hl 1 rfl) ?_
      refine lv_aload_n hx hb d_Letter_number_5 rfl (lv_at hl 0 rfl) ?_
      obtain ⟨t2, hF⟩ := gd_ex hF
      refine ga_getI C hw gf_Letter_34 t2 d_Letter_number_6 ?_
      by_cases h3 : (I p0 1) ≤ p1
      · rw [if_pos h3] at hF
        refine lv_icmp_ge (tgt := 21) hx hb d_Letter_number_9 (by decide) (fun _ => ?_) (fun hn => absurd h3 hn)
        exact m_Letter_number_b21 hret C hF _ _ _ (lv_sub hl [] rfl) hw
      · rw [if_neg h3] at hF
        refine lv_icmp_ge (tgt := 21) hx hb d_Letter_number_9 (by decide) (fun hp => absurd hp h3) (fun _ => ?_)
        refine lv_aload_n hx hb d_Letter_number_12 rfl (lv_at hl 0 rfl) ?_
        obtain ⟨r4, hr4, hF⟩ := ob_ex hF
        refine ga_getR C hw gf_Letter_9 t2 hr4 d_Letter_number_13 ?_
        refine lv_iload_n hx hb d_Letter_number_16 rfl (lv_at hl 1 rfl) ?_
        obtain ⟨t5, hF⟩ := gd_ex hF
        obtain ⟨b6, hF⟩ := gd_ex hF
        refine ga_iald C hw t5 b6 d_Letter_number_17 ?_
        refine lv_goto (tgt := 22) hx hb d_Letter_number_18 (by decide) ?_
        exact m_Letter_number_b22 hret C _ hF _ _ _ (lv_sub hl [] rfl) hw
  refine key _ (fun pc ls H locs x he hd hw => ?_)
  · cases he
    exact W.iret hx hb hr (fun t ht _ => ⟨⟨_, (), rfl, rfl, ga_o hw ht⟩, hw.2.2.2.1.F ht⟩) hw.2.2.2.1.2.2 hd
set_option maxHeartbeats 4000000 in
set_option maxRecDepth 100000 in
theorem c_Letter_tell (l : Launch) (D : va_G) (T : Nat → ClassId) (z : Nat) (L : List Nat) {S : gS} {I : gMI} {J : gMJ} {p0 : Nat} {p1 : Int32} {r : Int32} (hF : f_Letter_tell S I J p0 p1 = some (r)) : ga_Mi l y_Letter_tell prog_2_method_8_code 2 (Option.some Jvm.ClassFile.FieldType.int) rm_Letter_tell [.ref p0, .int p1] D T z L S I J r I J := by
  refine Met.ofW (cc := prog_2_method_8_code) (maxL := 2) (ret := (Option.some Jvm.ClassFile.FieldType.int)) (by decide) rfl ?_
  intro p e s m args below meth c s₁ B hml hv
  obtain ⟨ha, hv⟩ := hv
  have hx := B.exec
  have hb := B.bytes
  have hr := B.returns
  have hts := atoms_spec (ws := .code y_Letter_tell prog_2_method_8_code 2 (Option.some Jvm.ClassFile.FieldType.int) :: ga_ws) B.pre
  have hown : s.vm.findClass "RankHouse$Letter" = some m.cls := findClass_of_methodNamed B.named
  have hlocks := B.notSynchronized
  have C : CallFix p m c prog_2_method_8_code 2 s args ga_ws "RankHouse$Letter" := ⟨hx, hb, hml, hown, fun w h => hts w (List.mem_cons_of_mem _ h)⟩
  have hw := ga_start hv
  have hl := lv_entry ([.ref p0, .int p1]) (n := 2) (Nat.le_of_ble_eq_true rfl)
  rw [show entryFrame m args 2 = entryFrame m ([.ref p0, .int p1] : List Value).toArray 2 by rw [ha], lg_entry_eq]
  generalize (lg_sl ([.ref p0, .int p1]) ++ List.replicate (2 - (lg_sl ([.ref p0, .int p1])).length) Slot.unset).toArray = ls at hl ⊢
  have hl : lv_has ls 2 [(0, .ref p0), (1, .int p1)] := hl
  have key : ∀ Q : State → Prop, (∀ (pc : Nat) (ls : Array Slot) (H : Heap) (locs : List Loc) (x : Int32), (x) = (r) → decode prog_2_method_8_code pc = .ok (.ireturn, 1) → ga_W D T z L S I J s H locs → W p l e rm_Letter_tell s m args below meth c H locs 0 0 Q (F0 m pc ls [.int x])) → W p l e rm_Letter_tell s m args below meth c s.heap [] 0 0 Q (F0 m 0 ls []) := by
    intro Q hret
    rw [f_Letter_tell] at hF
    refine lv_iload_n hx hb d_Letter_tell_0 rfl (lv_at hl 1 rfl) ?_
    by_cases h1 : p1 = (0 : Int32)
    · rw [if_pos h1] at hF
      refine lv_tableIn (tgt := 44) hx hb d_Letter_tell_1 (by rw [h1]; decide) (by rw [h1]; decide) (by rw [h1]; rfl) (by decide) ?_
      refine lv_aload_n hx hb d_Letter_tell_44 rfl (lv_at hl 0 rfl) ?_
      obtain ⟨t2, hF⟩ := gd_ex hF
      refine ga_getI C hw gf_Letter_15 t2 d_Letter_tell_45 ?_
      exact hret _ _ _ _ _ (Option.some.inj hF) d_Letter_tell_48 hw
    · rw [if_neg h1] at hF
      by_cases h3 : p1 = (1 : Int32)
      · rw [if_pos h3] at hF
        refine lv_tableIn (tgt := 49) hx hb d_Letter_tell_1 (by rw [h3]; decide) (by rw [h3]; decide) (by rw [h3]; rfl) (by decide) ?_
        refine lv_aload_n hx hb d_Letter_tell_49 rfl (lv_at hl 0 rfl) ?_
        obtain ⟨t4, hF⟩ := gd_ex hF
        refine ga_getI C hw gf_Letter_19 t4 d_Letter_tell_50 ?_
        exact hret _ _ _ _ _ (Option.some.inj hF) d_Letter_tell_53 hw
      · rw [if_neg h3] at hF
        by_cases h5 : p1 = (2 : Int32)
        · rw [if_pos h5] at hF
          refine lv_tableIn (tgt := 54) hx hb d_Letter_tell_1 (by rw [h5]; decide) (by rw [h5]; decide) (by rw [h5]; rfl) (by decide) ?_
          refine lv_aload_n hx hb d_Letter_tell_54 rfl (lv_at hl 0 rfl) ?_
          obtain ⟨t6, hF⟩ := gd_ex hF
          refine ga_getI C hw gf_Letter_25 t6 d_Letter_tell_55 ?_
          exact hret _ _ _ _ _ (Option.some.inj hF) d_Letter_tell_58 hw
        · rw [if_neg h5] at hF
          by_cases h7 : p1 = (3 : Int32)
          · rw [if_pos h7] at hF
            refine lv_tableIn (tgt := 59) hx hb d_Letter_tell_1 (by rw [h7]; decide) (by rw [h7]; decide) (by rw [h7]; rfl) (by decide) ?_
            refine lv_aload_n hx hb d_Letter_tell_59 rfl (lv_at hl 0 rfl) ?_
            obtain ⟨t8, hF⟩ := gd_ex hF
            refine ga_getI C hw gf_Letter_28 t8 d_Letter_tell_60 ?_
            exact hret _ _ _ _ _ (Option.some.inj hF) d_Letter_tell_63 hw
          · rw [if_neg h7] at hF
            by_cases h9 : p1 = (4 : Int32)
            · rw [if_pos h9] at hF
              refine lv_tableIn (tgt := 64) hx hb d_Letter_tell_1 (by rw [h9]; decide) (by rw [h9]; decide) (by rw [h9]; rfl) (by decide) ?_
              refine lv_aload_n hx hb d_Letter_tell_64 rfl (lv_at hl 0 rfl) ?_
              obtain ⟨t10, hF⟩ := gd_ex hF
              refine ga_getI C hw gf_Letter_31 t10 d_Letter_tell_65 ?_
              exact hret _ _ _ _ _ (Option.some.inj hF) d_Letter_tell_68 hw
            · rw [if_neg h9] at hF
              by_cases h11 : p1 = (5 : Int32)
              · rw [if_pos h11] at hF
                refine lv_tableIn (tgt := 69) hx hb d_Letter_tell_1 (by rw [h11]; decide) (by rw [h11]; decide) (by rw [h11]; rfl) (by decide) ?_
                refine lv_aload_n hx hb d_Letter_tell_69 rfl (lv_at hl 0 rfl) ?_
                obtain ⟨t12, hF⟩ := gd_ex hF
                refine ga_getI C hw gf_Letter_22 t12 d_Letter_tell_70 ?_
                exact hret _ _ _ _ _ (Option.some.inj hF) d_Letter_tell_73 hw
              · rw [if_neg h11] at hF
                by_cases h13 : p1 = (6 : Int32)
                · rw [if_pos h13] at hF
                  refine lv_tableIn (tgt := 74) hx hb d_Letter_tell_1 (by rw [h13]; decide) (by rw [h13]; decide) (by rw [h13]; rfl) (by decide) ?_
                  refine lv_aload_n hx hb d_Letter_tell_74 rfl (lv_at hl 0 rfl) ?_
                  obtain ⟨t14, hF⟩ := gd_ex hF
                  refine ga_getI C hw gf_Letter_34 t14 d_Letter_tell_75 ?_
                  exact hret _ _ _ _ _ (Option.some.inj hF) d_Letter_tell_78 hw
                · rw [if_neg h13] at hF
                  refine lv_tableOut (tgt := 79) hx hb d_Letter_tell_1 (ga_out0_6 h1 h3 h5 h7 h9 h11 h13) (by decide) ?_
                  refine lv_aload_n hx hb d_Letter_tell_79 rfl (lv_at hl 0 rfl) ?_
                  refine lv_iload_n hx hb d_Letter_tell_80 rfl (lv_at hl 1 rfl) ?_
                  refine lv_bipush (v := 7) hx hb d_Letter_tell_81 (by decide) ?_
                  refine lv_isub hx hb d_Letter_tell_83 ?_
                  obtain ⟨t15, hF⟩ := gd_ex hF
                  obtain ⟨x16, c17, hF⟩ := ob_ex hF
                  refine ga_cVi (As := [.int (p1 - (7 : Int32))]) C hw (c_Letter_number l D T z L c17) gy_Letter_51 t15 rfl hl.1 ⟨Nat.le_of_ble_eq_true rfl, Nat.le_of_ble_eq_true rfl, rfl, rfl, Nat.le_of_ble_eq_true rfl, Nat.le_of_ble_eq_true rfl⟩ (Nat.le_of_ble_eq_true rfl) rfl d_Letter_tell_84 (fun H locs hw => ?_)
                  exact hret _ _ _ _ _ (Option.some.inj hF) d_Letter_tell_87 hw
  refine key _ (fun pc ls H locs x he hd hw => ?_)
  · cases he
    exact W.iret hx hb hr (fun t ht _ => ⟨⟨_, (), rfl, rfl, ga_o hw ht⟩, hw.2.2.2.1.F ht⟩) hw.2.2.2.1.2.2 hd
set_option maxHeartbeats 4000000 in
set_option maxRecDepth 100000 in
theorem m_Letter_isAsking_b15 {I : gMI} {J : gMJ} {zz : Int32} (hret : ∀ (pc : Nat) (ls : Array Slot) (H : Heap) (locs : List Loc) (x : Int32), (x) = zz → decode prog_2_method_2_code pc = .ok (.ireturn, 1) → (x = 0 ∨ x = 1) → ga_W D T z L S I J s H locs → W p l e rm_Letter_isAsking s m args below meth c H locs 0 0 Q (F0 m pc ls [.int x])) (C : CallFix p m c prog_2_method_2_code 1 s args ga_ws "RankHouse$Letter") : ∀ (s0 : Int32), f_Letter_isAsking_b15 S I J s0 = some zz → ∀ (ls : Array Slot) (H : Heap) (locs : List Loc), lv_has ls 1 [] → ga_W D T z L S I J s H locs → W p l e rm_Letter_isAsking s m args below meth c H locs 0 0 Q (F0 m 15 ls [.int s0]) := by
  intro s0 hF ls H locs hl hw
  have hx := C.1
  have hb := C.2.1
  rw [f_Letter_isAsking_b15] at hF
  obtain ⟨z1, hF⟩ := gd_ex hF
  exact hret _ _ _ _ _ (Option.some.inj hF) d_Letter_isAsking_15 z1 hw
set_option maxHeartbeats 4000000 in
set_option maxRecDepth 100000 in
theorem c_Letter_isAsking (l : Launch) (D : va_G) (T : Nat → ClassId) (z : Nat) (L : List Nat) {S : gS} {I : gMI} {J : gMJ} {p0 : Nat} {r : Int32} (hF : f_Letter_isAsking S I J p0 = some (r)) : ga_Mi l y_Letter_isAsking prog_2_method_2_code 1 (Option.some Jvm.ClassFile.FieldType.boolean) rm_Letter_isAsking [.ref p0] D T z L S I J r I J := by
  refine Met.ofW (cc := prog_2_method_2_code) (maxL := 1) (ret := (Option.some Jvm.ClassFile.FieldType.boolean)) (by decide) rfl ?_
  intro p e s m args below meth c s₁ B hml hv
  obtain ⟨ha, hv⟩ := hv
  have hx := B.exec
  have hb := B.bytes
  have hr := B.returns
  have hts := atoms_spec (ws := .code y_Letter_isAsking prog_2_method_2_code 1 (Option.some Jvm.ClassFile.FieldType.boolean) :: ga_ws) B.pre
  have hown : s.vm.findClass "RankHouse$Letter" = some m.cls := findClass_of_methodNamed B.named
  have hlocks := B.notSynchronized
  have C : CallFix p m c prog_2_method_2_code 1 s args ga_ws "RankHouse$Letter" := ⟨hx, hb, hml, hown, fun w h => hts w (List.mem_cons_of_mem _ h)⟩
  have hw := ga_start hv
  have hl := lv_entry ([.ref p0]) (n := 1) (Nat.le_of_ble_eq_true rfl)
  rw [show entryFrame m args 1 = entryFrame m ([.ref p0] : List Value).toArray 1 by rw [ha], lg_entry_eq]
  generalize (lg_sl ([.ref p0]) ++ List.replicate (1 - (lg_sl ([.ref p0])).length) Slot.unset).toArray = ls at hl ⊢
  have hl : lv_has ls 1 [(0, .ref p0)] := hl
  have key : ∀ Q : State → Prop, (∀ (pc : Nat) (ls : Array Slot) (H : Heap) (locs : List Loc) (x : Int32), (x) = (r) → decode prog_2_method_2_code pc = .ok (.ireturn, 1) → (x = 0 ∨ x = 1) → ga_W D T z L S I J s H locs → W p l e rm_Letter_isAsking s m args below meth c H locs 0 0 Q (F0 m pc ls [.int x])) → W p l e rm_Letter_isAsking s m args below meth c s.heap [] 0 0 Q (F0 m 0 ls []) := by
    intro Q hret
    rw [f_Letter_isAsking] at hF
    refine lv_aload_n hx hb d_Letter_isAsking_0 rfl (lv_at hl 0 rfl) ?_
    obtain ⟨t1, hF⟩ := gd_ex hF
    refine ga_getI C hw gf_Letter_15 t1 d_Letter_isAsking_1 ?_
    refine lv_iconst (v := 2) hx hb d_Letter_isAsking_4 (by decide) ?_
    refine lv_irem hx hb d_Letter_isAsking_5 (by decide) ?_
    refine lv_iconst (v := 1) hx hb d_Letter_isAsking_6 (by decide) ?_
    by_cases h2 : ((I p0 3) - (I p0 3) / (2 : Int32) * (2 : Int32)) = (1 : Int32)
    · rw [if_pos h2] at hF
      refine lv_icmp_ne (tgt := 14) hx hb d_Letter_isAsking_7 (by decide) (fun hn => absurd h2 hn) (fun _ => ?_)
      refine lv_iconst (v := 1) hx hb d_Letter_isAsking_10 (by decide) ?_
      refine lv_goto (tgt := 15) hx hb d_Letter_isAsking_11 (by decide) ?_
      exact m_Letter_isAsking_b15 hret C _ hF _ _ _ (lv_sub hl [] rfl) hw
    · rw [if_neg h2] at hF
      refine lv_icmp_ne (tgt := 14) hx hb d_Letter_isAsking_7 (by decide) (fun _ => ?_) (fun hp => absurd hp h2)
      refine lv_iconst (v := 0) hx hb d_Letter_isAsking_14 (by decide) ?_
      exact m_Letter_isAsking_b15 hret C _ hF _ _ _ (lv_sub hl [] rfl) hw
  refine key _ (fun pc ls H locs x he hd hz hw => ?_)
  · cases he
    exact W.zret hx hb hr (ga_zb hz) (fun t ht _ => ⟨⟨_, (), rfl, rfl, ga_o hw ht⟩, hw.2.2.2.1.F ht⟩) hw.2.2.2.1.2.2 hd
set_option maxHeartbeats 4000000 in
set_option maxRecDepth 100000 in
theorem c_Letter_replyTo (l : Launch) (D : va_G) (T : Nat → ClassId) (z : Nat) (L : List Nat) {S : gS} {I : gMI} {J : gMJ} {p0 : Nat} {p1 : Nat} {RI : gMI} {RJ : gMJ} (hF : f_Letter_replyTo S I J p0 p1 = some (RI, RJ)) : ga_Mv l y_Letter_replyTo prog_2_method_5_code 2 (Option.none : Option Jvm.ClassFile.FieldType) rm_Letter_replyTo [.ref p0, .ref p1] D T z L S I J RI RJ := by
  refine Met.ofW (cc := prog_2_method_5_code) (maxL := 2) (ret := (Option.none : Option Jvm.ClassFile.FieldType)) (by decide) rfl ?_
  intro p e s m args below meth c s₁ B hml hv
  obtain ⟨ha, hv⟩ := hv
  have hx := B.exec
  have hb := B.bytes
  have hr := B.returns
  have hts := atoms_spec (ws := .code y_Letter_replyTo prog_2_method_5_code 2 (Option.none : Option Jvm.ClassFile.FieldType) :: ga_ws) B.pre
  have hown : s.vm.findClass "RankHouse$Letter" = some m.cls := findClass_of_methodNamed B.named
  have hlocks := B.notSynchronized
  have C : CallFix p m c prog_2_method_5_code 2 s args ga_ws "RankHouse$Letter" := ⟨hx, hb, hml, hown, fun w h => hts w (List.mem_cons_of_mem _ h)⟩
  have hw := ga_start hv
  have hl := lv_entry ([.ref p0, .ref p1]) (n := 2) (Nat.le_of_ble_eq_true rfl)
  rw [show entryFrame m args 2 = entryFrame m ([.ref p0, .ref p1] : List Value).toArray 2 by rw [ha], lg_entry_eq]
  generalize (lg_sl ([.ref p0, .ref p1]) ++ List.replicate (2 - (lg_sl ([.ref p0, .ref p1])).length) Slot.unset).toArray = ls at hl ⊢
  have hl : lv_has ls 2 [(0, .ref p0), (1, .ref p1)] := hl
  have key : ∀ Q : State → Prop, (∀ (pc : Nat) (ls : Array Slot) (H : Heap) (locs : List Loc) (I1 : gMI) (J1 : gMJ), (I1, J1) = (RI, RJ) → decode prog_2_method_5_code pc = .ok (.return_, 1) → ga_W D T z L S I1 J1 s H locs → W p l e rm_Letter_replyTo s m args below meth c H locs 0 0 Q (F0 m pc ls [])) → W p l e rm_Letter_replyTo s m args below meth c s.heap [] 0 0 Q (F0 m 0 ls []) := by
    intro Q hret
    rw [f_Letter_replyTo] at hF
    refine lv_aload_n hx hb d_Letter_replyTo_0 rfl (lv_at hl 0 rfl) ?_
    refine lv_aload_n hx hb d_Letter_replyTo_1 rfl (lv_at hl 1 rfl) ?_
    obtain ⟨t1, hF⟩ := gd_ex hF
    refine ga_getI C hw gf_Letter_15 t1 d_Letter_replyTo_2 ?_
    refine lv_iconst (v := 1) hx hb d_Letter_replyTo_5 (by decide) ?_
    refine lv_iadd hx hb d_Letter_replyTo_6 ?_
    refine lv_aload_n hx hb d_Letter_replyTo_7 rfl (lv_at hl 1 rfl) ?_
    refine ga_getI C hw gf_Letter_19 t1 d_Letter_replyTo_8 ?_
    refine lv_aload_n hx hb d_Letter_replyTo_11 rfl (lv_at hl 1 rfl) ?_
    refine ga_getI C hw gf_Letter_22 t1 d_Letter_replyTo_12 ?_
    refine lv_aload_n hx hb d_Letter_replyTo_15 rfl (lv_at hl 1 rfl) ?_
    refine ga_getI C hw gf_Letter_25 t1 d_Letter_replyTo_16 ?_
    refine lv_aload_n hx hb d_Letter_replyTo_19 rfl (lv_at hl 1 rfl) ?_
    refine ga_getI C hw gf_Letter_31 t1 d_Letter_replyTo_20 ?_
    refine lv_aload_n hx hb d_Letter_replyTo_23 rfl (lv_at hl 1 rfl) ?_
    refine ga_getI C hw gf_Letter_28 t1 d_Letter_replyTo_24 ?_
    obtain ⟨t2, hF⟩ := gd_ex hF
    obtain ⟨I3, J4, c5, hF⟩ := bd2_ex hF
    refine ga_cVv (As := [.int ((I p1 3) + (1 : Int32)), .int (I p1 4), .int (I p1 5), .int (I p1 6), .int (I p1 8), .int (I p1 7)]) C hw (c_Letter_address l D T z L c5) gy_Letter_41 t2 rfl hl.1 ⟨Nat.le_of_ble_eq_true rfl, Nat.le_of_ble_eq_true rfl, rfl, rfl, Nat.le_of_ble_eq_true rfl, Nat.le_of_ble_eq_true rfl⟩ (Nat.le_of_ble_eq_true rfl) rfl d_Letter_replyTo_27 (fun H locs hw => ?_)
    exact hret _ _ _ _ _ _ (Option.some.inj hF) d_Letter_replyTo_30 hw
  refine key _ (fun pc ls H locs I1 J1 he hd hw => ?_)
  · cases he
    exact W.vret hx hb hr (fun t ht _ => ⟨⟨(), rfl, trivial, ga_o hw ht⟩, hw.2.2.2.1.F ht⟩) hw.2.2.2.1.2.2 hd
set_option maxHeartbeats 4000000 in
set_option maxRecDepth 100000 in
theorem m_Letter_putPart_b45 {J : gMJ} {zz : gMI} (hret : ∀ (pc : Nat) (ls : Array Slot) (H : Heap) (locs : List Loc) (I1 : gMI), (I1) = zz → decode prog_2_method_10_code pc = .ok (.return_, 1) → ga_W D T z L S I1 J s H locs → W p l e rm_Letter_putPart s m args below meth c H locs 0 0 Q (F0 m pc ls [])) (C : CallFix p m c prog_2_method_10_code 5 s args ga_ws "RankHouse$Letter") : ∀ (I : gMI) (s0 : Int32) (s1 : Nat), f_Letter_putPart_b45 S J I s0 s1 = some zz → ∀ (ls : Array Slot) (H : Heap) (locs : List Loc), lv_has ls 5 [] → ga_W D T z L S I J s H locs → W p l e rm_Letter_putPart s m args below meth c H locs 0 0 Q (F0 m 45 ls [.int s0, .ref s1]) := by
  intro I s0 s1 hF ls H locs hl hw
  have hx := C.1
  have hb := C.2.1
  rw [f_Letter_putPart_b45] at hF
  obtain ⟨t1, hF⟩ := gd_ex hF
  obtain ⟨I2, c3, hF⟩ := ob_ex hF
  refine ga_cVv (As := [.int s0]) C hw (c_Letter_put l D T z L c3) gy_Letter_60 t1 rfl hl.1 ⟨Nat.le_of_ble_eq_true rfl, Nat.le_of_ble_eq_true rfl, rfl, rfl, Nat.le_of_ble_eq_true rfl, Nat.le_of_ble_eq_true rfl⟩ (Nat.le_of_ble_eq_true rfl) rfl d_Letter_putPart_45 (fun H locs hw => ?_)
  exact hret _ _ _ _ _ (Option.some.inj hF) d_Letter_putPart_48 hw
set_option maxHeartbeats 4000000 in
set_option maxRecDepth 100000 in
theorem c_Letter_putPart (l : Launch) (D : va_G) (T : Nat → ClassId) (z : Nat) (L : List Nat) {S : gS} {I : gMI} {J : gMJ} {p0 : Nat} {p1 : Nat} {p2 : Int32} {p3 : Int32} {RI : gMI} (hF : f_Letter_putPart S I J p0 p1 p2 p3 = some (RI)) : ga_Mv l y_Letter_putPart prog_2_method_10_code 5 (Option.none : Option Jvm.ClassFile.FieldType) rm_Letter_putPart [.ref p0, .ref p1, .int p2, .int p3] D T z L S I J RI J := by
  refine Met.ofW (cc := prog_2_method_10_code) (maxL := 5) (ret := (Option.none : Option Jvm.ClassFile.FieldType)) (by decide) rfl ?_
  intro p e s m args below meth c s₁ B hml hv
  obtain ⟨ha, hv⟩ := hv
  have hx := B.exec
  have hb := B.bytes
  have hr := B.returns
  have hts := atoms_spec (ws := .code y_Letter_putPart prog_2_method_10_code 5 (Option.none : Option Jvm.ClassFile.FieldType) :: ga_ws) B.pre
  have hown : s.vm.findClass "RankHouse$Letter" = some m.cls := findClass_of_methodNamed B.named
  have hlocks := B.notSynchronized
  have C : CallFix p m c prog_2_method_10_code 5 s args ga_ws "RankHouse$Letter" := ⟨hx, hb, hml, hown, fun w h => hts w (List.mem_cons_of_mem _ h)⟩
  have hw := ga_start hv
  have hl := lv_entry ([.ref p0, .ref p1, .int p2, .int p3]) (n := 5) (Nat.le_of_ble_eq_true rfl)
  rw [show entryFrame m args 5 = entryFrame m ([.ref p0, .ref p1, .int p2, .int p3] : List Value).toArray 5 by rw [ha], lg_entry_eq]
  generalize (lg_sl ([.ref p0, .ref p1, .int p2, .int p3]) ++ List.replicate (5 - (lg_sl ([.ref p0, .ref p1, .int p2, .int p3])).length) Slot.unset).toArray = ls at hl ⊢
  have hl : lv_has ls 5 [(0, .ref p0), (1, .ref p1), (2, .int p2), (3, .int p3)] := hl
  have key : ∀ Q : State → Prop, (∀ (pc : Nat) (ls : Array Slot) (H : Heap) (locs : List Loc) (I1 : gMI), (I1) = (RI) → decode prog_2_method_10_code pc = .ok (.return_, 1) → ga_W D T z L S I1 J s H locs → W p l e rm_Letter_putPart s m args below meth c H locs 0 0 Q (F0 m pc ls [])) → W p l e rm_Letter_putPart s m args below meth c s.heap [] 0 0 Q (F0 m 0 ls []) := by
    intro Q hret
    rw [f_Letter_putPart] at hF
    refine lv_aload_n hx hb d_Letter_putPart_0 rfl (lv_at hl 1 rfl) ?_
    refine lv_iload_n hx hb d_Letter_putPart_1 rfl (lv_at hl 2 rfl) ?_
    refine lv_i2l hx hb d_Letter_putPart_2 rfl ?_
    refine lv_iload_n hx hb d_Letter_putPart_3 rfl (lv_at hl 3 rfl) ?_
    refine lv_i2l hx hb d_Letter_putPart_4 rfl ?_
    obtain ⟨t1, hF⟩ := gd_ex hF
    obtain ⟨x2, c3, hF⟩ := ob_ex hF
    refine ga_cVi (As := [.long p2.toInt64, .long p3.toInt64]) C hw (c_SortedRow_within l D T z L c3) gy_Letter_74 t1 rfl hl.1 ⟨Nat.le_of_ble_eq_true rfl, Nat.le_of_ble_eq_true rfl, rfl, rfl, Nat.le_of_ble_eq_true rfl, Nat.le_of_ble_eq_true rfl⟩ (Nat.le_of_ble_eq_true rfl) rfl d_Letter_putPart_5 (fun H locs hw => ?_)
    refine lv_istore hx hb d_Letter_putPart_8 hl (by decide) rfl (fun ls hl => ?_)
    have hl : lv_has ls 5 [(4, .int x2), (0, .ref p0), (1, .ref p1), (2, .int p2), (3, .int p3)] := hl
    refine lv_aload_n hx hb d_Letter_putPart_10 rfl (lv_at hl 1 rfl) ?_
    refine lv_iload hx hb d_Letter_putPart_11 (lv_at hl 0 rfl) ?_
    obtain ⟨t4, hF⟩ := gd_ex hF
    obtain ⟨I5, c6, hF⟩ := ob_ex hF
    refine ga_cVv (As := [.int x2]) C hw (c_Letter_put l D T z L c6) gy_Letter_60 t4 rfl hl.1 ⟨Nat.le_of_ble_eq_true rfl, Nat.le_of_ble_eq_true rfl, rfl, rfl, Nat.le_of_ble_eq_true rfl, Nat.le_of_ble_eq_true rfl⟩ (Nat.le_of_ble_eq_true rfl) rfl d_Letter_putPart_13 (fun H locs hw => ?_)
    refine lv_aload_n hx hb d_Letter_putPart_16 rfl (lv_at hl 1 rfl) ?_
    refine lv_iload hx hb d_Letter_putPart_17 (lv_at hl 0 rfl) ?_
    by_cases h7 : x2 = 0
    · rw [if_pos h7] at hF
      refine lv_if_ne (tgt := 26) hx hb d_Letter_putPart_19 (by decide) (fun hn => absurd h7 hn) (fun _ => ?_)
      refine lv_iconst (v := 0) hx hb d_Letter_putPart_22 (by decide) ?_
      refine lv_goto (tgt := 45) hx hb d_Letter_putPart_23 (by decide) ?_
      exact m_Letter_putPart_b45 hret C _ _ _ hF _ _ _ (lv_sub hl [] rfl) hw
    · rw [if_neg h7] at hF
      refine lv_if_ne (tgt := 26) hx hb d_Letter_putPart_19 (by decide) (fun _ => ?_) (fun hp => absurd hp h7)
      refine lv_aload_n hx hb d_Letter_putPart_26 rfl (lv_at hl 2 rfl) ?_
      refine lv_aload_n hx hb d_Letter_putPart_27 rfl (lv_at hl 2 rfl) ?_
      refine lv_iload_n hx hb d_Letter_putPart_28 rfl (lv_at hl 3 rfl) ?_
      refine lv_i2l hx hb d_Letter_putPart_29 rfl ?_
      obtain ⟨x8, c9, hF⟩ := ob_ex hF
      refine ga_cVi (As := [.long p2.toInt64]) C hw (c_SortedRow_below l D T z L c9) gy_Letter_81 t1 rfl hl.1 ⟨Nat.le_of_ble_eq_true rfl, Nat.le_of_ble_eq_true rfl, rfl, rfl, Nat.le_of_ble_eq_true rfl, Nat.le_of_ble_eq_true rfl⟩ (Nat.le_of_ble_eq_true rfl) rfl d_Letter_putPart_30 (fun H locs hw => ?_)
      refine lv_iload hx hb d_Letter_putPart_33 (lv_at hl 0 rfl) ?_
      refine lv_iconst (v := 1) hx hb d_Letter_putPart_35 (by decide) ?_
      refine lv_iadd hx hb d_Letter_putPart_36 ?_
      refine lv_iconst (v := 2) hx hb d_Letter_putPart_37 (by decide) ?_
      refine lv_idiv hx hb d_Letter_putPart_38 (by decide) ?_
      refine lv_iadd hx hb d_Letter_putPart_39 ?_
      refine lv_iconst (v := 1) hx hb d_Letter_putPart_40 (by decide) ?_
      refine lv_isub hx hb d_Letter_putPart_41 ?_
      obtain ⟨x10, c11, hF⟩ := ob_ex hF
      refine ga_cVi (As := [.int ((x8 + ((x2 + (1 : Int32)) / (2 : Int32))) - (1 : Int32))]) C hw (c_SortedRow_at l D T z L c11) gy_Letter_85 t1 rfl hl.1 ⟨Nat.le_of_ble_eq_true rfl, Nat.le_of_ble_eq_true rfl, rfl, rfl, Nat.le_of_ble_eq_true rfl, Nat.le_of_ble_eq_true rfl⟩ (Nat.le_of_ble_eq_true rfl) rfl d_Letter_putPart_42 (fun H locs hw => ?_)
      exact m_Letter_putPart_b45 hret C _ _ _ hF _ _ _ (lv_sub hl [] rfl) hw
  refine key _ (fun pc ls H locs I1 he hd hw => ?_)
  · cases he
    exact W.vret hx hb hr (fun t ht _ => ⟨⟨(), rfl, trivial, ga_o hw ht⟩, hw.2.2.2.1.F ht⟩) hw.2.2.2.1.2.2 hd
set_option maxHeartbeats 4000000 in
set_option maxRecDepth 100000 in
theorem c_Letter_putSides (l : Launch) (D : va_G) (T : Nat → ClassId) (z : Nat) (L : List Nat) {S : gS} {I : gMI} {J : gMJ} {p0 : Nat} {p1 : Nat} {p2 : Int32} {p3 : Int32} {RI : gMI} (hF : f_Letter_putSides S I J p0 p1 p2 p3 = some (RI)) : ga_Mv l y_Letter_putSides prog_2_method_11_code 4 (Option.none : Option Jvm.ClassFile.FieldType) rm_Letter_putSides [.ref p0, .ref p1, .int p2, .int p3] D T z L S I J RI J := by
  refine Met.ofW (cc := prog_2_method_11_code) (maxL := 4) (ret := (Option.none : Option Jvm.ClassFile.FieldType)) (by decide) rfl ?_
  intro p e s m args below meth c s₁ B hml hv
  obtain ⟨ha, hv⟩ := hv
  have hx := B.exec
  have hb := B.bytes
  have hr := B.returns
  have hts := atoms_spec (ws := .code y_Letter_putSides prog_2_method_11_code 4 (Option.none : Option Jvm.ClassFile.FieldType) :: ga_ws) B.pre
  have hown : s.vm.findClass "RankHouse$Letter" = some m.cls := findClass_of_methodNamed B.named
  have hlocks := B.notSynchronized
  have C : CallFix p m c prog_2_method_11_code 4 s args ga_ws "RankHouse$Letter" := ⟨hx, hb, hml, hown, fun w h => hts w (List.mem_cons_of_mem _ h)⟩
  have hw := ga_start hv
  have hl := lv_entry ([.ref p0, .ref p1, .int p2, .int p3]) (n := 4) (Nat.le_of_ble_eq_true rfl)
  rw [show entryFrame m args 4 = entryFrame m ([.ref p0, .ref p1, .int p2, .int p3] : List Value).toArray 4 by rw [ha], lg_entry_eq]
  generalize (lg_sl ([.ref p0, .ref p1, .int p2, .int p3]) ++ List.replicate (4 - (lg_sl ([.ref p0, .ref p1, .int p2, .int p3])).length) Slot.unset).toArray = ls at hl ⊢
  have hl : lv_has ls 4 [(0, .ref p0), (1, .ref p1), (2, .int p2), (3, .int p3)] := hl
  have key : ∀ Q : State → Prop, (∀ (pc : Nat) (ls : Array Slot) (H : Heap) (locs : List Loc) (I1 : gMI), (I1) = (RI) → decode prog_2_method_11_code pc = .ok (.return_, 1) → ga_W D T z L S I1 J s H locs → W p l e rm_Letter_putSides s m args below meth c H locs 0 0 Q (F0 m pc ls [])) → W p l e rm_Letter_putSides s m args below meth c s.heap [] 0 0 Q (F0 m 0 ls []) := by
    intro Q hret
    rw [f_Letter_putSides] at hF
    refine lv_aload_n hx hb d_Letter_putSides_0 rfl (lv_at hl 0 rfl) ?_
    refine lv_aload_n hx hb d_Letter_putSides_1 rfl (lv_at hl 1 rfl) ?_
    refine lv_iload_n hx hb d_Letter_putSides_2 rfl (lv_at hl 2 rfl) ?_
    refine lv_i2l hx hb d_Letter_putSides_3 rfl ?_
    refine lv_iload_n hx hb d_Letter_putSides_4 rfl (lv_at hl 3 rfl) ?_
    refine lv_i2l hx hb d_Letter_putSides_5 rfl ?_
    refine lv_lconst (v := 1) hx hb d_Letter_putSides_6 (by decide) ?_
    refine lv_lsub hx hb d_Letter_putSides_7 ?_
    obtain ⟨t1, hF⟩ := gd_ex hF
    obtain ⟨x2, c3, hF⟩ := ob_ex hF
    refine ga_cVi (As := [.long p2.toInt64, .long (p3.toInt64 - (1 : Int64))]) C hw (c_SortedRow_within l D T z L c3) gy_Letter_74 t1 rfl hl.1 ⟨Nat.le_of_ble_eq_true rfl, Nat.le_of_ble_eq_true rfl, rfl, rfl, Nat.le_of_ble_eq_true rfl, Nat.le_of_ble_eq_true rfl⟩ (Nat.le_of_ble_eq_true rfl) rfl d_Letter_putSides_8 (fun H locs hw => ?_)
    obtain ⟨t4, hF⟩ := gd_ex hF
    obtain ⟨I5, c6, hF⟩ := ob_ex hF
    refine ga_cVv (As := [.int x2]) C hw (c_Letter_put l D T z L c6) gy_Letter_60 t4 rfl hl.1 ⟨Nat.le_of_ble_eq_true rfl, Nat.le_of_ble_eq_true rfl, rfl, rfl, Nat.le_of_ble_eq_true rfl, Nat.le_of_ble_eq_true rfl⟩ (Nat.le_of_ble_eq_true rfl) rfl d_Letter_putSides_11 (fun H locs hw => ?_)
    refine lv_aload_n hx hb d_Letter_putSides_14 rfl (lv_at hl 0 rfl) ?_
    refine lv_aload_n hx hb d_Letter_putSides_15 rfl (lv_at hl 1 rfl) ?_
    refine lv_iload_n hx hb d_Letter_putSides_16 rfl (lv_at hl 3 rfl) ?_
    refine lv_i2l hx hb d_Letter_putSides_17 rfl ?_
    refine lv_iload_n hx hb d_Letter_putSides_18 rfl (lv_at hl 3 rfl) ?_
    refine lv_i2l hx hb d_Letter_putSides_19 rfl ?_
    obtain ⟨x7, c8, hF⟩ := ob_ex hF
    refine ga_cVi (As := [.long p3.toInt64, .long p3.toInt64]) C hw (c_SortedRow_within l D T z L c8) gy_Letter_74 t1 rfl hl.1 ⟨Nat.le_of_ble_eq_true rfl, Nat.le_of_ble_eq_true rfl, rfl, rfl, Nat.le_of_ble_eq_true rfl, Nat.le_of_ble_eq_true rfl⟩ (Nat.le_of_ble_eq_true rfl) rfl d_Letter_putSides_20 (fun H locs hw => ?_)
    obtain ⟨I9, c10, hF⟩ := ob_ex hF
    refine ga_cVv (As := [.int x7]) C hw (c_Letter_put l D T z L c10) gy_Letter_60 t4 rfl hl.1 ⟨Nat.le_of_ble_eq_true rfl, Nat.le_of_ble_eq_true rfl, rfl, rfl, Nat.le_of_ble_eq_true rfl, Nat.le_of_ble_eq_true rfl⟩ (Nat.le_of_ble_eq_true rfl) rfl d_Letter_putSides_23 (fun H locs hw => ?_)
    exact hret _ _ _ _ _ (Option.some.inj hF) d_Letter_putSides_26 hw
  refine key _ (fun pc ls H locs I1 he hd hw => ?_)
  · cases he
    exact W.vret hx hb hr (fun t ht _ => ⟨⟨(), rfl, trivial, ga_o hw ht⟩, hw.2.2.2.1.F ht⟩) hw.2.2.2.1.2.2 hd
set_option maxHeartbeats 4000000 in
set_option maxRecDepth 100000 in
theorem m_Letter_putGiven_b21 {J : gMJ} {zz : gMI} (hret : ∀ (pc : Nat) (ls : Array Slot) (H : Heap) (locs : List Loc) (I1 : gMI), (I1) = zz → decode prog_2_method_12_code pc = .ok (.return_, 1) → ga_W D T z L S I1 J s H locs → W p l e rm_Letter_putGiven s m args below meth c H locs 0 0 Q (F0 m pc ls [])) (C : CallFix p m c prog_2_method_12_code 7 s args ga_ws "RankHouse$Letter") : ∀ (n : Nat) (I : gMI) (l0 : Nat) (l1 : Nat) (l4 : Int32) (l5 : Int32) (l6 : Int32), f_Letter_putGiven_b21 S J n I l0 l1 l4 l5 l6 = some zz → ∀ (ls : Array Slot) (H : Heap) (locs : List Loc), lv_has ls 7 [(0, .ref l0), (1, .ref l1), (4, .int l4), (5, .int l5), (6, .int l6)] → ga_W D T z L S I J s H locs → W p l e rm_Letter_putGiven s m args below meth c H locs 0 0 Q (F0 m 21 ls []) := by
  intro n
  induction n with
  | zero =>
    intro I l0 l1 l4 l5 l6 hF ls H locs hl hw
    rw [f_Letter_putGiven_b21] at hF
    cases hF
  | succ n ih =>
    intro I l0 l1 l4 l5 l6 hF ls H locs hl hw
    have hx := C.1
    have hb := C.2.1
    rw [f_Letter_putGiven_b21] at hF
    refine lv_iload hx hb d_Letter_putGiven_21 (lv_at hl 4 rfl) ?_
    refine lv_iload hx hb d_Letter_putGiven_23 (lv_at hl 2 rfl) ?_
    by_cases h1 : l4 ≤ l6
    · rw [if_pos h1] at hF
      refine lv_icmp_ge (tgt := 47) hx hb d_Letter_putGiven_25 (by decide) (fun _ => ?_) (fun hn => absurd h1 hn)
      exact hret _ _ _ _ _ (Option.some.inj hF) d_Letter_putGiven_47 hw
    · rw [if_neg h1] at hF
      refine lv_icmp_ge (tgt := 47) hx hb d_Letter_putGiven_25 (by decide) (fun hp => absurd hp h1) (fun _ => ?_)
      refine lv_aload_n hx hb d_Letter_putGiven_28 rfl (lv_at hl 0 rfl) ?_
      refine lv_aload_n hx hb d_Letter_putGiven_29 rfl (lv_at hl 1 rfl) ?_
      refine lv_iload hx hb d_Letter_putGiven_30 (lv_at hl 3 rfl) ?_
      refine lv_iload hx hb d_Letter_putGiven_32 (lv_at hl 4 rfl) ?_
      refine lv_iadd hx hb d_Letter_putGiven_34 ?_
      obtain ⟨t2, hF⟩ := gd_ex hF
      obtain ⟨x3, c4, hF⟩ := ob_ex hF
      refine ga_cVi (As := [.int (l5 + l6)]) C hw (c_SortedRow_at l D T z L c4) gy_Letter_85 t2 rfl hl.1 ⟨Nat.le_of_ble_eq_true rfl, Nat.le_of_ble_eq_true rfl, rfl, rfl, Nat.le_of_ble_eq_true rfl, Nat.le_of_ble_eq_true rfl⟩ (Nat.le_of_ble_eq_true rfl) rfl d_Letter_putGiven_35 (fun H locs hw => ?_)
      obtain ⟨t5, hF⟩ := gd_ex hF
      obtain ⟨I6, c7, hF⟩ := ob_ex hF
      refine ga_cVv (As := [.int x3]) C hw (c_Letter_put l D T z L c7) gy_Letter_60 t5 rfl hl.1 ⟨Nat.le_of_ble_eq_true rfl, Nat.le_of_ble_eq_true rfl, rfl, rfl, Nat.le_of_ble_eq_true rfl, Nat.le_of_ble_eq_true rfl⟩ (Nat.le_of_ble_eq_true rfl) rfl d_Letter_putGiven_38 (fun H locs hw => ?_)
      obtain ⟨v8, ev8, hF⟩ := bnd_ex hF
      refine lv_iinc (k := 4) (v := v8) hx hb d_Letter_putGiven_41 hl rfl (by rw [ev8]; rfl) (by decide) rfl (fun ls hl => ?_)
      have hl : lv_has ls 7 [(6, .int v8), (0, .ref l0), (1, .ref l1), (4, .int l4), (5, .int l5)] := hl
      refine lv_goto (tgt := 21) hx hb d_Letter_putGiven_44 (by decide) ?_
      exact ih _ _ _ _ _ _ hF _ _ _ (lv_sub hl [1, 2, 3, 4, 0] rfl) hw
set_option maxHeartbeats 4000000 in
set_option maxRecDepth 100000 in
theorem c_Letter_putGiven (l : Launch) (D : va_G) (T : Nat → ClassId) (z : Nat) (L : List Nat) {S : gS} {I : gMI} {J : gMJ} {p0 : Nat} {p1 : Nat} {p2 : Int32} {p3 : Int32} {RI : gMI} (hF : f_Letter_putGiven S I J p0 p1 p2 p3 = some (RI)) : ga_Mv l y_Letter_putGiven prog_2_method_12_code 7 (Option.none : Option Jvm.ClassFile.FieldType) rm_Letter_putGiven [.ref p0, .ref p1, .int p2, .int p3] D T z L S I J RI J := by
  refine Met.ofW (cc := prog_2_method_12_code) (maxL := 7) (ret := (Option.none : Option Jvm.ClassFile.FieldType)) (by decide) rfl ?_
  intro p e s m args below meth c s₁ B hml hv
  obtain ⟨ha, hv⟩ := hv
  have hx := B.exec
  have hb := B.bytes
  have hr := B.returns
  have hts := atoms_spec (ws := .code y_Letter_putGiven prog_2_method_12_code 7 (Option.none : Option Jvm.ClassFile.FieldType) :: ga_ws) B.pre
  have hown : s.vm.findClass "RankHouse$Letter" = some m.cls := findClass_of_methodNamed B.named
  have hlocks := B.notSynchronized
  have C : CallFix p m c prog_2_method_12_code 7 s args ga_ws "RankHouse$Letter" := ⟨hx, hb, hml, hown, fun w h => hts w (List.mem_cons_of_mem _ h)⟩
  have hw := ga_start hv
  have hl := lv_entry ([.ref p0, .ref p1, .int p2, .int p3]) (n := 7) (Nat.le_of_ble_eq_true rfl)
  rw [show entryFrame m args 7 = entryFrame m ([.ref p0, .ref p1, .int p2, .int p3] : List Value).toArray 7 by rw [ha], lg_entry_eq]
  generalize (lg_sl ([.ref p0, .ref p1, .int p2, .int p3]) ++ List.replicate (7 - (lg_sl ([.ref p0, .ref p1, .int p2, .int p3])).length) Slot.unset).toArray = ls at hl ⊢
  have hl : lv_has ls 7 [(0, .ref p0), (1, .ref p1), (2, .int p2), (3, .int p3)] := hl
  have key : ∀ Q : State → Prop, (∀ (pc : Nat) (ls : Array Slot) (H : Heap) (locs : List Loc) (I1 : gMI), (I1) = (RI) → decode prog_2_method_12_code pc = .ok (.return_, 1) → ga_W D T z L S I1 J s H locs → W p l e rm_Letter_putGiven s m args below meth c H locs 0 0 Q (F0 m pc ls [])) → W p l e rm_Letter_putGiven s m args below meth c s.heap [] 0 0 Q (F0 m 0 ls []) := by
    intro Q hret
    rw [f_Letter_putGiven] at hF
    refine lv_aload_n hx hb d_Letter_putGiven_0 rfl (lv_at hl 1 rfl) ?_
    refine lv_iload_n hx hb d_Letter_putGiven_1 rfl (lv_at hl 2 rfl) ?_
    refine lv_i2l hx hb d_Letter_putGiven_2 rfl ?_
    refine lv_iload_n hx hb d_Letter_putGiven_3 rfl (lv_at hl 3 rfl) ?_
    refine lv_i2l hx hb d_Letter_putGiven_4 rfl ?_
    obtain ⟨t1, hF⟩ := gd_ex hF
    obtain ⟨x2, c3, hF⟩ := ob_ex hF
    refine ga_cVi (As := [.long p2.toInt64, .long p3.toInt64]) C hw (c_SortedRow_within l D T z L c3) gy_Letter_74 t1 rfl hl.1 ⟨Nat.le_of_ble_eq_true rfl, Nat.le_of_ble_eq_true rfl, rfl, rfl, Nat.le_of_ble_eq_true rfl, Nat.le_of_ble_eq_true rfl⟩ (Nat.le_of_ble_eq_true rfl) rfl d_Letter_putGiven_5 (fun H locs hw => ?_)
    refine lv_istore hx hb d_Letter_putGiven_8 hl (by decide) rfl (fun ls hl => ?_)
    have hl : lv_has ls 7 [(4, .int x2), (0, .ref p0), (1, .ref p1), (2, .int p2), (3, .int p3)] := hl
    refine lv_aload_n hx hb d_Letter_putGiven_10 rfl (lv_at hl 2 rfl) ?_
    refine lv_iload_n hx hb d_Letter_putGiven_11 rfl (lv_at hl 3 rfl) ?_
    refine lv_i2l hx hb d_Letter_putGiven_12 rfl ?_
    obtain ⟨x4, c5, hF⟩ := ob_ex hF
    refine ga_cVi (As := [.long p2.toInt64]) C hw (c_SortedRow_below l D T z L c5) gy_Letter_81 t1 rfl hl.1 ⟨Nat.le_of_ble_eq_true rfl, Nat.le_of_ble_eq_true rfl, rfl, rfl, Nat.le_of_ble_eq_true rfl, Nat.le_of_ble_eq_true rfl⟩ (Nat.le_of_ble_eq_true rfl) rfl d_Letter_putGiven_13 (fun H locs hw => ?_)
    refine lv_istore hx hb d_Letter_putGiven_16 hl (by decide) rfl (fun ls hl => ?_)
    have hl : lv_has ls 7 [(5, .int x4), (4, .int x2), (0, .ref p0), (1, .ref p1), (2, .int p2), (3, .int p3)] := hl
    refine lv_iconst (v := 0) hx hb d_Letter_putGiven_18 (by decide) ?_
    refine lv_istore hx hb d_Letter_putGiven_19 hl (by decide) rfl (fun ls hl => ?_)
    have hl : lv_has ls 7 [(6, .int (0 : Int32)), (5, .int x4), (4, .int x2), (0, .ref p0), (1, .ref p1), (2, .int p2), (3, .int p3)] := hl
    exact m_Letter_putGiven_b21 hret C gFuel _ _ _ _ _ _ hF _ _ _ (lv_sub hl [3, 4, 2, 1, 0] rfl) hw
  refine key _ (fun pc ls H locs I1 he hd hw => ?_)
  · cases he
    exact W.vret hx hb hr (fun t ht _ => ⟨⟨(), rfl, trivial, ga_o hw ht⟩, hw.2.2.2.1.F ht⟩) hw.2.2.2.1.2.2 hd
set_option maxHeartbeats 4000000 in
set_option maxRecDepth 100000 in
theorem c_Letter_putAdded (l : Launch) (D : va_G) (T : Nat → ClassId) (z : Nat) (L : List Nat) {S : gS} {I : gMI} {J : gMJ} {p0 : Nat} {p1 : Nat} {p2 : Int32} {p3 : Int32} {RI : gMI} {RJ : gMJ} (hF : f_Letter_putAdded S I J p0 p1 p2 p3 = some (RI, RJ)) : ga_Mv l y_Letter_putAdded prog_2_method_13_code 6 (Option.none : Option Jvm.ClassFile.FieldType) rm_Letter_putAdded [.ref p0, .ref p1, .int p2, .int p3] D T z L S I J RI RJ := by
  refine Met.ofW (cc := prog_2_method_13_code) (maxL := 6) (ret := (Option.none : Option Jvm.ClassFile.FieldType)) (by decide) rfl ?_
  intro p e s m args below meth c s₁ B hml hv
  obtain ⟨ha, hv⟩ := hv
  have hx := B.exec
  have hb := B.bytes
  have hr := B.returns
  have hts := atoms_spec (ws := .code y_Letter_putAdded prog_2_method_13_code 6 (Option.none : Option Jvm.ClassFile.FieldType) :: ga_ws) B.pre
  have hown : s.vm.findClass "RankHouse$Letter" = some m.cls := findClass_of_methodNamed B.named
  have hlocks := B.notSynchronized
  have C : CallFix p m c prog_2_method_13_code 6 s args ga_ws "RankHouse$Letter" := ⟨hx, hb, hml, hown, fun w h => hts w (List.mem_cons_of_mem _ h)⟩
  have hw := ga_start hv
  have hl := lv_entry ([.ref p0, .ref p1, .int p2, .int p3]) (n := 6) (Nat.le_of_ble_eq_true rfl)
  rw [show entryFrame m args 6 = entryFrame m ([.ref p0, .ref p1, .int p2, .int p3] : List Value).toArray 6 by rw [ha], lg_entry_eq]
  generalize (lg_sl ([.ref p0, .ref p1, .int p2, .int p3]) ++ List.replicate (6 - (lg_sl ([.ref p0, .ref p1, .int p2, .int p3])).length) Slot.unset).toArray = ls at hl ⊢
  have hl : lv_has ls 6 [(0, .ref p0), (1, .ref p1), (2, .int p2), (3, .int p3)] := hl
  have key : ∀ Q : State → Prop, (∀ (pc : Nat) (ls : Array Slot) (H : Heap) (locs : List Loc) (I1 : gMI) (J1 : gMJ), (I1, J1) = (RI, RJ) → decode prog_2_method_13_code pc = .ok (.return_, 1) → ga_W D T z L S I1 J1 s H locs → W p l e rm_Letter_putAdded s m args below meth c H locs 0 0 Q (F0 m pc ls [])) → W p l e rm_Letter_putAdded s m args below meth c s.heap [] 0 0 Q (F0 m 0 ls []) := by
    intro Q hret
    rw [f_Letter_putAdded] at hF
    refine lv_aload_n hx hb d_Letter_putAdded_0 rfl (lv_at hl 1 rfl) ?_
    refine lv_iload_n hx hb d_Letter_putAdded_1 rfl (lv_at hl 2 rfl) ?_
    refine lv_i2l hx hb d_Letter_putAdded_2 rfl ?_
    refine lv_lconst (v := 1) hx hb d_Letter_putAdded_3 (by decide) ?_
    refine lv_ladd hx hb d_Letter_putAdded_4 ?_
    obtain ⟨t1, hF⟩ := gd_ex hF
    obtain ⟨x2, c3, hF⟩ := ob_ex hF
    refine ga_cVi (As := [.long (p2.toInt64 + (1 : Int64))]) C hw (c_SortedRow_below l D T z L c3) gy_Letter_81 t1 rfl hl.1 ⟨Nat.le_of_ble_eq_true rfl, Nat.le_of_ble_eq_true rfl, rfl, rfl, Nat.le_of_ble_eq_true rfl, Nat.le_of_ble_eq_true rfl⟩ (Nat.le_of_ble_eq_true rfl) rfl d_Letter_putAdded_5 (fun H locs hw => ?_)
    refine lv_istore hx hb d_Letter_putAdded_8 hl (by decide) rfl (fun ls hl => ?_)
    have hl : lv_has ls 6 [(4, .int x2), (0, .ref p0), (1, .ref p1), (2, .int p2), (3, .int p3)] := hl
    refine lv_aload_n hx hb d_Letter_putAdded_10 rfl (lv_at hl 2 rfl) ?_
    refine lv_iload_n hx hb d_Letter_putAdded_11 rfl (lv_at hl 4 rfl) ?_
    refine lv_i2l hx hb d_Letter_putAdded_12 rfl ?_
    obtain ⟨x4, c5, hF⟩ := ob_ex hF
    refine ga_cVi (As := [.long p3.toInt64]) C hw (c_SortedRow_below l D T z L c5) gy_Letter_81 t1 rfl hl.1 ⟨Nat.le_of_ble_eq_true rfl, Nat.le_of_ble_eq_true rfl, rfl, rfl, Nat.le_of_ble_eq_true rfl, Nat.le_of_ble_eq_true rfl⟩ (Nat.le_of_ble_eq_true rfl) rfl d_Letter_putAdded_13 (fun H locs hw => ?_)
    refine lv_istore hx hb d_Letter_putAdded_16 hl (by decide) rfl (fun ls hl => ?_)
    have hl : lv_has ls 6 [(5, .int x4), (4, .int x2), (0, .ref p0), (1, .ref p1), (2, .int p2), (3, .int p3)] := hl
    refine lv_aload_n hx hb d_Letter_putAdded_18 rfl (lv_at hl 2 rfl) ?_
    refine lv_aload_n hx hb d_Letter_putAdded_19 rfl (lv_at hl 3 rfl) ?_
    refine lv_iload hx hb d_Letter_putAdded_20 (lv_at hl 1 rfl) ?_
    refine lv_iload hx hb d_Letter_putAdded_22 (lv_at hl 0 rfl) ?_
    obtain ⟨x6, c7, hF⟩ := ob_ex hF
    refine ga_cVl (As := [.int x2, .int x4]) C hw (c_SortedRow_sum l D T z L c7) gy_Letter_88 t1 rfl hl.1 ⟨Nat.le_of_ble_eq_true rfl, Nat.le_of_ble_eq_true rfl, rfl, rfl, Nat.le_of_ble_eq_true rfl, Nat.le_of_ble_eq_true rfl⟩ (Nat.le_of_ble_eq_true rfl) rfl d_Letter_putAdded_24 (fun H locs hw => ?_)
    obtain ⟨t8, hF⟩ := gd_ex hF
    obtain ⟨J9, eJ9, hF⟩ := bnd_ex hF
    refine ga_putJ C hw gp_Letter_37 t8 eJ9 d_Letter_putAdded_27 (fun H locs hw => ?_)
    refine lv_aload_n hx hb d_Letter_putAdded_30 rfl (lv_at hl 2 rfl) ?_
    refine lv_aload_n hx hb d_Letter_putAdded_31 rfl (lv_at hl 3 rfl) ?_
    refine lv_iload_n hx hb d_Letter_putAdded_32 rfl (lv_at hl 4 rfl) ?_
    refine lv_i2l hx hb d_Letter_putAdded_33 rfl ?_
    obtain ⟨x10, c11, hF⟩ := ob_ex hF
    refine ga_cVi (As := [.long p2.toInt64]) C hw (c_SortedRow_below l D T z L c11) gy_Letter_81 t1 rfl hl.1 ⟨Nat.le_of_ble_eq_true rfl, Nat.le_of_ble_eq_true rfl, rfl, rfl, Nat.le_of_ble_eq_true rfl, Nat.le_of_ble_eq_true rfl⟩ (Nat.le_of_ble_eq_true rfl) rfl d_Letter_putAdded_34 (fun H locs hw => ?_)
    obtain ⟨I12, c13, hF⟩ := ob_ex hF
    refine ga_cVv (As := [.int x10]) C hw (c_Letter_put l D T z L c13) gy_Letter_60 t8 rfl hl.1 ⟨Nat.le_of_ble_eq_true rfl, Nat.le_of_ble_eq_true rfl, rfl, rfl, Nat.le_of_ble_eq_true rfl, Nat.le_of_ble_eq_true rfl⟩ (Nat.le_of_ble_eq_true rfl) rfl d_Letter_putAdded_37 (fun H locs hw => ?_)
    refine lv_aload_n hx hb d_Letter_putAdded_40 rfl (lv_at hl 2 rfl) ?_
    refine lv_aload_n hx hb d_Letter_putAdded_41 rfl (lv_at hl 3 rfl) ?_
    refine lv_iload_n hx hb d_Letter_putAdded_42 rfl (lv_at hl 4 rfl) ?_
    refine lv_i2l hx hb d_Letter_putAdded_43 rfl ?_
    refine lv_iload_n hx hb d_Letter_putAdded_44 rfl (lv_at hl 4 rfl) ?_
    refine lv_i2l hx hb d_Letter_putAdded_45 rfl ?_
    obtain ⟨x14, c15, hF⟩ := ob_ex hF
    refine ga_cVi (As := [.long p2.toInt64, .long p2.toInt64]) C hw (c_SortedRow_within l D T z L c15) gy_Letter_74 t1 rfl hl.1 ⟨Nat.le_of_ble_eq_true rfl, Nat.le_of_ble_eq_true rfl, rfl, rfl, Nat.le_of_ble_eq_true rfl, Nat.le_of_ble_eq_true rfl⟩ (Nat.le_of_ble_eq_true rfl) rfl d_Letter_putAdded_46 (fun H locs hw => ?_)
    obtain ⟨I16, c17, hF⟩ := ob_ex hF
    refine ga_cVv (As := [.int x14]) C hw (c_Letter_put l D T z L c17) gy_Letter_60 t8 rfl hl.1 ⟨Nat.le_of_ble_eq_true rfl, Nat.le_of_ble_eq_true rfl, rfl, rfl, Nat.le_of_ble_eq_true rfl, Nat.le_of_ble_eq_true rfl⟩ (Nat.le_of_ble_eq_true rfl) rfl d_Letter_putAdded_49 (fun H locs hw => ?_)
    refine lv_aload_n hx hb d_Letter_putAdded_52 rfl (lv_at hl 2 rfl) ?_
    refine lv_iconst (v := 0) hx hb d_Letter_putAdded_53 (by decide) ?_
    refine lv_iload hx hb d_Letter_putAdded_54 (lv_at hl 0 rfl) ?_
    refine lv_iload hx hb d_Letter_putAdded_56 (lv_at hl 1 rfl) ?_
    refine lv_isub hx hb d_Letter_putAdded_58 ?_
    refine va_mmax hx hb (C.2.2.1.trans hl.1.symm) C.2.2.2.1 (C.2.2.2.2 _ gj_Letter_91) (C.2.2.2.2 _ gj_max1) (C.2.2.2.2 _ gj_math) (C.2.2.2.2 _ gj_max2) (Nat.le_of_ble_eq_true rfl) (Nat.le_of_ble_eq_true rfl) (Nat.le_of_ble_eq_true rfl) (Nat.le_of_ble_eq_true rfl) d_Letter_putAdded_59 ?_
    obtain ⟨I18, c19, hF⟩ := ob_ex hF
    refine ga_cVv (As := [.int (if (0 : Int32) < (x4 - x2) then (x4 - x2) else (0 : Int32))]) C hw (c_Letter_put l D T z L c19) gy_Letter_60 t8 rfl hl.1 ⟨Nat.le_of_ble_eq_true rfl, Nat.le_of_ble_eq_true rfl, rfl, rfl, Nat.le_of_ble_eq_true rfl, Nat.le_of_ble_eq_true rfl⟩ (Nat.le_of_ble_eq_true rfl) rfl d_Letter_putAdded_62 (fun H locs hw => ?_)
    refine lv_aload_n hx hb d_Letter_putAdded_65 rfl (lv_at hl 2 rfl) ?_
    refine lv_aload_n hx hb d_Letter_putAdded_66 rfl (lv_at hl 2 rfl) ?_
    refine ga_getJ C hw gf_Letter_37 t8 d_Letter_putAdded_67 ?_
    refine lv_l2i hx hb d_Letter_putAdded_70 rfl ?_
    obtain ⟨I20, c21, hF⟩ := ob_ex hF
    refine ga_cVv (As := [.int ((J9 p0 2).toInt32)]) C hw (c_Letter_put l D T z L c21) gy_Letter_60 t8 rfl hl.1 ⟨Nat.le_of_ble_eq_true rfl, Nat.le_of_ble_eq_true rfl, rfl, rfl, Nat.le_of_ble_eq_true rfl, Nat.le_of_ble_eq_true rfl⟩ (Nat.le_of_ble_eq_true rfl) rfl d_Letter_putAdded_71 (fun H locs hw => ?_)
    exact hret _ _ _ _ _ _ (Option.some.inj hF) d_Letter_putAdded_74 hw
  refine key _ (fun pc ls H locs I1 J1 he hd hw => ?_)
  · cases he
    exact W.vret hx hb hr (fun t ht _ => ⟨⟨(), rfl, trivial, ga_o hw ht⟩, hw.2.2.2.1.F ht⟩) hw.2.2.2.1.2.2 hd
set_option maxHeartbeats 4000000 in
set_option maxRecDepth 100000 in
theorem m_Letter_fillIn_b139 {zz : gMI × gMJ} (hret : ∀ (pc : Nat) (ls : Array Slot) (H : Heap) (locs : List Loc) (I1 : gMI) (J1 : gMJ), (I1, J1) = zz → decode prog_2_method_9_code pc = .ok (.return_, 1) → ga_W D T z L S I1 J1 s H locs → W p l e rm_Letter_fillIn s m args below meth c H locs 0 0 Q (F0 m pc ls [])) (C : CallFix p m c prog_2_method_9_code 5 s args ga_ws "RankHouse$Letter") : ∀ (I : gMI) (J : gMJ), f_Letter_fillIn_b139 S I J = some zz → ∀ (ls : Array Slot) (H : Heap) (locs : List Loc), lv_has ls 5 [] → ga_W D T z L S I J s H locs → W p l e rm_Letter_fillIn s m args below meth c H locs 0 0 Q (F0 m 139 ls []) := by
  intro I J hF ls H locs hl hw
  have hx := C.1
  have hb := C.2.1
  rw [f_Letter_fillIn_b139] at hF
  exact hret _ _ _ _ _ _ (Option.some.inj hF) d_Letter_fillIn_139 hw
set_option maxHeartbeats 4000000 in
set_option maxRecDepth 100000 in
theorem c_Letter_fillIn (l : Launch) (D : va_G) (T : Nat → ClassId) (z : Nat) (L : List Nat) {S : gS} {I : gMI} {J : gMJ} {p0 : Nat} {p1 : Nat} {p2 : Nat} {RI : gMI} {RJ : gMJ} (hF : f_Letter_fillIn S I J p0 p1 p2 = some (RI, RJ)) : ga_Mv l y_Letter_fillIn prog_2_method_9_code 5 (Option.none : Option Jvm.ClassFile.FieldType) rm_Letter_fillIn [.ref p0, .ref p1, .ref p2] D T z L S I J RI RJ := by
  refine Met.ofW (cc := prog_2_method_9_code) (maxL := 5) (ret := (Option.none : Option Jvm.ClassFile.FieldType)) (by decide) rfl ?_
  intro p e s m args below meth c s₁ B hml hv
  obtain ⟨ha, hv⟩ := hv
  have hx := B.exec
  have hb := B.bytes
  have hr := B.returns
  have hts := atoms_spec (ws := .code y_Letter_fillIn prog_2_method_9_code 5 (Option.none : Option Jvm.ClassFile.FieldType) :: ga_ws) B.pre
  have hown : s.vm.findClass "RankHouse$Letter" = some m.cls := findClass_of_methodNamed B.named
  have hlocks := B.notSynchronized
  have C : CallFix p m c prog_2_method_9_code 5 s args ga_ws "RankHouse$Letter" := ⟨hx, hb, hml, hown, fun w h => hts w (List.mem_cons_of_mem _ h)⟩
  have hw := ga_start hv
  have hl := lv_entry ([.ref p0, .ref p1, .ref p2]) (n := 5) (Nat.le_of_ble_eq_true rfl)
  rw [show entryFrame m args 5 = entryFrame m ([.ref p0, .ref p1, .ref p2] : List Value).toArray 5 by rw [ha], lg_entry_eq]
  generalize (lg_sl ([.ref p0, .ref p1, .ref p2]) ++ List.replicate (5 - (lg_sl ([.ref p0, .ref p1, .ref p2])).length) Slot.unset).toArray = ls at hl ⊢
  have hl : lv_has ls 5 [(0, .ref p0), (1, .ref p1), (2, .ref p2)] := hl
  have key : ∀ Q : State → Prop, (∀ (pc : Nat) (ls : Array Slot) (H : Heap) (locs : List Loc) (I1 : gMI) (J1 : gMJ), (I1, J1) = (RI, RJ) → decode prog_2_method_9_code pc = .ok (.return_, 1) → ga_W D T z L S I1 J1 s H locs → W p l e rm_Letter_fillIn s m args below meth c H locs 0 0 Q (F0 m pc ls [])) → W p l e rm_Letter_fillIn s m args below meth c s.heap [] 0 0 Q (F0 m 0 ls []) := by
    intro Q hret
    rw [f_Letter_fillIn] at hF
    refine lv_aload_n hx hb d_Letter_fillIn_0 rfl (lv_at hl 1 rfl) ?_
    refine lv_iconst (v := 0) hx hb d_Letter_fillIn_1 (by decide) ?_
    obtain ⟨t1, hF⟩ := gd_ex hF
    obtain ⟨x2, c3, hF⟩ := ob_ex hF
    refine ga_cVi (As := [.int (0 : Int32)]) C hw (c_Letter_number l D T z L c3) gy_Letter_51 t1 rfl hl.1 ⟨Nat.le_of_ble_eq_true rfl, Nat.le_of_ble_eq_true rfl, rfl, rfl, Nat.le_of_ble_eq_true rfl, Nat.le_of_ble_eq_true rfl⟩ (Nat.le_of_ble_eq_true rfl) rfl d_Letter_fillIn_2 (fun H locs hw => ?_)
    refine lv_istore_n hx hb d_Letter_fillIn_5 rfl hl (by decide) rfl (fun ls hl => ?_)
    have hl : lv_has ls 5 [(3, .int x2), (0, .ref p0), (1, .ref p1), (2, .ref p2)] := hl
    refine lv_aload_n hx hb d_Letter_fillIn_6 rfl (lv_at hl 2 rfl) ?_
    refine lv_iconst (v := 1) hx hb d_Letter_fillIn_7 (by decide) ?_
    obtain ⟨x4, c5, hF⟩ := ob_ex hF
    refine ga_cVi (As := [.int (1 : Int32)]) C hw (c_Letter_number l D T z L c5) gy_Letter_51 t1 rfl hl.1 ⟨Nat.le_of_ble_eq_true rfl, Nat.le_of_ble_eq_true rfl, rfl, rfl, Nat.le_of_ble_eq_true rfl, Nat.le_of_ble_eq_true rfl⟩ (Nat.le_of_ble_eq_true rfl) rfl d_Letter_fillIn_8 (fun H locs hw => ?_)
    refine lv_istore hx hb d_Letter_fillIn_11 hl (by decide) rfl (fun ls hl => ?_)
    have hl : lv_has ls 5 [(4, .int x4), (3, .int x2), (0, .ref p0), (1, .ref p1), (2, .ref p2)] := hl
    refine lv_aload_n hx hb d_Letter_fillIn_13 rfl (lv_at hl 3 rfl) ?_
    refine ga_getI C hw gf_Letter_15 t1 d_Letter_fillIn_14 ?_
    by_cases h6 : (I p1 3) = (1 : Int32)
    · rw [if_pos h6] at hF
      refine lv_tableIn (tgt := 68) hx hb d_Letter_fillIn_17 (by rw [h6]; decide) (by rw [h6]; decide) (by rw [h6]; rfl) (by decide) ?_
      refine lv_aload_n hx hb d_Letter_fillIn_68 rfl (lv_at hl 2 rfl) ?_
      refine lv_aload_n hx hb d_Letter_fillIn_69 rfl (lv_at hl 4 rfl) ?_
      obtain ⟨t7, hF⟩ := gd_ex hF
      refine ga_getI C hw gf_Letter_55 t7 d_Letter_fillIn_70 ?_
      obtain ⟨t8, hF⟩ := gd_ex hF
      obtain ⟨I9, c10, hF⟩ := ob_ex hF
      refine ga_cVv (As := [.int (I p2 1)]) C hw (c_Letter_put l D T z L c10) gy_Letter_60 t8 rfl hl.1 ⟨Nat.le_of_ble_eq_true rfl, Nat.le_of_ble_eq_true rfl, rfl, rfl, Nat.le_of_ble_eq_true rfl, Nat.le_of_ble_eq_true rfl⟩ (Nat.le_of_ble_eq_true rfl) rfl d_Letter_fillIn_73 (fun H locs hw => ?_)
      refine lv_goto (tgt := 139) hx hb d_Letter_fillIn_76 (by decide) ?_
      exact m_Letter_fillIn_b139 hret C _ _ hF _ _ _ (lv_sub hl [] rfl) hw
    · rw [if_neg h6] at hF
      by_cases h11 : (I p1 3) = (2 : Int32)
      · rw [if_pos h11] at hF
        refine lv_tableIn (tgt := 131) hx hb d_Letter_fillIn_17 (by rw [h11]; decide) (by rw [h11]; decide) (by rw [h11]; rfl) (by decide) ?_
        refine lv_aload_n hx hb d_Letter_fillIn_131 rfl (lv_at hl 2 rfl) ?_
        refine lv_aload_n hx hb d_Letter_fillIn_132 rfl (lv_at hl 4 rfl) ?_
        refine lv_iload_n hx hb d_Letter_fillIn_133 rfl (lv_at hl 1 rfl) ?_
        refine lv_iload hx hb d_Letter_fillIn_134 (lv_at hl 0 rfl) ?_
        obtain ⟨t12, hF⟩ := gd_ex hF
        obtain ⟨I13, J14, c15, hF⟩ := bd2_ex hF
        refine ga_cVv (As := [.ref p2, .int x2, .int x4]) C hw (c_Letter_putAdded l D T z L c15) gy_Letter_78 t12 rfl hl.1 ⟨Nat.le_of_ble_eq_true rfl, Nat.le_of_ble_eq_true rfl, rfl, rfl, Nat.le_of_ble_eq_true rfl, Nat.le_of_ble_eq_true rfl⟩ (Nat.le_of_ble_eq_true rfl) rfl d_Letter_fillIn_136 (fun H locs hw => ?_)
        exact m_Letter_fillIn_b139 hret C _ _ hF _ _ _ (lv_sub hl [] rfl) hw
      · rw [if_neg h11] at hF
        by_cases h16 : (I p1 3) = (3 : Int32)
        · rw [if_pos h16] at hF
          refine lv_tableIn (tgt := 79) hx hb d_Letter_fillIn_17 (by rw [h16]; decide) (by rw [h16]; decide) (by rw [h16]; rfl) (by decide) ?_
          refine lv_aload_n hx hb d_Letter_fillIn_79 rfl (lv_at hl 2 rfl) ?_
          refine lv_aload_n hx hb d_Letter_fillIn_80 rfl (lv_at hl 4 rfl) ?_
          refine lv_iload_n hx hb d_Letter_fillIn_81 rfl (lv_at hl 1 rfl) ?_
          refine lv_iload hx hb d_Letter_fillIn_82 (lv_at hl 0 rfl) ?_
          obtain ⟨t17, hF⟩ := gd_ex hF
          obtain ⟨I18, c19, hF⟩ := ob_ex hF
          refine ga_cVv (As := [.ref p2, .int x2, .int x4]) C hw (c_Letter_putPart l D T z L c19) gy_Letter_64 t17 rfl hl.1 ⟨Nat.le_of_ble_eq_true rfl, Nat.le_of_ble_eq_true rfl, rfl, rfl, Nat.le_of_ble_eq_true rfl, Nat.le_of_ble_eq_true rfl⟩ (Nat.le_of_ble_eq_true rfl) rfl d_Letter_fillIn_84 (fun H locs hw => ?_)
          refine lv_goto (tgt := 139) hx hb d_Letter_fillIn_87 (by decide) ?_
          exact m_Letter_fillIn_b139 hret C _ _ hF _ _ _ (lv_sub hl [] rfl) hw
        · rw [if_neg h16] at hF
          by_cases h20 : (I p1 3) = (4 : Int32)
          · rw [if_pos h20] at hF
            refine lv_tableIn (tgt := 131) hx hb d_Letter_fillIn_17 (by rw [h20]; decide) (by rw [h20]; decide) (by rw [h20]; rfl) (by decide) ?_
            refine lv_aload_n hx hb d_Letter_fillIn_131 rfl (lv_at hl 2 rfl) ?_
            refine lv_aload_n hx hb d_Letter_fillIn_132 rfl (lv_at hl 4 rfl) ?_
            refine lv_iload_n hx hb d_Letter_fillIn_133 rfl (lv_at hl 1 rfl) ?_
            refine lv_iload hx hb d_Letter_fillIn_134 (lv_at hl 0 rfl) ?_
            obtain ⟨t21, hF⟩ := gd_ex hF
            obtain ⟨I22, J23, c24, hF⟩ := bd2_ex hF
            refine ga_cVv (As := [.ref p2, .int x2, .int x4]) C hw (c_Letter_putAdded l D T z L c24) gy_Letter_78 t21 rfl hl.1 ⟨Nat.le_of_ble_eq_true rfl, Nat.le_of_ble_eq_true rfl, rfl, rfl, Nat.le_of_ble_eq_true rfl, Nat.le_of_ble_eq_true rfl⟩ (Nat.le_of_ble_eq_true rfl) rfl d_Letter_fillIn_136 (fun H locs hw => ?_)
            exact m_Letter_fillIn_b139 hret C _ _ hF _ _ _ (lv_sub hl [] rfl) hw
          · rw [if_neg h20] at hF
            by_cases h25 : (I p1 3) = (5 : Int32)
            · rw [if_pos h25] at hF
              refine lv_tableIn (tgt := 90) hx hb d_Letter_fillIn_17 (by rw [h25]; decide) (by rw [h25]; decide) (by rw [h25]; rfl) (by decide) ?_
              refine lv_aload_n hx hb d_Letter_fillIn_90 rfl (lv_at hl 2 rfl) ?_
              refine lv_aload_n hx hb d_Letter_fillIn_91 rfl (lv_at hl 4 rfl) ?_
              refine lv_iload_n hx hb d_Letter_fillIn_92 rfl (lv_at hl 1 rfl) ?_
              refine lv_aload_n hx hb d_Letter_fillIn_93 rfl (lv_at hl 3 rfl) ?_
              refine lv_iconst (v := 2) hx hb d_Letter_fillIn_94 (by decide) ?_
              obtain ⟨x26, c27, hF⟩ := ob_ex hF
              refine ga_cVi (As := [.int (2 : Int32)]) C hw (c_Letter_number l D T z L c27) gy_Letter_51 t1 rfl hl.1 ⟨Nat.le_of_ble_eq_true rfl, Nat.le_of_ble_eq_true rfl, rfl, rfl, Nat.le_of_ble_eq_true rfl, Nat.le_of_ble_eq_true rfl⟩ (Nat.le_of_ble_eq_true rfl) rfl d_Letter_fillIn_95 (fun H locs hw => ?_)
              obtain ⟨t28, hF⟩ := gd_ex hF
              obtain ⟨I29, c30, hF⟩ := ob_ex hF
              refine ga_cVv (As := [.ref p2, .int x2, .int x26]) C hw (c_Letter_putSides l D T z L c30) gy_Letter_68 t28 rfl hl.1 ⟨Nat.le_of_ble_eq_true rfl, Nat.le_of_ble_eq_true rfl, rfl, rfl, Nat.le_of_ble_eq_true rfl, Nat.le_of_ble_eq_true rfl⟩ (Nat.le_of_ble_eq_true rfl) rfl d_Letter_fillIn_98 (fun H locs hw => ?_)
              refine lv_goto (tgt := 139) hx hb d_Letter_fillIn_101 (by decide) ?_
              exact m_Letter_fillIn_b139 hret C _ _ hF _ _ _ (lv_sub hl [] rfl) hw
            · rw [if_neg h25] at hF
              by_cases h31 : (I p1 3) = (6 : Int32)
              · rw [if_pos h31] at hF
                refine lv_tableIn (tgt := 131) hx hb d_Letter_fillIn_17 (by rw [h31]; decide) (by rw [h31]; decide) (by rw [h31]; rfl) (by decide) ?_
                refine lv_aload_n hx hb d_Letter_fillIn_131 rfl (lv_at hl 2 rfl) ?_
                refine lv_aload_n hx hb d_Letter_fillIn_132 rfl (lv_at hl 4 rfl) ?_
                refine lv_iload_n hx hb d_Letter_fillIn_133 rfl (lv_at hl 1 rfl) ?_
                refine lv_iload hx hb d_Letter_fillIn_134 (lv_at hl 0 rfl) ?_
                obtain ⟨t32, hF⟩ := gd_ex hF
                obtain ⟨I33, J34, c35, hF⟩ := bd2_ex hF
                refine ga_cVv (As := [.ref p2, .int x2, .int x4]) C hw (c_Letter_putAdded l D T z L c35) gy_Letter_78 t32 rfl hl.1 ⟨Nat.le_of_ble_eq_true rfl, Nat.le_of_ble_eq_true rfl, rfl, rfl, Nat.le_of_ble_eq_true rfl, Nat.le_of_ble_eq_true rfl⟩ (Nat.le_of_ble_eq_true rfl) rfl d_Letter_fillIn_136 (fun H locs hw => ?_)
                exact m_Letter_fillIn_b139 hret C _ _ hF _ _ _ (lv_sub hl [] rfl) hw
              · rw [if_neg h31] at hF
                by_cases h36 : (I p1 3) = (7 : Int32)
                · rw [if_pos h36] at hF
                  refine lv_tableIn (tgt := 104) hx hb d_Letter_fillIn_17 (by rw [h36]; decide) (by rw [h36]; decide) (by rw [h36]; rfl) (by decide) ?_
                  refine lv_aload_n hx hb d_Letter_fillIn_104 rfl (lv_at hl 2 rfl) ?_
                  refine lv_aload_n hx hb d_Letter_fillIn_105 rfl (lv_at hl 4 rfl) ?_
                  refine lv_iload_n hx hb d_Letter_fillIn_106 rfl (lv_at hl 1 rfl) ?_
                  refine lv_iload hx hb d_Letter_fillIn_107 (lv_at hl 0 rfl) ?_
                  obtain ⟨t37, hF⟩ := gd_ex hF
                  obtain ⟨I38, c39, hF⟩ := ob_ex hF
                  refine ga_cVv (As := [.ref p2, .int x2, .int x4]) C hw (c_Letter_putGiven l D T z L c39) gy_Letter_71 t37 rfl hl.1 ⟨Nat.le_of_ble_eq_true rfl, Nat.le_of_ble_eq_true rfl, rfl, rfl, Nat.le_of_ble_eq_true rfl, Nat.le_of_ble_eq_true rfl⟩ (Nat.le_of_ble_eq_true rfl) rfl d_Letter_fillIn_109 (fun H locs hw => ?_)
                  refine lv_goto (tgt := 139) hx hb d_Letter_fillIn_112 (by decide) ?_
                  exact m_Letter_fillIn_b139 hret C _ _ hF _ _ _ (lv_sub hl [] rfl) hw
                · rw [if_neg h36] at hF
                  by_cases h40 : (I p1 3) = (8 : Int32)
                  · rw [if_pos h40] at hF
                    refine lv_tableIn (tgt := 131) hx hb d_Letter_fillIn_17 (by rw [h40]; decide) (by rw [h40]; decide) (by rw [h40]; rfl) (by decide) ?_
                    refine lv_aload_n hx hb d_Letter_fillIn_131 rfl (lv_at hl 2 rfl) ?_
                    refine lv_aload_n hx hb d_Letter_fillIn_132 rfl (lv_at hl 4 rfl) ?_
                    refine lv_iload_n hx hb d_Letter_fillIn_133 rfl (lv_at hl 1 rfl) ?_
                    refine lv_iload hx hb d_Letter_fillIn_134 (lv_at hl 0 rfl) ?_
                    obtain ⟨t41, hF⟩ := gd_ex hF
                    obtain ⟨I42, J43, c44, hF⟩ := bd2_ex hF
                    refine ga_cVv (As := [.ref p2, .int x2, .int x4]) C hw (c_Letter_putAdded l D T z L c44) gy_Letter_78 t41 rfl hl.1 ⟨Nat.le_of_ble_eq_true rfl, Nat.le_of_ble_eq_true rfl, rfl, rfl, Nat.le_of_ble_eq_true rfl, Nat.le_of_ble_eq_true rfl⟩ (Nat.le_of_ble_eq_true rfl) rfl d_Letter_fillIn_136 (fun H locs hw => ?_)
                    exact m_Letter_fillIn_b139 hret C _ _ hF _ _ _ (lv_sub hl [] rfl) hw
                  · rw [if_neg h40] at hF
                    by_cases h45 : (I p1 3) = (9 : Int32)
                    · rw [if_pos h45] at hF
                      refine lv_tableIn (tgt := 115) hx hb d_Letter_fillIn_17 (by rw [h45]; decide) (by rw [h45]; decide) (by rw [h45]; rfl) (by decide) ?_
                      refine lv_aload_n hx hb d_Letter_fillIn_115 rfl (lv_at hl 2 rfl) ?_
                      refine lv_aload_n hx hb d_Letter_fillIn_116 rfl (lv_at hl 4 rfl) ?_
                      refine lv_iload_n hx hb d_Letter_fillIn_117 rfl (lv_at hl 1 rfl) ?_
                      refine lv_i2l hx hb d_Letter_fillIn_118 rfl ?_
                      refine lv_iload hx hb d_Letter_fillIn_119 (lv_at hl 0 rfl) ?_
                      refine lv_i2l hx hb d_Letter_fillIn_121 rfl ?_
                      obtain ⟨t46, hF⟩ := gd_ex hF
                      obtain ⟨x47, c48, hF⟩ := ob_ex hF
                      refine ga_cVi (As := [.long x2.toInt64, .long x4.toInt64]) C hw (c_SortedRow_within l D T z L c48) gy_Letter_74 t46 rfl hl.1 ⟨Nat.le_of_ble_eq_true rfl, Nat.le_of_ble_eq_true rfl, rfl, rfl, Nat.le_of_ble_eq_true rfl, Nat.le_of_ble_eq_true rfl⟩ (Nat.le_of_ble_eq_true rfl) rfl d_Letter_fillIn_122 (fun H locs hw => ?_)
                      obtain ⟨t49, hF⟩ := gd_ex hF
                      obtain ⟨I50, c51, hF⟩ := ob_ex hF
                      refine ga_cVv (As := [.int x47]) C hw (c_Letter_put l D T z L c51) gy_Letter_60 t49 rfl hl.1 ⟨Nat.le_of_ble_eq_true rfl, Nat.le_of_ble_eq_true rfl, rfl, rfl, Nat.le_of_ble_eq_true rfl, Nat.le_of_ble_eq_true rfl⟩ (Nat.le_of_ble_eq_true rfl) rfl d_Letter_fillIn_125 (fun H locs hw => ?_)
                      refine lv_goto (tgt := 139) hx hb d_Letter_fillIn_128 (by decide) ?_
                      exact m_Letter_fillIn_b139 hret C _ _ hF _ _ _ (lv_sub hl [] rfl) hw
                    · rw [if_neg h45] at hF
                      refine lv_tableOut (tgt := 131) hx hb d_Letter_fillIn_17 (ga_out1_9 h6 h11 h16 h20 h25 h31 h36 h40 h45) (by decide) ?_
                      refine lv_aload_n hx hb d_Letter_fillIn_131 rfl (lv_at hl 2 rfl) ?_
                      refine lv_aload_n hx hb d_Letter_fillIn_132 rfl (lv_at hl 4 rfl) ?_
                      refine lv_iload_n hx hb d_Letter_fillIn_133 rfl (lv_at hl 1 rfl) ?_
                      refine lv_iload hx hb d_Letter_fillIn_134 (lv_at hl 0 rfl) ?_
                      obtain ⟨t52, hF⟩ := gd_ex hF
                      obtain ⟨I53, J54, c55, hF⟩ := bd2_ex hF
                      refine ga_cVv (As := [.ref p2, .int x2, .int x4]) C hw (c_Letter_putAdded l D T z L c55) gy_Letter_78 t52 rfl hl.1 ⟨Nat.le_of_ble_eq_true rfl, Nat.le_of_ble_eq_true rfl, rfl, rfl, Nat.le_of_ble_eq_true rfl, Nat.le_of_ble_eq_true rfl⟩ (Nat.le_of_ble_eq_true rfl) rfl d_Letter_fillIn_136 (fun H locs hw => ?_)
                      exact m_Letter_fillIn_b139 hret C _ _ hF _ _ _ (lv_sub hl [] rfl) hw
  refine key _ (fun pc ls H locs I1 J1 he hd hw => ?_)
  · cases he
    exact W.vret hx hb hr (fun t ht _ => ⟨⟨(), rfl, trivial, ga_o hw ht⟩, hw.2.2.2.1.F ht⟩) hw.2.2.2.1.2.2 hd
set_option maxHeartbeats 4000000 in
set_option maxRecDepth 100000 in
theorem c_Letter_copy (l : Launch) (D : va_G) (T : Nat → ClassId) (z : Nat) (L : List Nat) {S : gS} {I : gMI} {J : gMJ} {p0 : Nat} {p1 : Nat} {RI : gMI} {RJ : gMJ} (hF : f_Letter_copy S I J p0 p1 = some (RI, RJ)) : ga_Mv l y_Letter_copy prog_2_method_4_code 2 (Option.none : Option Jvm.ClassFile.FieldType) rm_Letter_copy [.ref p0, .ref p1] D T z L S I J RI RJ := by
  refine Met.ofW (cc := prog_2_method_4_code) (maxL := 2) (ret := (Option.none : Option Jvm.ClassFile.FieldType)) (by decide) rfl ?_
  intro p e s m args below meth c s₁ B hml hv
  obtain ⟨ha, hv⟩ := hv
  have hx := B.exec
  have hb := B.bytes
  have hr := B.returns
  have hts := atoms_spec (ws := .code y_Letter_copy prog_2_method_4_code 2 (Option.none : Option Jvm.ClassFile.FieldType) :: ga_ws) B.pre
  have hown : s.vm.findClass "RankHouse$Letter" = some m.cls := findClass_of_methodNamed B.named
  have hlocks := B.notSynchronized
  have C : CallFix p m c prog_2_method_4_code 2 s args ga_ws "RankHouse$Letter" := ⟨hx, hb, hml, hown, fun w h => hts w (List.mem_cons_of_mem _ h)⟩
  have hw := ga_start hv
  have hl := lv_entry ([.ref p0, .ref p1]) (n := 2) (Nat.le_of_ble_eq_true rfl)
  rw [show entryFrame m args 2 = entryFrame m ([.ref p0, .ref p1] : List Value).toArray 2 by rw [ha], lg_entry_eq]
  generalize (lg_sl ([.ref p0, .ref p1]) ++ List.replicate (2 - (lg_sl ([.ref p0, .ref p1])).length) Slot.unset).toArray = ls at hl ⊢
  have hl : lv_has ls 2 [(0, .ref p0), (1, .ref p1)] := hl
  have key : ∀ Q : State → Prop, (∀ (pc : Nat) (ls : Array Slot) (H : Heap) (locs : List Loc) (I1 : gMI) (J1 : gMJ), (I1, J1) = (RI, RJ) → decode prog_2_method_4_code pc = .ok (.return_, 1) → ga_W D T z L S I1 J1 s H locs → W p l e rm_Letter_copy s m args below meth c H locs 0 0 Q (F0 m pc ls [])) → W p l e rm_Letter_copy s m args below meth c s.heap [] 0 0 Q (F0 m 0 ls []) := by
    intro Q hret
    rw [f_Letter_copy] at hF
    refine lv_aload_n hx hb d_Letter_copy_0 rfl (lv_at hl 0 rfl) ?_
    refine lv_aload_n hx hb d_Letter_copy_1 rfl (lv_at hl 1 rfl) ?_
    obtain ⟨t1, hF⟩ := gd_ex hF
    refine ga_getI C hw gf_Letter_15 t1 d_Letter_copy_2 ?_
    refine lv_aload_n hx hb d_Letter_copy_5 rfl (lv_at hl 1 rfl) ?_
    refine ga_getI C hw gf_Letter_19 t1 d_Letter_copy_6 ?_
    refine lv_aload_n hx hb d_Letter_copy_9 rfl (lv_at hl 1 rfl) ?_
    refine ga_getI C hw gf_Letter_22 t1 d_Letter_copy_10 ?_
    refine lv_aload_n hx hb d_Letter_copy_13 rfl (lv_at hl 1 rfl) ?_
    refine ga_getI C hw gf_Letter_25 t1 d_Letter_copy_14 ?_
    refine lv_aload_n hx hb d_Letter_copy_17 rfl (lv_at hl 1 rfl) ?_
    refine ga_getI C hw gf_Letter_28 t1 d_Letter_copy_18 ?_
    refine lv_aload_n hx hb d_Letter_copy_21 rfl (lv_at hl 1 rfl) ?_
    refine ga_getI C hw gf_Letter_31 t1 d_Letter_copy_22 ?_
    obtain ⟨t2, hF⟩ := gd_ex hF
    obtain ⟨I3, J4, c5, hF⟩ := bd2_ex hF
    refine ga_cVv (As := [.int (I p1 3), .int (I p1 4), .int (I p1 5), .int (I p1 6), .int (I p1 7), .int (I p1 8)]) C hw (c_Letter_address l D T z L c5) gy_Letter_41 t2 rfl hl.1 ⟨Nat.le_of_ble_eq_true rfl, Nat.le_of_ble_eq_true rfl, rfl, rfl, Nat.le_of_ble_eq_true rfl, Nat.le_of_ble_eq_true rfl⟩ (Nat.le_of_ble_eq_true rfl) rfl d_Letter_copy_25 (fun H locs hw => ?_)
    refine lv_aload_n hx hb d_Letter_copy_28 rfl (lv_at hl 0 rfl) ?_
    refine lv_aload_n hx hb d_Letter_copy_29 rfl (lv_at hl 1 rfl) ?_
    refine ga_getI C hw gf_Letter_34 t1 d_Letter_copy_30 ?_
    obtain ⟨I6, eI6, hF⟩ := bnd_ex hF
    refine ga_putI C hw gp_Letter_34 t2 rfl rfl eI6 d_Letter_copy_33 (fun H locs hw => ?_)
    refine lv_aload_n hx hb d_Letter_copy_36 rfl (lv_at hl 1 rfl) ?_
    obtain ⟨r7, hr7, hF⟩ := ob_ex hF
    refine ga_getR C hw gf_Letter_9 t1 hr7 d_Letter_copy_37 ?_
    refine lv_iconst (v := 0) hx hb d_Letter_copy_40 (by decide) ?_
    refine lv_aload_n hx hb d_Letter_copy_41 rfl (lv_at hl 0 rfl) ?_
    obtain ⟨r8, hr8, hF⟩ := ob_ex hF
    refine ga_getR C hw gf_Letter_9 t2 hr8 d_Letter_copy_42 ?_
    refine lv_iconst (v := 0) hx hb d_Letter_copy_45 (by decide) ?_
    refine lv_aload_n hx hb d_Letter_copy_46 rfl (lv_at hl 0 rfl) ?_
    refine ga_getI C hw gf_Letter_34 t2 d_Letter_copy_47 ?_
    obtain ⟨t9, hF⟩ := gd_ex hF
    obtain ⟨t10, hF⟩ := gd_ex hF
    obtain ⟨b11, hF⟩ := gd_ex hF
    obtain ⟨I12, eI12, hF⟩ := bnd_ex hF
    refine ga_copy C hw hl.1 gj_Letter_45 t9 t10 b11 eI12 (Nat.le_of_ble_eq_true rfl) (Nat.le_of_ble_eq_true rfl) d_Letter_copy_50 (fun H locs hw => ?_)
    refine lv_aload_n hx hb d_Letter_copy_53 rfl (lv_at hl 0 rfl) ?_
    refine lv_aload_n hx hb d_Letter_copy_54 rfl (lv_at hl 1 rfl) ?_
    refine ga_getJ C hw gf_Letter_37 t1 d_Letter_copy_55 ?_
    obtain ⟨J13, eJ13, hF⟩ := bnd_ex hF
    refine ga_putJ C hw gp_Letter_37 t2 eJ13 d_Letter_copy_58 (fun H locs hw => ?_)
    exact hret _ _ _ _ _ _ (Option.some.inj hF) d_Letter_copy_61 hw
  refine key _ (fun pc ls H locs I1 J1 he hd hw => ?_)
  · cases he
    exact W.vret hx hb hr (fun t ht _ => ⟨⟨(), rfl, trivial, ga_o hw ht⟩, hw.2.2.2.1.F ht⟩) hw.2.2.2.1.2.2 hd
end WALK
