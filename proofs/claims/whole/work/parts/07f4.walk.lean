section WALK
variable {p : Program} {l : Launch} {e : Env} {s : State} {m : MethodId} {args : Array Value} {below : List Frame} {meth : Method} {c : Code} {Q : State → Prop} {D : va_G} {T : Nat → ClassId} {z : Nat} {L : List Nat} {S : gS}
set_option maxHeartbeats 4000000 in
set_option maxRecDepth 100000 in
theorem c_M_bring (l : Launch) (D : va_G) (T : Nat → ClassId) (z : Nat) (L : List Nat) {S : gS} {I : gMI} {J : gMJ} {p0 : Nat} {p1 : Int32} {RI : gMI} {RJ : gMJ} (hF : f_M_bring S I J p0 p1 = some (RI, RJ)) : ga_Mv l y_M_bring prog_10_method_32_code 10 (Option.none : Option Jvm.ClassFile.FieldType) rm_M_bring [.ref p0, .int p1] D T z L S I J RI RJ := by
  refine Met.ofW (cc := prog_10_method_32_code) (maxL := 10) (ret := (Option.none : Option Jvm.ClassFile.FieldType)) (by decide) rfl ?_
  intro p e s m args below meth c s₁ B hml hv
  obtain ⟨ha, hv⟩ := hv
  have hx := B.exec
  have hb := B.bytes
  have hr := B.returns
  have hts := atoms_spec (ws := .code y_M_bring prog_10_method_32_code 10 (Option.none : Option Jvm.ClassFile.FieldType) :: ga_ws) B.pre
  have hown : s.vm.findClass "RankHouseModel" = some m.cls := findClass_of_methodNamed B.named
  have hlocks := B.notSynchronized
  have C : CallFix p m c prog_10_method_32_code 10 s args ga_ws "RankHouseModel" := ⟨hx, hb, hml, hown, fun w h => hts w (List.mem_cons_of_mem _ h)⟩
  have hw := ga_start hv
  have hl := lv_entry ([.ref p0, .int p1]) (n := 10) (Nat.le_of_ble_eq_true rfl)
  rw [show entryFrame m args 10 = entryFrame m ([.ref p0, .int p1] : List Value).toArray 10 by rw [ha], lg_entry_eq]
  generalize (lg_sl ([.ref p0, .int p1]) ++ List.replicate (10 - (lg_sl ([.ref p0, .int p1])).length) Slot.unset).toArray = ls at hl ⊢
  have hl : lv_has ls 10 [(0, .ref p0), (1, .int p1)] := hl
  have key : ∀ Q : State → Prop, (∀ (pc : Nat) (ls : Array Slot) (H : Heap) (locs : List Loc) (I1 : gMI) (J1 : gMJ), (I1, J1) = (RI, RJ) → decode prog_10_method_32_code pc = .ok (.return_, 1) → ga_W D T z L S I1 J1 s H locs → W p l e rm_M_bring s m args below meth c H locs 0 0 Q (F0 m pc ls [])) → W p l e rm_M_bring s m args below meth c s.heap [] 0 0 Q (F0 m 0 ls []) := by
    intro Q hret
    rw [f_M_bring] at hF
    refine lv_aload_n hx hb d_M_bring_0 rfl (lv_at hl 0 rfl) ?_
    obtain ⟨t1, hF⟩ := gd_ex hF
    obtain ⟨r2, hr2, hF⟩ := ob_ex hF
    refine ga_getR C hw gf_M_102 t1 hr2 d_M_bring_1 ?_
    refine lv_bipush (v := 7) hx hb d_M_bring_4 (by decide) ?_
    refine lv_iload_n hx hb d_M_bring_6 rfl (lv_at hl 1 rfl) ?_
    refine lv_imul hx hb d_M_bring_7 ?_
    obtain ⟨t3, hF⟩ := gd_ex hF
    obtain ⟨b4, hF⟩ := gd_ex hF
    refine ga_iald C hw t3 b4 d_M_bring_8 ?_
    refine lv_topi (fun v5 ev5 => ?_)
    replace hF := bnd_at hF ev5
    refine lv_istore_n hx hb d_M_bring_9 rfl hl (by decide) rfl (fun ls hl => ?_)
    have hl : lv_has ls 10 [(2, .int v5), (0, .ref p0), (1, .int p1)] := hl
    refine lv_aload_n hx hb d_M_bring_10 rfl (lv_at hl 1 rfl) ?_
    refine ga_getR C hw gf_M_102 t1 hr2 d_M_bring_11 ?_
    refine lv_bipush (v := 7) hx hb d_M_bring_14 (by decide) ?_
    refine lv_iload_n hx hb d_M_bring_16 rfl (lv_at hl 2 rfl) ?_
    refine lv_imul hx hb d_M_bring_17 ?_
    refine lv_iconst (v := 1) hx hb d_M_bring_18 (by decide) ?_
    refine lv_iadd hx hb d_M_bring_19 ?_
    obtain ⟨b6, hF⟩ := gd_ex hF
    refine ga_iald C hw t3 b6 d_M_bring_20 ?_
    refine lv_topi (fun v7 ev7 => ?_)
    replace hF := bnd_at hF ev7
    refine lv_istore_n hx hb d_M_bring_21 rfl hl (by decide) rfl (fun ls hl => ?_)
    have hl : lv_has ls 10 [(3, .int v7), (2, .int v5), (0, .ref p0), (1, .int p1)] := hl
    refine lv_aload_n hx hb d_M_bring_22 rfl (lv_at hl 2 rfl) ?_
    refine ga_getR C hw gf_M_102 t1 hr2 d_M_bring_23 ?_
    refine lv_bipush (v := 7) hx hb d_M_bring_26 (by decide) ?_
    refine lv_iload_n hx hb d_M_bring_28 rfl (lv_at hl 3 rfl) ?_
    refine lv_imul hx hb d_M_bring_29 ?_
    refine lv_iconst (v := 2) hx hb d_M_bring_30 (by decide) ?_
    refine lv_iadd hx hb d_M_bring_31 ?_
    obtain ⟨b8, hF⟩ := gd_ex hF
    refine ga_iald C hw t3 b8 d_M_bring_32 ?_
    refine lv_topi (fun v9 ev9 => ?_)
    replace hF := bnd_at hF ev9
    refine lv_istore hx hb d_M_bring_33 hl (by decide) rfl (fun ls hl => ?_)
    have hl : lv_has ls 10 [(4, .int v9), (3, .int v7), (2, .int v5), (0, .ref p0), (1, .int p1)] := hl
    refine lv_aload_n hx hb d_M_bring_35 rfl (lv_at hl 3 rfl) ?_
    refine ga_getR C hw gf_M_102 t1 hr2 d_M_bring_36 ?_
    refine lv_bipush (v := 7) hx hb d_M_bring_39 (by decide) ?_
    refine lv_iload_n hx hb d_M_bring_41 rfl (lv_at hl 4 rfl) ?_
    refine lv_imul hx hb d_M_bring_42 ?_
    refine lv_iconst (v := 3) hx hb d_M_bring_43 (by decide) ?_
    refine lv_iadd hx hb d_M_bring_44 ?_
    obtain ⟨b10, hF⟩ := gd_ex hF
    refine ga_iald C hw t3 b10 d_M_bring_45 ?_
    refine lv_topi (fun v11 ev11 => ?_)
    replace hF := bnd_at hF ev11
    refine lv_istore hx hb d_M_bring_46 hl (by decide) rfl (fun ls hl => ?_)
    have hl : lv_has ls 10 [(5, .int v11), (4, .int v9), (3, .int v7), (2, .int v5), (0, .ref p0), (1, .int p1)] := hl
    refine lv_aload_n hx hb d_M_bring_48 rfl (lv_at hl 4 rfl) ?_
    refine ga_getR C hw gf_M_102 t1 hr2 d_M_bring_49 ?_
    refine lv_bipush (v := 7) hx hb d_M_bring_52 (by decide) ?_
    refine lv_iload_n hx hb d_M_bring_54 rfl (lv_at hl 5 rfl) ?_
    refine lv_imul hx hb d_M_bring_55 ?_
    refine lv_iconst (v := 4) hx hb d_M_bring_56 (by decide) ?_
    refine lv_iadd hx hb d_M_bring_57 ?_
    obtain ⟨b12, hF⟩ := gd_ex hF
    refine ga_iald C hw t3 b12 d_M_bring_58 ?_
    refine lv_topi (fun v13 ev13 => ?_)
    replace hF := bnd_at hF ev13
    refine lv_istore hx hb d_M_bring_59 hl (by decide) rfl (fun ls hl => ?_)
    have hl : lv_has ls 10 [(6, .int v13), (5, .int v11), (4, .int v9), (3, .int v7), (2, .int v5), (0, .ref p0), (1, .int p1)] := hl
    refine lv_aload_n hx hb d_M_bring_61 rfl (lv_at hl 5 rfl) ?_
    refine ga_getR C hw gf_M_102 t1 hr2 d_M_bring_62 ?_
    refine lv_bipush (v := 7) hx hb d_M_bring_65 (by decide) ?_
    refine lv_iload_n hx hb d_M_bring_67 rfl (lv_at hl 6 rfl) ?_
    refine lv_imul hx hb d_M_bring_68 ?_
    refine lv_iconst (v := 5) hx hb d_M_bring_69 (by decide) ?_
    refine lv_iadd hx hb d_M_bring_70 ?_
    obtain ⟨b14, hF⟩ := gd_ex hF
    refine ga_iald C hw t3 b14 d_M_bring_71 ?_
    refine lv_topi (fun v15 ev15 => ?_)
    replace hF := bnd_at hF ev15
    refine lv_istore hx hb d_M_bring_72 hl (by decide) rfl (fun ls hl => ?_)
    have hl : lv_has ls 10 [(7, .int v15), (6, .int v13), (5, .int v11), (4, .int v9), (3, .int v7), (2, .int v5), (0, .ref p0), (1, .int p1)] := hl
    refine lv_aload_n hx hb d_M_bring_74 rfl (lv_at hl 6 rfl) ?_
    refine lv_aload_n hx hb d_M_bring_75 rfl (lv_at hl 6 rfl) ?_
    refine ga_getR C hw gf_M_102 t1 hr2 d_M_bring_76 ?_
    refine lv_bipush (v := 7) hx hb d_M_bring_79 (by decide) ?_
    refine lv_iload_n hx hb d_M_bring_81 rfl (lv_at hl 7 rfl) ?_
    refine lv_imul hx hb d_M_bring_82 ?_
    refine lv_bipush (v := 6) hx hb d_M_bring_83 (by decide) ?_
    refine lv_iadd hx hb d_M_bring_85 ?_
    obtain ⟨b16, hF⟩ := gd_ex hF
    refine ga_iald C hw t3 b16 d_M_bring_86 ?_
    obtain ⟨I17, eI17, hF⟩ := bnd_ex hF
    refine ga_putI C hw gp_M_130 t1 rfl rfl eI17 d_M_bring_87 (fun H locs hw => ?_)
    refine lv_iconst (v := 0) hx hb d_M_bring_90 (by decide) ?_
    refine lv_istore hx hb d_M_bring_91 hl (by decide) rfl (fun ls hl => ?_)
    have hl : lv_has ls 10 [(8, .int (0 : Int32)), (7, .int v15), (6, .int v13), (5, .int v11), (4, .int v9), (3, .int v7), (2, .int v5), (0, .ref p0), (1, .int p1)] := hl
    exact m_M_bring_b93 hret C gFuel _ _ _ _ _ _ _ _ _ _ _ hF _ _ _ (lv_sub hl [7, 8, 6, 5, 4, 3, 2, 1, 0] rfl) hw
  refine key _ (fun pc ls H locs I1 J1 he hd hw => ?_)
  · cases he
    exact W.vret hx hb hr (fun t ht _ => ⟨⟨(), rfl, trivial, ga_o hw ht⟩, hw.2.2.2.1.F ht⟩) hw.2.2.2.1.2.2 hd
set_option maxHeartbeats 4000000 in
set_option maxRecDepth 100000 in
theorem m_M_isLetter_b17 {I : gMI} {J : gMJ} {zz : Int32} (hret : ∀ (pc : Nat) (ls : Array Slot) (H : Heap) (locs : List Loc) (x : Int32), (x) = zz → decode prog_10_method_33_code pc = .ok (.ireturn, 1) → (x = 0 ∨ x = 1) → ga_W D T z L S I J s H locs → W p l e rm_M_isLetter s m args below meth c H locs 0 0 Q (F0 m pc ls [.int x])) (C : CallFix p m c prog_10_method_33_code 2 s args ga_ws "RankHouseModel") : ∀ (s0 : Int32), f_M_isLetter_b17 S I J s0 = some zz → ∀ (ls : Array Slot) (H : Heap) (locs : List Loc), lv_has ls 2 [] → ga_W D T z L S I J s H locs → W p l e rm_M_isLetter s m args below meth c H locs 0 0 Q (F0 m 17 ls [.int s0]) := by
  intro s0 hF ls H locs hl hw
  have hx := C.1
  have hb := C.2.1
  rw [f_M_isLetter_b17] at hF
  obtain ⟨z1, hF⟩ := gd_ex hF
  exact hret _ _ _ _ _ (Option.some.inj hF) d_M_isLetter_17 z1 hw
set_option maxHeartbeats 4000000 in
set_option maxRecDepth 100000 in
theorem m_M_isLetter_b16 {I : gMI} {J : gMJ} {zz : Int32} (hret : ∀ (pc : Nat) (ls : Array Slot) (H : Heap) (locs : List Loc) (x : Int32), (x) = zz → decode prog_10_method_33_code pc = .ok (.ireturn, 1) → (x = 0 ∨ x = 1) → ga_W D T z L S I J s H locs → W p l e rm_M_isLetter s m args below meth c H locs 0 0 Q (F0 m pc ls [.int x])) (C : CallFix p m c prog_10_method_33_code 2 s args ga_ws "RankHouseModel") : f_M_isLetter_b16 S I J = some zz → ∀ (ls : Array Slot) (H : Heap) (locs : List Loc), lv_has ls 2 [] → ga_W D T z L S I J s H locs → W p l e rm_M_isLetter s m args below meth c H locs 0 0 Q (F0 m 16 ls []) := by
  intro hF ls H locs hl hw
  have hx := C.1
  have hb := C.2.1
  rw [f_M_isLetter_b16] at hF
  refine lv_iconst (v := 0) hx hb d_M_isLetter_16 (by decide) ?_
  exact m_M_isLetter_b17 hret C _ hF _ _ _ hl hw
set_option maxHeartbeats 4000000 in
set_option maxRecDepth 100000 in
theorem c_M_isLetter (l : Launch) (D : va_G) (T : Nat → ClassId) (z : Nat) (L : List Nat) {S : gS} {I : gMI} {J : gMJ} {p0 : Nat} {p1 : Int32} {r : Int32} (hF : f_M_isLetter S I J p0 p1 = some (r)) : ga_Mi l y_M_isLetter prog_10_method_33_code 2 (Option.some Jvm.ClassFile.FieldType.boolean) rm_M_isLetter [.ref p0, .int p1] D T z L S I J r I J := by
  refine Met.ofW (cc := prog_10_method_33_code) (maxL := 2) (ret := (Option.some Jvm.ClassFile.FieldType.boolean)) (by decide) rfl ?_
  intro p e s m args below meth c s₁ B hml hv
  obtain ⟨ha, hv⟩ := hv
  have hx := B.exec
  have hb := B.bytes
  have hr := B.returns
  have hts := atoms_spec (ws := .code y_M_isLetter prog_10_method_33_code 2 (Option.some Jvm.ClassFile.FieldType.boolean) :: ga_ws) B.pre
  have hown : s.vm.findClass "RankHouseModel" = some m.cls := findClass_of_methodNamed B.named
  have hlocks := B.notSynchronized
  have C : CallFix p m c prog_10_method_33_code 2 s args ga_ws "RankHouseModel" := ⟨hx, hb, hml, hown, fun w h => hts w (List.mem_cons_of_mem _ h)⟩
  have hw := ga_start hv
  have hl := lv_entry ([.ref p0, .int p1]) (n := 2) (Nat.le_of_ble_eq_true rfl)
  rw [show entryFrame m args 2 = entryFrame m ([.ref p0, .int p1] : List Value).toArray 2 by rw [ha], lg_entry_eq]
  generalize (lg_sl ([.ref p0, .int p1]) ++ List.replicate (2 - (lg_sl ([.ref p0, .int p1])).length) Slot.unset).toArray = ls at hl ⊢
  have hl : lv_has ls 2 [(0, .ref p0), (1, .int p1)] := hl
  have key : ∀ Q : State → Prop, (∀ (pc : Nat) (ls : Array Slot) (H : Heap) (locs : List Loc) (x : Int32), (x) = (r) → decode prog_10_method_33_code pc = .ok (.ireturn, 1) → (x = 0 ∨ x = 1) → ga_W D T z L S I J s H locs → W p l e rm_M_isLetter s m args below meth c H locs 0 0 Q (F0 m pc ls [.int x])) → W p l e rm_M_isLetter s m args below meth c s.heap [] 0 0 Q (F0 m 0 ls []) := by
    intro Q hret
    rw [f_M_isLetter] at hF
    refine lv_iload_n hx hb d_M_isLetter_0 rfl (lv_at hl 1 rfl) ?_
    by_cases h1 : p1 < 0
    · rw [if_pos h1] at hF
      refine lv_if_lt (tgt := 16) hx hb d_M_isLetter_1 (by decide) (fun _ => ?_) (fun hn => absurd h1 hn)
      exact m_M_isLetter_b16 hret C hF _ _ _ (lv_sub hl [] rfl) hw
    · rw [if_neg h1] at hF
      refine lv_if_lt (tgt := 16) hx hb d_M_isLetter_1 (by decide) (fun hp => absurd hp h1) (fun _ => ?_)
      refine lv_iload_n hx hb d_M_isLetter_4 rfl (lv_at hl 1 rfl) ?_
      refine lv_aload_n hx hb d_M_isLetter_5 rfl (lv_at hl 0 rfl) ?_
      obtain ⟨t2, hF⟩ := gd_ex hF
      refine ga_getI C hw gf_M_127 t2 d_M_isLetter_6 ?_
      by_cases h3 : (I p0 32) ≤ p1
      · rw [if_pos h3] at hF
        refine lv_icmp_ge (tgt := 16) hx hb d_M_isLetter_9 (by decide) (fun _ => ?_) (fun hn => absurd h3 hn)
        exact m_M_isLetter_b16 hret C hF _ _ _ (lv_sub hl [] rfl) hw
      · rw [if_neg h3] at hF
        refine lv_icmp_ge (tgt := 16) hx hb d_M_isLetter_9 (by decide) (fun hp => absurd hp h3) (fun _ => ?_)
        refine lv_iconst (v := 1) hx hb d_M_isLetter_12 (by decide) ?_
        refine lv_goto (tgt := 17) hx hb d_M_isLetter_13 (by decide) ?_
        exact m_M_isLetter_b17 hret C _ hF _ _ _ (lv_sub hl [] rfl) hw
  refine key _ (fun pc ls H locs x he hd hz hw => ?_)
  · cases he
    exact W.zret hx hb hr (ga_zb hz) (fun t ht _ => ⟨⟨_, (), rfl, rfl, ga_o hw ht⟩, hw.2.2.2.1.F ht⟩) hw.2.2.2.1.2.2 hd
set_option maxHeartbeats 4000000 in
set_option maxRecDepth 100000 in
theorem c_M_letters (l : Launch) (D : va_G) (T : Nat → ClassId) (z : Nat) (L : List Nat) {S : gS} {I : gMI} {J : gMJ} {p0 : Nat} {r : Int32} {RI : gMI} (hF : f_M_letters S I J p0 = some (r, RI)) : ga_Mi l y_M_letters prog_10_method_34_code 1 (Option.some Jvm.ClassFile.FieldType.int) rm_M_letters [.ref p0] D T z L S I J r RI J := by
  refine Met.ofW (cc := prog_10_method_34_code) (maxL := 1) (ret := (Option.some Jvm.ClassFile.FieldType.int)) (by decide) rfl ?_
  intro p e s m args below meth c s₁ B hml hv
  obtain ⟨ha, hv⟩ := hv
  have hx := B.exec
  have hb := B.bytes
  have hr := B.returns
  have hts := atoms_spec (ws := .code y_M_letters prog_10_method_34_code 1 (Option.some Jvm.ClassFile.FieldType.int) :: ga_ws) B.pre
  have hown : s.vm.findClass "RankHouseModel" = some m.cls := findClass_of_methodNamed B.named
  have hlocks := B.notSynchronized
  have C : CallFix p m c prog_10_method_34_code 1 s args ga_ws "RankHouseModel" := ⟨hx, hb, hml, hown, fun w h => hts w (List.mem_cons_of_mem _ h)⟩
  have hw := ga_start hv
  have hl := lv_entry ([.ref p0]) (n := 1) (Nat.le_of_ble_eq_true rfl)
  rw [show entryFrame m args 1 = entryFrame m ([.ref p0] : List Value).toArray 1 by rw [ha], lg_entry_eq]
  generalize (lg_sl ([.ref p0]) ++ List.replicate (1 - (lg_sl ([.ref p0])).length) Slot.unset).toArray = ls at hl ⊢
  have hl : lv_has ls 1 [(0, .ref p0)] := hl
  have key : ∀ Q : State → Prop, (∀ (pc : Nat) (ls : Array Slot) (H : Heap) (locs : List Loc) (x : Int32) (I1 : gMI), (x, I1) = (r, RI) → decode prog_10_method_34_code pc = .ok (.ireturn, 1) → ga_W D T z L S I1 J s H locs → W p l e rm_M_letters s m args below meth c H locs 0 0 Q (F0 m pc ls [.int x])) → W p l e rm_M_letters s m args below meth c s.heap [] 0 0 Q (F0 m 0 ls []) := by
    intro Q hret
    rw [f_M_letters] at hF
    refine lv_aload_n hx hb d_M_letters_0 rfl (lv_at hl 0 rfl) ?_
    refine lv_iconst (v := 0) hx hb d_M_letters_1 (by decide) ?_
    obtain ⟨t1, hF⟩ := gd_ex hF
    obtain ⟨I2, eI2, hF⟩ := bnd_ex hF
    refine ga_putI C hw gp_M_114 t1 rfl rfl eI2 d_M_letters_2 (fun H locs hw => ?_)
    refine lv_aload_n hx hb d_M_letters_5 rfl (lv_at hl 0 rfl) ?_
    refine ga_getI C hw gf_M_127 t1 d_M_letters_6 ?_
    exact hret _ _ _ _ _ _ (Option.some.inj hF) d_M_letters_9 hw
  refine key _ (fun pc ls H locs x I1 he hd hw => ?_)
  · cases he
    exact W.iret hx hb hr (fun t ht _ => ⟨⟨_, (), rfl, rfl, ga_o hw ht⟩, hw.2.2.2.1.F ht⟩) hw.2.2.2.1.2.2 hd
set_option maxHeartbeats 4000000 in
set_option maxRecDepth 100000 in
theorem m_M_letter_b168 {J : gMJ} {zz : Int32 × gMI} (hret : ∀ (pc : Nat) (ls : Array Slot) (H : Heap) (locs : List Loc) (x : Int32) (I1 : gMI), (x, I1) = zz → decode prog_10_method_35_code pc = .ok (.ireturn, 1) → ga_W D T z L S I1 J s H locs → W p l e rm_M_letter s m args below meth c H locs 0 0 Q (F0 m pc ls [.int x])) (C : CallFix p m c prog_10_method_35_code 4 s args ga_ws "RankHouseModel") : ∀ (I : gMI) (s0 : Int32), f_M_letter_b168 S J I s0 = some zz → ∀ (ls : Array Slot) (H : Heap) (locs : List Loc), lv_has ls 4 [] → ga_W D T z L S I J s H locs → W p l e rm_M_letter s m args below meth c H locs 0 0 Q (F0 m 168 ls [.int s0]) := by
  intro I s0 hF ls H locs hl hw
  have hx := C.1
  have hb := C.2.1
  rw [f_M_letter_b168] at hF
  exact hret _ _ _ _ _ _ (Option.some.inj hF) d_M_letter_168 hw
set_option maxHeartbeats 4000000 in
set_option maxRecDepth 100000 in
theorem m_M_letter_b28 {J : gMJ} {zz : Int32 × gMI} (hret : ∀ (pc : Nat) (ls : Array Slot) (H : Heap) (locs : List Loc) (x : Int32) (I1 : gMI), (x, I1) = zz → decode prog_10_method_35_code pc = .ok (.ireturn, 1) → ga_W D T z L S I1 J s H locs → W p l e rm_M_letter s m args below meth c H locs 0 0 Q (F0 m pc ls [.int x])) (C : CallFix p m c prog_10_method_35_code 4 s args ga_ws "RankHouseModel") : ∀ (I : gMI) (s0 : Int32) (s1 : Nat) (l0 : Nat) (l1 : Int32) (l2 : Int32), f_M_letter_b28 S J I s0 s1 l0 l1 l2 = some zz → ∀ (ls : Array Slot) (H : Heap) (locs : List Loc), lv_has ls 4 [(0, .ref l0), (1, .int l1), (2, .int l2)] → ga_W D T z L S I J s H locs → W p l e rm_M_letter s m args below meth c H locs 0 0 Q (F0 m 28 ls [.int s0, .ref s1]) := by
  intro I s0 s1 l0 l1 l2 hF ls H locs hl hw
  have hx := C.1
  have hb := C.2.1
  rw [f_M_letter_b28] at hF
  obtain ⟨t1, hF⟩ := gd_ex hF
  obtain ⟨I2, eI2, hF⟩ := bnd_ex hF
  refine ga_putI C hw gp_M_114 t1 rfl rfl eI2 d_M_letter_28 (fun H locs hw => ?_)
  refine lv_aload_n hx hb d_M_letter_31 rfl (lv_at hl 0 rfl) ?_
  obtain ⟨t3, hF⟩ := gd_ex hF
  refine ga_getI C hw gf_M_114 t3 d_M_letter_32 ?_
  by_cases h4 : (I2 l0 0) ≤ 0
  · rw [if_pos h4] at hF
    refine lv_if_le (tgt := 40) hx hb d_M_letter_35 (by decide) (fun _ => ?_) (fun hn => absurd h4 hn)
    refine lv_iload_n hx hb d_M_letter_40 rfl (lv_at hl 2 rfl) ?_
    refine lv_bipush (v := 6) hx hb d_M_letter_41 (by decide) ?_
    by_cases h5 : l2 ≤ (6 : Int32)
    · rw [if_pos h5] at hF
      refine lv_icmp_le (tgt := 61) hx hb d_M_letter_43 (by decide) (fun _ => ?_) (fun hn => absurd h5 hn)
      refine lv_bipush (v := 7) hx hb d_M_letter_61 (by decide) ?_
      refine lv_iload_n hx hb d_M_letter_63 rfl (lv_at hl 1 rfl) ?_
      refine lv_imul hx hb d_M_letter_64 ?_
      refine lv_topi (fun v6 ev6 => ?_)
      replace hF := bnd_at hF ev6
      refine lv_istore_n hx hb d_M_letter_65 rfl hl (by decide) rfl (fun ls hl => ?_)
      have hl : lv_has ls 4 [(3, .int v6), (0, .ref l0), (1, .int l1), (2, .int l2)] := hl
      refine lv_iload_n hx hb d_M_letter_66 rfl (lv_at hl 3 rfl) ?_
      by_cases h7 : l2 = 0
      · rw [if_pos h7] at hF
        refine lv_if_ne (tgt := 79) hx hb d_M_letter_67 (by decide) (fun hn => absurd h7 hn) (fun _ => ?_)
        refine lv_aload_n hx hb d_M_letter_70 rfl (lv_at hl 1 rfl) ?_
        obtain ⟨r31, hr31, hF⟩ := ob_ex hF
        refine ga_getR C hw gf_M_102 t3 hr31 d_M_letter_71 ?_
        refine lv_iload_n hx hb d_M_letter_74 rfl (lv_at hl 0 rfl) ?_
        obtain ⟨t32, hF⟩ := gd_ex hF
        obtain ⟨b33, hF⟩ := gd_ex hF
        refine ga_iald C hw t32 b33 d_M_letter_75 ?_
        refine lv_goto (tgt := 168) hx hb d_M_letter_76 (by decide) ?_
        exact m_M_letter_b168 hret C _ _ hF _ _ _ (lv_sub hl [] rfl) hw
      · rw [if_neg h7] at hF
        refine lv_if_ne (tgt := 79) hx hb d_M_letter_67 (by decide) (fun _ => ?_) (fun hp => absurd hp h7)
        refine lv_iload_n hx hb d_M_letter_79 rfl (lv_at hl 3 rfl) ?_
        refine lv_iconst (v := 1) hx hb d_M_letter_80 (by decide) ?_
        by_cases h8 : l2 = (1 : Int32)
        · rw [if_pos h8] at hF
          refine lv_icmp_ne (tgt := 95) hx hb d_M_letter_81 (by decide) (fun hn => absurd h8 hn) (fun _ => ?_)
          refine lv_aload_n hx hb d_M_letter_84 rfl (lv_at hl 1 rfl) ?_
          obtain ⟨r28, hr28, hF⟩ := ob_ex hF
          refine ga_getR C hw gf_M_102 t3 hr28 d_M_letter_85 ?_
          refine lv_iload_n hx hb d_M_letter_88 rfl (lv_at hl 0 rfl) ?_
          refine lv_iconst (v := 1) hx hb d_M_letter_89 (by decide) ?_
          refine lv_iadd hx hb d_M_letter_90 ?_
          obtain ⟨t29, hF⟩ := gd_ex hF
          obtain ⟨b30, hF⟩ := gd_ex hF
          refine ga_iald C hw t29 b30 d_M_letter_91 ?_
          refine lv_goto (tgt := 168) hx hb d_M_letter_92 (by decide) ?_
          exact m_M_letter_b168 hret C _ _ hF _ _ _ (lv_sub hl [] rfl) hw
        · rw [if_neg h8] at hF
          refine lv_icmp_ne (tgt := 95) hx hb d_M_letter_81 (by decide) (fun _ => ?_) (fun hp => absurd hp h8)
          refine lv_iload_n hx hb d_M_letter_95 rfl (lv_at hl 3 rfl) ?_
          refine lv_iconst (v := 2) hx hb d_M_letter_96 (by decide) ?_
          by_cases h9 : l2 = (2 : Int32)
          · rw [if_pos h9] at hF
            refine lv_icmp_ne (tgt := 111) hx hb d_M_letter_97 (by decide) (fun hn => absurd h9 hn) (fun _ => ?_)
            refine lv_aload_n hx hb d_M_letter_100 rfl (lv_at hl 1 rfl) ?_
            obtain ⟨r25, hr25, hF⟩ := ob_ex hF
            refine ga_getR C hw gf_M_102 t3 hr25 d_M_letter_101 ?_
            refine lv_iload_n hx hb d_M_letter_104 rfl (lv_at hl 0 rfl) ?_
            refine lv_iconst (v := 3) hx hb d_M_letter_105 (by decide) ?_
            refine lv_iadd hx hb d_M_letter_106 ?_
            obtain ⟨t26, hF⟩ := gd_ex hF
            obtain ⟨b27, hF⟩ := gd_ex hF
            refine ga_iald C hw t26 b27 d_M_letter_107 ?_
            refine lv_goto (tgt := 168) hx hb d_M_letter_108 (by decide) ?_
            exact m_M_letter_b168 hret C _ _ hF _ _ _ (lv_sub hl [] rfl) hw
          · rw [if_neg h9] at hF
            refine lv_icmp_ne (tgt := 111) hx hb d_M_letter_97 (by decide) (fun _ => ?_) (fun hp => absurd hp h9)
            refine lv_iload_n hx hb d_M_letter_111 rfl (lv_at hl 3 rfl) ?_
            refine lv_iconst (v := 3) hx hb d_M_letter_112 (by decide) ?_
            by_cases h10 : l2 = (3 : Int32)
            · rw [if_pos h10] at hF
              refine lv_icmp_ne (tgt := 127) hx hb d_M_letter_113 (by decide) (fun hn => absurd h10 hn) (fun _ => ?_)
              refine lv_aload_n hx hb d_M_letter_116 rfl (lv_at hl 1 rfl) ?_
              obtain ⟨r22, hr22, hF⟩ := ob_ex hF
              refine ga_getR C hw gf_M_102 t3 hr22 d_M_letter_117 ?_
              refine lv_iload_n hx hb d_M_letter_120 rfl (lv_at hl 0 rfl) ?_
              refine lv_iconst (v := 4) hx hb d_M_letter_121 (by decide) ?_
              refine lv_iadd hx hb d_M_letter_122 ?_
              obtain ⟨t23, hF⟩ := gd_ex hF
              obtain ⟨b24, hF⟩ := gd_ex hF
              refine ga_iald C hw t23 b24 d_M_letter_123 ?_
              refine lv_goto (tgt := 168) hx hb d_M_letter_124 (by decide) ?_
              exact m_M_letter_b168 hret C _ _ hF _ _ _ (lv_sub hl [] rfl) hw
            · rw [if_neg h10] at hF
              refine lv_icmp_ne (tgt := 127) hx hb d_M_letter_113 (by decide) (fun _ => ?_) (fun hp => absurd hp h10)
              refine lv_iload_n hx hb d_M_letter_127 rfl (lv_at hl 3 rfl) ?_
              refine lv_iconst (v := 4) hx hb d_M_letter_128 (by decide) ?_
              by_cases h11 : l2 = (4 : Int32)
              · rw [if_pos h11] at hF
                refine lv_icmp_ne (tgt := 143) hx hb d_M_letter_129 (by decide) (fun hn => absurd h11 hn) (fun _ => ?_)
                refine lv_aload_n hx hb d_M_letter_132 rfl (lv_at hl 1 rfl) ?_
                obtain ⟨r19, hr19, hF⟩ := ob_ex hF
                refine ga_getR C hw gf_M_102 t3 hr19 d_M_letter_133 ?_
                refine lv_iload_n hx hb d_M_letter_136 rfl (lv_at hl 0 rfl) ?_
                refine lv_iconst (v := 5) hx hb d_M_letter_137 (by decide) ?_
                refine lv_iadd hx hb d_M_letter_138 ?_
                obtain ⟨t20, hF⟩ := gd_ex hF
                obtain ⟨b21, hF⟩ := gd_ex hF
                refine ga_iald C hw t20 b21 d_M_letter_139 ?_
                refine lv_goto (tgt := 168) hx hb d_M_letter_140 (by decide) ?_
                exact m_M_letter_b168 hret C _ _ hF _ _ _ (lv_sub hl [] rfl) hw
              · rw [if_neg h11] at hF
                refine lv_icmp_ne (tgt := 143) hx hb d_M_letter_129 (by decide) (fun _ => ?_) (fun hp => absurd hp h11)
                refine lv_iload_n hx hb d_M_letter_143 rfl (lv_at hl 3 rfl) ?_
                refine lv_iconst (v := 5) hx hb d_M_letter_144 (by decide) ?_
                by_cases h12 : l2 = (5 : Int32)
                · rw [if_pos h12] at hF
                  refine lv_icmp_ne (tgt := 159) hx hb d_M_letter_145 (by decide) (fun hn => absurd h12 hn) (fun _ => ?_)
                  refine lv_aload_n hx hb d_M_letter_148 rfl (lv_at hl 1 rfl) ?_
                  obtain ⟨r16, hr16, hF⟩ := ob_ex hF
                  refine ga_getR C hw gf_M_102 t3 hr16 d_M_letter_149 ?_
                  refine lv_iload_n hx hb d_M_letter_152 rfl (lv_at hl 0 rfl) ?_
                  refine lv_iconst (v := 2) hx hb d_M_letter_153 (by decide) ?_
                  refine lv_iadd hx hb d_M_letter_154 ?_
                  obtain ⟨t17, hF⟩ := gd_ex hF
                  obtain ⟨b18, hF⟩ := gd_ex hF
                  refine ga_iald C hw t17 b18 d_M_letter_155 ?_
                  refine lv_goto (tgt := 168) hx hb d_M_letter_156 (by decide) ?_
                  exact m_M_letter_b168 hret C _ _ hF _ _ _ (lv_sub hl [] rfl) hw
                · rw [if_neg h12] at hF
                  refine lv_icmp_ne (tgt := 159) hx hb d_M_letter_145 (by decide) (fun _ => ?_) (fun hp => absurd hp h12)
                  refine lv_aload_n hx hb d_M_letter_159 rfl (lv_at hl 1 rfl) ?_
                  obtain ⟨r13, hr13, hF⟩ := ob_ex hF
                  refine ga_getR C hw gf_M_102 t3 hr13 d_M_letter_160 ?_
                  refine lv_iload_n hx hb d_M_letter_163 rfl (lv_at hl 0 rfl) ?_
                  refine lv_bipush (v := 6) hx hb d_M_letter_164 (by decide) ?_
                  refine lv_iadd hx hb d_M_letter_166 ?_
                  obtain ⟨t14, hF⟩ := gd_ex hF
                  obtain ⟨b15, hF⟩ := gd_ex hF
                  refine ga_iald C hw t14 b15 d_M_letter_167 ?_
                  exact m_M_letter_b168 hret C _ _ hF _ _ _ (lv_sub hl [] rfl) hw
    · rw [if_neg h5] at hF
      refine lv_icmp_le (tgt := 61) hx hb d_M_letter_43 (by decide) (fun hp => absurd hp h5) (fun _ => ?_)
      refine lv_aload_n hx hb d_M_letter_46 rfl (lv_at hl 0 rfl) ?_
      obtain ⟨r34, hr34, hF⟩ := ob_ex hF
      refine ga_getR C hw gf_M_105 t3 hr34 d_M_letter_47 ?_
      refine lv_bipush (v := 64) hx hb d_M_letter_50 (by decide) ?_
      refine lv_iload_n hx hb d_M_letter_52 rfl (lv_at hl 1 rfl) ?_
      refine lv_imul hx hb d_M_letter_53 ?_
      refine lv_iload_n hx hb d_M_letter_54 rfl (lv_at hl 2 rfl) ?_
      refine lv_iadd hx hb d_M_letter_55 ?_
      refine lv_bipush (v := 7) hx hb d_M_letter_56 (by decide) ?_
      refine lv_isub hx hb d_M_letter_58 ?_
      obtain ⟨t35, hF⟩ := gd_ex hF
      obtain ⟨b36, hF⟩ := gd_ex hF
      refine ga_iald C hw t35 b36 d_M_letter_59 ?_
      exact hret _ _ _ _ _ _ (Option.some.inj hF) d_M_letter_60 hw
  · rw [if_neg h4] at hF
    refine lv_if_le (tgt := 40) hx hb d_M_letter_35 (by decide) (fun hp => absurd hp h4) (fun _ => ?_)
    refine lv_iconst (v := 0) hx hb d_M_letter_38 (by decide) ?_
    exact hret _ _ _ _ _ _ (Option.some.inj hF) d_M_letter_39 hw
set_option maxHeartbeats 4000000 in
set_option maxRecDepth 100000 in
theorem m_M_letter_b23 {J : gMJ} {zz : Int32 × gMI} (hret : ∀ (pc : Nat) (ls : Array Slot) (H : Heap) (locs : List Loc) (x : Int32) (I1 : gMI), (x, I1) = zz → decode prog_10_method_35_code pc = .ok (.ireturn, 1) → ga_W D T z L S I1 J s H locs → W p l e rm_M_letter s m args below meth c H locs 0 0 Q (F0 m pc ls [.int x])) (C : CallFix p m c prog_10_method_35_code 4 s args ga_ws "RankHouseModel") : ∀ (I : gMI) (s0 : Nat) (l0 : Nat) (l1 : Int32) (l2 : Int32), f_M_letter_b23 S J I s0 l0 l1 l2 = some zz → ∀ (ls : Array Slot) (H : Heap) (locs : List Loc), lv_has ls 4 [(0, .ref l0), (1, .int l1), (2, .int l2)] → ga_W D T z L S I J s H locs → W p l e rm_M_letter s m args below meth c H locs 0 0 Q (F0 m 23 ls [.ref s0]) := by
  intro I s0 l0 l1 l2 hF ls H locs hl hw
  have hx := C.1
  have hb := C.2.1
  rw [f_M_letter_b23] at hF
  refine lv_iconst (v := 2) hx hb d_M_letter_23 (by decide) ?_
  refine lv_goto (tgt := 28) hx hb d_M_letter_24 (by decide) ?_
  exact m_M_letter_b28 hret C _ _ _ _ _ _ hF _ _ _ hl hw
set_option maxHeartbeats 4000000 in
set_option maxRecDepth 100000 in
theorem c_M_letter (l : Launch) (D : va_G) (T : Nat → ClassId) (z : Nat) (L : List Nat) {S : gS} {I : gMI} {J : gMJ} {p0 : Nat} {p1 : Int32} {p2 : Int32} {r : Int32} {RI : gMI} (hF : f_M_letter S I J p0 p1 p2 = some (r, RI)) : ga_Mi l y_M_letter prog_10_method_35_code 4 (Option.some Jvm.ClassFile.FieldType.int) rm_M_letter [.ref p0, .int p1, .int p2] D T z L S I J r RI J := by
  refine Met.ofW (cc := prog_10_method_35_code) (maxL := 4) (ret := (Option.some Jvm.ClassFile.FieldType.int)) (by decide) rfl ?_
  intro p e s m args below meth c s₁ B hml hv
  obtain ⟨ha, hv⟩ := hv
  have hx := B.exec
  have hb := B.bytes
  have hr := B.returns
  have hts := atoms_spec (ws := .code y_M_letter prog_10_method_35_code 4 (Option.some Jvm.ClassFile.FieldType.int) :: ga_ws) B.pre
  have hown : s.vm.findClass "RankHouseModel" = some m.cls := findClass_of_methodNamed B.named
  have hlocks := B.notSynchronized
  have C : CallFix p m c prog_10_method_35_code 4 s args ga_ws "RankHouseModel" := ⟨hx, hb, hml, hown, fun w h => hts w (List.mem_cons_of_mem _ h)⟩
  have hw := ga_start hv
  have hl := lv_entry ([.ref p0, .int p1, .int p2]) (n := 4) (Nat.le_of_ble_eq_true rfl)
  rw [show entryFrame m args 4 = entryFrame m ([.ref p0, .int p1, .int p2] : List Value).toArray 4 by rw [ha], lg_entry_eq]
  generalize (lg_sl ([.ref p0, .int p1, .int p2]) ++ List.replicate (4 - (lg_sl ([.ref p0, .int p1, .int p2])).length) Slot.unset).toArray = ls at hl ⊢
  have hl : lv_has ls 4 [(0, .ref p0), (1, .int p1), (2, .int p2)] := hl
  have key : ∀ Q : State → Prop, (∀ (pc : Nat) (ls : Array Slot) (H : Heap) (locs : List Loc) (x : Int32) (I1 : gMI), (x, I1) = (r, RI) → decode prog_10_method_35_code pc = .ok (.ireturn, 1) → ga_W D T z L S I1 J s H locs → W p l e rm_M_letter s m args below meth c H locs 0 0 Q (F0 m pc ls [.int x])) → W p l e rm_M_letter s m args below meth c s.heap [] 0 0 Q (F0 m 0 ls []) := by
    intro Q hret
    rw [f_M_letter] at hF
    refine lv_aload_n hx hb d_M_letter_0 rfl (lv_at hl 0 rfl) ?_
    refine lv_aload_n hx hb d_M_letter_1 rfl (lv_at hl 0 rfl) ?_
    refine lv_iload_n hx hb d_M_letter_2 rfl (lv_at hl 1 rfl) ?_
    obtain ⟨t1, hF⟩ := gd_ex hF
    obtain ⟨x2, c3, hF⟩ := ob_ex hF
    refine ga_cVi (As := [.int p1]) C hw (c_M_isLetter l D T z L c3) gy_M_227 t1 rfl hl.1 ⟨Nat.le_of_ble_eq_true rfl, Nat.le_of_ble_eq_true rfl, rfl, rfl, Nat.le_of_ble_eq_true rfl, Nat.le_of_ble_eq_true rfl⟩ (Nat.le_of_ble_eq_true rfl) rfl d_M_letter_3 (fun H locs hw => ?_)
    by_cases h4 : x2 = 0
    · rw [if_pos h4] at hF
      refine lv_if_ne (tgt := 13) hx hb d_M_letter_6 (by decide) (fun hn => absurd h4 hn) (fun _ => ?_)
      refine lv_iconst (v := 1) hx hb d_M_letter_9 (by decide) ?_
      refine lv_goto (tgt := 28) hx hb d_M_letter_10 (by decide) ?_
      exact m_M_letter_b28 hret C _ _ _ _ _ _ hF _ _ _ hl hw
    · rw [if_neg h4] at hF
      refine lv_if_ne (tgt := 13) hx hb d_M_letter_6 (by decide) (fun _ => ?_) (fun hp => absurd hp h4)
      refine lv_iload_n hx hb d_M_letter_13 rfl (lv_at hl 2 rfl) ?_
      by_cases h5 : p2 < 0
      · rw [if_pos h5] at hF
        refine lv_if_lt (tgt := 23) hx hb d_M_letter_14 (by decide) (fun _ => ?_) (fun hn => absurd h5 hn)
        exact m_M_letter_b23 hret C _ _ _ _ _ hF _ _ _ hl hw
      · rw [if_neg h5] at hF
        refine lv_if_lt (tgt := 23) hx hb d_M_letter_14 (by decide) (fun hp => absurd hp h5) (fun _ => ?_)
        refine lv_iload_n hx hb d_M_letter_17 rfl (lv_at hl 2 rfl) ?_
        refine lv_bipush (v := 70) hx hb d_M_letter_18 (by decide) ?_
        by_cases h6 : p2 ≤ (70 : Int32)
        · rw [if_pos h6] at hF
          refine lv_icmp_le (tgt := 27) hx hb d_M_letter_20 (by decide) (fun _ => ?_) (fun hn => absurd h6 hn)
          refine lv_iconst (v := 0) hx hb d_M_letter_27 (by decide) ?_
          exact m_M_letter_b28 hret C _ _ _ _ _ _ hF _ _ _ hl hw
        · rw [if_neg h6] at hF
          refine lv_icmp_le (tgt := 27) hx hb d_M_letter_20 (by decide) (fun hp => absurd hp h6) (fun _ => ?_)
          exact m_M_letter_b23 hret C _ _ _ _ _ hF _ _ _ hl hw
  refine key _ (fun pc ls H locs x I1 he hd hw => ?_)
  · cases he
    exact W.iret hx hb hr (fun t ht _ => ⟨⟨_, (), rfl, rfl, ga_o hw ht⟩, hw.2.2.2.1.F ht⟩) hw.2.2.2.1.2.2 hd
set_option maxHeartbeats 4000000 in
set_option maxRecDepth 100000 in
theorem m_M_deliver_b44 {zz : Int32 × gMI × gMJ} (hret : ∀ (pc : Nat) (ls : Array Slot) (H : Heap) (locs : List Loc) (x : Int32) (I1 : gMI) (J1 : gMJ), (x, I1, J1) = zz → decode prog_10_method_36_code pc = .ok (.ireturn, 1) → ga_W D T z L S I1 J1 s H locs → W p l e rm_M_deliver s m args below meth c H locs 0 0 Q (F0 m pc ls [.int x])) (C : CallFix p m c prog_10_method_36_code 2 s args ga_ws "RankHouseModel") : ∀ (I : gMI) (J : gMJ) (s0 : Int32), f_M_deliver_b44 S I J s0 = some zz → ∀ (ls : Array Slot) (H : Heap) (locs : List Loc), lv_has ls 2 [] → ga_W D T z L S I J s H locs → W p l e rm_M_deliver s m args below meth c H locs 0 0 Q (F0 m 44 ls [.int s0]) := by
  intro I J s0 hF ls H locs hl hw
  have hx := C.1
  have hb := C.2.1
  rw [f_M_deliver_b44] at hF
  exact hret _ _ _ _ _ _ _ (Option.some.inj hF) d_M_deliver_44 hw
set_option maxHeartbeats 4000000 in
set_option maxRecDepth 100000 in
theorem m_M_deliver_b29 {zz : Int32 × gMI × gMJ} (hret : ∀ (pc : Nat) (ls : Array Slot) (H : Heap) (locs : List Loc) (x : Int32) (I1 : gMI) (J1 : gMJ), (x, I1, J1) = zz → decode prog_10_method_36_code pc = .ok (.ireturn, 1) → ga_W D T z L S I1 J1 s H locs → W p l e rm_M_deliver s m args below meth c H locs 0 0 Q (F0 m pc ls [.int x])) (C : CallFix p m c prog_10_method_36_code 2 s args ga_ws "RankHouseModel") : ∀ (I : gMI) (J : gMJ) (l0 : Nat), f_M_deliver_b29 S I J l0 = some zz → ∀ (ls : Array Slot) (H : Heap) (locs : List Loc), lv_has ls 2 [(0, .ref l0)] → ga_W D T z L S I J s H locs → W p l e rm_M_deliver s m args below meth c H locs 0 0 Q (F0 m 29 ls []) := by
  intro I J l0 hF ls H locs hl hw
  have hx := C.1
  have hb := C.2.1
  rw [f_M_deliver_b29] at hF
  refine lv_aload_n hx hb d_M_deliver_29 rfl (lv_at hl 0 rfl) ?_
  obtain ⟨t1, hF⟩ := gd_ex hF
  refine ga_getI C hw gf_M_114 t1 d_M_deliver_30 ?_
  by_cases h2 : (I l0 0) ≤ 0
  · rw [if_pos h2] at hF
    refine lv_if_le (tgt := 40) hx hb d_M_deliver_33 (by decide) (fun _ => ?_) (fun hn => absurd h2 hn)
    refine lv_aload_n hx hb d_M_deliver_40 rfl (lv_at hl 0 rfl) ?_
    refine ga_getI C hw gf_M_127 t1 d_M_deliver_41 ?_
    exact m_M_deliver_b44 hret C _ _ _ hF _ _ _ (lv_sub hl [] rfl) hw
  · rw [if_neg h2] at hF
    refine lv_if_le (tgt := 40) hx hb d_M_deliver_33 (by decide) (fun hp => absurd hp h2) (fun _ => ?_)
    refine lv_iconst (v := 0) hx hb d_M_deliver_36 (by decide) ?_
    refine lv_goto (tgt := 44) hx hb d_M_deliver_37 (by decide) ?_
    exact m_M_deliver_b44 hret C _ _ _ hF _ _ _ (lv_sub hl [] rfl) hw
set_option maxHeartbeats 4000000 in
set_option maxRecDepth 100000 in
theorem m_M_deliver_b14 {zz : Int32 × gMI × gMJ} (hret : ∀ (pc : Nat) (ls : Array Slot) (H : Heap) (locs : List Loc) (x : Int32) (I1 : gMI) (J1 : gMJ), (x, I1, J1) = zz → decode prog_10_method_36_code pc = .ok (.ireturn, 1) → ga_W D T z L S I1 J1 s H locs → W p l e rm_M_deliver s m args below meth c H locs 0 0 Q (F0 m pc ls [.int x])) (C : CallFix p m c prog_10_method_36_code 2 s args ga_ws "RankHouseModel") : ∀ (I : gMI) (J : gMJ) (s0 : Int32) (s1 : Nat) (l0 : Nat) (l1 : Int32), f_M_deliver_b14 S I J s0 s1 l0 l1 = some zz → ∀ (ls : Array Slot) (H : Heap) (locs : List Loc), lv_has ls 2 [(0, .ref l0), (1, .int l1)] → ga_W D T z L S I J s H locs → W p l e rm_M_deliver s m args below meth c H locs 0 0 Q (F0 m 14 ls [.int s0, .ref s1]) := by
  intro I J s0 s1 l0 l1 hF ls H locs hl hw
  have hx := C.1
  have hb := C.2.1
  rw [f_M_deliver_b14] at hF
  obtain ⟨t1, hF⟩ := gd_ex hF
  obtain ⟨I2, eI2, hF⟩ := bnd_ex hF
  refine ga_putI C hw gp_M_114 t1 rfl rfl eI2 d_M_deliver_14 (fun H locs hw => ?_)
  refine lv_aload_n hx hb d_M_deliver_17 rfl (lv_at hl 0 rfl) ?_
  obtain ⟨t3, hF⟩ := gd_ex hF
  refine ga_getI C hw gf_M_114 t3 d_M_deliver_18 ?_
  by_cases h4 : (I2 l0 0) = 0
  · rw [if_pos h4] at hF
    refine lv_if_ne (tgt := 29) hx hb d_M_deliver_21 (by decide) (fun hn => absurd h4 hn) (fun _ => ?_)
    refine lv_aload_n hx hb d_M_deliver_24 rfl (lv_at hl 0 rfl) ?_
    refine lv_iload_n hx hb d_M_deliver_25 rfl (lv_at hl 1 rfl) ?_
    obtain ⟨I5, J6, c7, hF⟩ := bd2_ex hF
    refine ga_cVv (As := [.int l1]) C hw (c_M_bring l D T z L c7) gy_M_230 t3 rfl hl.1 ⟨Nat.le_of_ble_eq_true rfl, Nat.le_of_ble_eq_true rfl, rfl, rfl, Nat.le_of_ble_eq_true rfl, Nat.le_of_ble_eq_true rfl⟩ (Nat.le_of_ble_eq_true rfl) rfl d_M_deliver_26 (fun H locs hw => ?_)
    exact m_M_deliver_b29 hret C _ _ _ hF _ _ _ (lv_sub hl [0] rfl) hw
  · rw [if_neg h4] at hF
    refine lv_if_ne (tgt := 29) hx hb d_M_deliver_21 (by decide) (fun _ => ?_) (fun hp => absurd hp h4)
    exact m_M_deliver_b29 hret C _ _ _ hF _ _ _ (lv_sub hl [0] rfl) hw
set_option maxHeartbeats 4000000 in
set_option maxRecDepth 100000 in
theorem c_M_deliver (l : Launch) (D : va_G) (T : Nat → ClassId) (z : Nat) (L : List Nat) {S : gS} {I : gMI} {J : gMJ} {p0 : Nat} {p1 : Int32} {r : Int32} {RI : gMI} {RJ : gMJ} (hF : f_M_deliver S I J p0 p1 = some (r, RI, RJ)) : ga_Mi l y_M_deliver prog_10_method_36_code 2 (Option.some Jvm.ClassFile.FieldType.int) rm_M_deliver [.ref p0, .int p1] D T z L S I J r RI RJ := by
  refine Met.ofW (cc := prog_10_method_36_code) (maxL := 2) (ret := (Option.some Jvm.ClassFile.FieldType.int)) (by decide) rfl ?_
  intro p e s m args below meth c s₁ B hml hv
  obtain ⟨ha, hv⟩ := hv
  have hx := B.exec
  have hb := B.bytes
  have hr := B.returns
  have hts := atoms_spec (ws := .code y_M_deliver prog_10_method_36_code 2 (Option.some Jvm.ClassFile.FieldType.int) :: ga_ws) B.pre
  have hown : s.vm.findClass "RankHouseModel" = some m.cls := findClass_of_methodNamed B.named
  have hlocks := B.notSynchronized
  have C : CallFix p m c prog_10_method_36_code 2 s args ga_ws "RankHouseModel" := ⟨hx, hb, hml, hown, fun w h => hts w (List.mem_cons_of_mem _ h)⟩
  have hw := ga_start hv
  have hl := lv_entry ([.ref p0, .int p1]) (n := 2) (Nat.le_of_ble_eq_true rfl)
  rw [show entryFrame m args 2 = entryFrame m ([.ref p0, .int p1] : List Value).toArray 2 by rw [ha], lg_entry_eq]
  generalize (lg_sl ([.ref p0, .int p1]) ++ List.replicate (2 - (lg_sl ([.ref p0, .int p1])).length) Slot.unset).toArray = ls at hl ⊢
  have hl : lv_has ls 2 [(0, .ref p0), (1, .int p1)] := hl
  have key : ∀ Q : State → Prop, (∀ (pc : Nat) (ls : Array Slot) (H : Heap) (locs : List Loc) (x : Int32) (I1 : gMI) (J1 : gMJ), (x, I1, J1) = (r, RI, RJ) → decode prog_10_method_36_code pc = .ok (.ireturn, 1) → ga_W D T z L S I1 J1 s H locs → W p l e rm_M_deliver s m args below meth c H locs 0 0 Q (F0 m pc ls [.int x])) → W p l e rm_M_deliver s m args below meth c s.heap [] 0 0 Q (F0 m 0 ls []) := by
    intro Q hret
    rw [f_M_deliver] at hF
    refine lv_aload_n hx hb d_M_deliver_0 rfl (lv_at hl 0 rfl) ?_
    refine lv_aload_n hx hb d_M_deliver_1 rfl (lv_at hl 0 rfl) ?_
    refine lv_iload_n hx hb d_M_deliver_2 rfl (lv_at hl 1 rfl) ?_
    obtain ⟨t1, hF⟩ := gd_ex hF
    obtain ⟨x2, c3, hF⟩ := ob_ex hF
    refine ga_cVi (As := [.int p1]) C hw (c_M_isLetter l D T z L c3) gy_M_227 t1 rfl hl.1 ⟨Nat.le_of_ble_eq_true rfl, Nat.le_of_ble_eq_true rfl, rfl, rfl, Nat.le_of_ble_eq_true rfl, Nat.le_of_ble_eq_true rfl⟩ (Nat.le_of_ble_eq_true rfl) rfl d_M_deliver_3 (fun H locs hw => ?_)
    by_cases h4 : x2 = 0
    · rw [if_pos h4] at hF
      refine lv_if_eq (tgt := 13) hx hb d_M_deliver_6 (by decide) (fun _ => ?_) (fun hn => absurd h4 hn)
      refine lv_iconst (v := 1) hx hb d_M_deliver_13 (by decide) ?_
      exact m_M_deliver_b14 hret C _ _ _ _ _ _ hF _ _ _ hl hw
    · rw [if_neg h4] at hF
      refine lv_if_eq (tgt := 13) hx hb d_M_deliver_6 (by decide) (fun hp => absurd hp h4) (fun _ => ?_)
      refine lv_iconst (v := 0) hx hb d_M_deliver_9 (by decide) ?_
      refine lv_goto (tgt := 14) hx hb d_M_deliver_10 (by decide) ?_
      exact m_M_deliver_b14 hret C _ _ _ _ _ _ hF _ _ _ hl hw
  refine key _ (fun pc ls H locs x I1 J1 he hd hw => ?_)
  · cases he
    exact W.iret hx hb hr (fun t ht _ => ⟨⟨_, (), rfl, rfl, ga_o hw ht⟩, hw.2.2.2.1.F ht⟩) hw.2.2.2.1.2.2 hd
set_option maxHeartbeats 4000000 in
set_option maxRecDepth 100000 in
theorem m_M_lose_b44 {zz : Int32 × gMI × gMJ} (hret : ∀ (pc : Nat) (ls : Array Slot) (H : Heap) (locs : List Loc) (x : Int32) (I1 : gMI) (J1 : gMJ), (x, I1, J1) = zz → decode prog_10_method_37_code pc = .ok (.ireturn, 1) → ga_W D T z L S I1 J1 s H locs → W p l e rm_M_lose s m args below meth c H locs 0 0 Q (F0 m pc ls [.int x])) (C : CallFix p m c prog_10_method_37_code 2 s args ga_ws "RankHouseModel") : ∀ (I : gMI) (J : gMJ) (s0 : Int32), f_M_lose_b44 S I J s0 = some zz → ∀ (ls : Array Slot) (H : Heap) (locs : List Loc), lv_has ls 2 [] → ga_W D T z L S I J s H locs → W p l e rm_M_lose s m args below meth c H locs 0 0 Q (F0 m 44 ls [.int s0]) := by
  intro I J s0 hF ls H locs hl hw
  have hx := C.1
  have hb := C.2.1
  rw [f_M_lose_b44] at hF
  exact hret _ _ _ _ _ _ _ (Option.some.inj hF) d_M_lose_44 hw
set_option maxHeartbeats 4000000 in
set_option maxRecDepth 100000 in
theorem m_M_lose_b29 {zz : Int32 × gMI × gMJ} (hret : ∀ (pc : Nat) (ls : Array Slot) (H : Heap) (locs : List Loc) (x : Int32) (I1 : gMI) (J1 : gMJ), (x, I1, J1) = zz → decode prog_10_method_37_code pc = .ok (.ireturn, 1) → ga_W D T z L S I1 J1 s H locs → W p l e rm_M_lose s m args below meth c H locs 0 0 Q (F0 m pc ls [.int x])) (C : CallFix p m c prog_10_method_37_code 2 s args ga_ws "RankHouseModel") : ∀ (I : gMI) (J : gMJ) (l0 : Nat), f_M_lose_b29 S I J l0 = some zz → ∀ (ls : Array Slot) (H : Heap) (locs : List Loc), lv_has ls 2 [(0, .ref l0)] → ga_W D T z L S I J s H locs → W p l e rm_M_lose s m args below meth c H locs 0 0 Q (F0 m 29 ls []) := by
  intro I J l0 hF ls H locs hl hw
  have hx := C.1
  have hb := C.2.1
  rw [f_M_lose_b29] at hF
  refine lv_aload_n hx hb d_M_lose_29 rfl (lv_at hl 0 rfl) ?_
  obtain ⟨t1, hF⟩ := gd_ex hF
  refine ga_getI C hw gf_M_114 t1 d_M_lose_30 ?_
  by_cases h2 : (I l0 0) ≤ 0
  · rw [if_pos h2] at hF
    refine lv_if_le (tgt := 40) hx hb d_M_lose_33 (by decide) (fun _ => ?_) (fun hn => absurd h2 hn)
    refine lv_aload_n hx hb d_M_lose_40 rfl (lv_at hl 0 rfl) ?_
    refine ga_getI C hw gf_M_127 t1 d_M_lose_41 ?_
    exact m_M_lose_b44 hret C _ _ _ hF _ _ _ (lv_sub hl [] rfl) hw
  · rw [if_neg h2] at hF
    refine lv_if_le (tgt := 40) hx hb d_M_lose_33 (by decide) (fun hp => absurd hp h2) (fun _ => ?_)
    refine lv_iconst (v := 0) hx hb d_M_lose_36 (by decide) ?_
    refine lv_goto (tgt := 44) hx hb d_M_lose_37 (by decide) ?_
    exact m_M_lose_b44 hret C _ _ _ hF _ _ _ (lv_sub hl [] rfl) hw
set_option maxHeartbeats 4000000 in
set_option maxRecDepth 100000 in
theorem m_M_lose_b14 {zz : Int32 × gMI × gMJ} (hret : ∀ (pc : Nat) (ls : Array Slot) (H : Heap) (locs : List Loc) (x : Int32) (I1 : gMI) (J1 : gMJ), (x, I1, J1) = zz → decode prog_10_method_37_code pc = .ok (.ireturn, 1) → ga_W D T z L S I1 J1 s H locs → W p l e rm_M_lose s m args below meth c H locs 0 0 Q (F0 m pc ls [.int x])) (C : CallFix p m c prog_10_method_37_code 2 s args ga_ws "RankHouseModel") : ∀ (I : gMI) (J : gMJ) (s0 : Int32) (s1 : Nat) (l0 : Nat) (l1 : Int32), f_M_lose_b14 S I J s0 s1 l0 l1 = some zz → ∀ (ls : Array Slot) (H : Heap) (locs : List Loc), lv_has ls 2 [(0, .ref l0), (1, .int l1)] → ga_W D T z L S I J s H locs → W p l e rm_M_lose s m args below meth c H locs 0 0 Q (F0 m 14 ls [.int s0, .ref s1]) := by
  intro I J s0 s1 l0 l1 hF ls H locs hl hw
  have hx := C.1
  have hb := C.2.1
  rw [f_M_lose_b14] at hF
  obtain ⟨t1, hF⟩ := gd_ex hF
  obtain ⟨I2, eI2, hF⟩ := bnd_ex hF
  refine ga_putI C hw gp_M_114 t1 rfl rfl eI2 d_M_lose_14 (fun H locs hw => ?_)
  refine lv_aload_n hx hb d_M_lose_17 rfl (lv_at hl 0 rfl) ?_
  obtain ⟨t3, hF⟩ := gd_ex hF
  refine ga_getI C hw gf_M_114 t3 d_M_lose_18 ?_
  by_cases h4 : (I2 l0 0) = 0
  · rw [if_pos h4] at hF
    refine lv_if_ne (tgt := 29) hx hb d_M_lose_21 (by decide) (fun hn => absurd h4 hn) (fun _ => ?_)
    refine lv_aload_n hx hb d_M_lose_24 rfl (lv_at hl 0 rfl) ?_
    refine lv_iload_n hx hb d_M_lose_25 rfl (lv_at hl 1 rfl) ?_
    obtain ⟨I5, J6, c7, hF⟩ := bd2_ex hF
    refine ga_cVv (As := [.int l1]) C hw (c_M_remove l D T z L c7) gy_M_214 t3 rfl hl.1 ⟨Nat.le_of_ble_eq_true rfl, Nat.le_of_ble_eq_true rfl, rfl, rfl, Nat.le_of_ble_eq_true rfl, Nat.le_of_ble_eq_true rfl⟩ (Nat.le_of_ble_eq_true rfl) rfl d_M_lose_26 (fun H locs hw => ?_)
    exact m_M_lose_b29 hret C _ _ _ hF _ _ _ (lv_sub hl [0] rfl) hw
  · rw [if_neg h4] at hF
    refine lv_if_ne (tgt := 29) hx hb d_M_lose_21 (by decide) (fun _ => ?_) (fun hp => absurd hp h4)
    exact m_M_lose_b29 hret C _ _ _ hF _ _ _ (lv_sub hl [0] rfl) hw
set_option maxHeartbeats 4000000 in
set_option maxRecDepth 100000 in
theorem c_M_lose (l : Launch) (D : va_G) (T : Nat → ClassId) (z : Nat) (L : List Nat) {S : gS} {I : gMI} {J : gMJ} {p0 : Nat} {p1 : Int32} {r : Int32} {RI : gMI} {RJ : gMJ} (hF : f_M_lose S I J p0 p1 = some (r, RI, RJ)) : ga_Mi l y_M_lose prog_10_method_37_code 2 (Option.some Jvm.ClassFile.FieldType.int) rm_M_lose [.ref p0, .int p1] D T z L S I J r RI RJ := by
  refine Met.ofW (cc := prog_10_method_37_code) (maxL := 2) (ret := (Option.some Jvm.ClassFile.FieldType.int)) (by decide) rfl ?_
  intro p e s m args below meth c s₁ B hml hv
  obtain ⟨ha, hv⟩ := hv
  have hx := B.exec
  have hb := B.bytes
  have hr := B.returns
  have hts := atoms_spec (ws := .code y_M_lose prog_10_method_37_code 2 (Option.some Jvm.ClassFile.FieldType.int) :: ga_ws) B.pre
  have hown : s.vm.findClass "RankHouseModel" = some m.cls := findClass_of_methodNamed B.named
  have hlocks := B.notSynchronized
  have C : CallFix p m c prog_10_method_37_code 2 s args ga_ws "RankHouseModel" := ⟨hx, hb, hml, hown, fun w h => hts w (List.mem_cons_of_mem _ h)⟩
  have hw := ga_start hv
  have hl := lv_entry ([.ref p0, .int p1]) (n := 2) (Nat.le_of_ble_eq_true rfl)
  rw [show entryFrame m args 2 = entryFrame m ([.ref p0, .int p1] : List Value).toArray 2 by rw [ha], lg_entry_eq]
  generalize (lg_sl ([.ref p0, .int p1]) ++ List.replicate (2 - (lg_sl ([.ref p0, .int p1])).length) Slot.unset).toArray = ls at hl ⊢
  have hl : lv_has ls 2 [(0, .ref p0), (1, .int p1)] := hl
  have key : ∀ Q : State → Prop, (∀ (pc : Nat) (ls : Array Slot) (H : Heap) (locs : List Loc) (x : Int32) (I1 : gMI) (J1 : gMJ), (x, I1, J1) = (r, RI, RJ) → decode prog_10_method_37_code pc = .ok (.ireturn, 1) → ga_W D T z L S I1 J1 s H locs → W p l e rm_M_lose s m args below meth c H locs 0 0 Q (F0 m pc ls [.int x])) → W p l e rm_M_lose s m args below meth c s.heap [] 0 0 Q (F0 m 0 ls []) := by
    intro Q hret
    rw [f_M_lose] at hF
    refine lv_aload_n hx hb d_M_lose_0 rfl (lv_at hl 0 rfl) ?_
    refine lv_aload_n hx hb d_M_lose_1 rfl (lv_at hl 0 rfl) ?_
    refine lv_iload_n hx hb d_M_lose_2 rfl (lv_at hl 1 rfl) ?_
    obtain ⟨t1, hF⟩ := gd_ex hF
    obtain ⟨x2, c3, hF⟩ := ob_ex hF
    refine ga_cVi (As := [.int p1]) C hw (c_M_isLetter l D T z L c3) gy_M_227 t1 rfl hl.1 ⟨Nat.le_of_ble_eq_true rfl, Nat.le_of_ble_eq_true rfl, rfl, rfl, Nat.le_of_ble_eq_true rfl, Nat.le_of_ble_eq_true rfl⟩ (Nat.le_of_ble_eq_true rfl) rfl d_M_lose_3 (fun H locs hw => ?_)
    by_cases h4 : x2 = 0
    · rw [if_pos h4] at hF
      refine lv_if_eq (tgt := 13) hx hb d_M_lose_6 (by decide) (fun _ => ?_) (fun hn => absurd h4 hn)
      refine lv_iconst (v := 1) hx hb d_M_lose_13 (by decide) ?_
      exact m_M_lose_b14 hret C _ _ _ _ _ _ hF _ _ _ hl hw
    · rw [if_neg h4] at hF
      refine lv_if_eq (tgt := 13) hx hb d_M_lose_6 (by decide) (fun hp => absurd hp h4) (fun _ => ?_)
      refine lv_iconst (v := 0) hx hb d_M_lose_9 (by decide) ?_
      refine lv_goto (tgt := 14) hx hb d_M_lose_10 (by decide) ?_
      exact m_M_lose_b14 hret C _ _ _ _ _ _ hF _ _ _ hl hw
  refine key _ (fun pc ls H locs x I1 J1 he hd hw => ?_)
  · cases he
    exact W.iret hx hb hr (fun t ht _ => ⟨⟨_, (), rfl, rfl, ga_o hw ht⟩, hw.2.2.2.1.F ht⟩) hw.2.2.2.1.2.2 hd
set_option maxHeartbeats 4000000 in
set_option maxRecDepth 100000 in
theorem m_M_twin_b33 {zz : Int32 × gMI × gMJ} (hret : ∀ (pc : Nat) (ls : Array Slot) (H : Heap) (locs : List Loc) (x : Int32) (I1 : gMI) (J1 : gMJ), (x, I1, J1) = zz → decode prog_10_method_38_code pc = .ok (.ireturn, 1) → (x = 0 ∨ x = 1) → ga_W D T z L S I1 J1 s H locs → W p l e rm_M_twin s m args below meth c H locs 0 0 Q (F0 m pc ls [.int x])) (C : CallFix p m c prog_10_method_38_code 3 s args ga_ws "RankHouseModel") : ∀ (I : gMI) (J : gMJ), f_M_twin_b33 S I J = some zz → ∀ (ls : Array Slot) (H : Heap) (locs : List Loc), lv_has ls 3 [] → ga_W D T z L S I J s H locs → W p l e rm_M_twin s m args below meth c H locs 0 0 Q (F0 m 33 ls []) := by
  intro I J hF ls H locs hl hw
  have hx := C.1
  have hb := C.2.1
  rw [f_M_twin_b33] at hF
  refine lv_iconst (v := 0) hx hb d_M_twin_33 (by decide) ?_
  exact hret _ _ _ _ _ _ _ (Option.some.inj hF) d_M_twin_34 (Or.inl rfl) hw
set_option maxHeartbeats 4000000 in
set_option maxRecDepth 100000 in
theorem m_M_twin_b76 {zz : Int32 × gMI × gMJ} (hret : ∀ (pc : Nat) (ls : Array Slot) (H : Heap) (locs : List Loc) (x : Int32) (I1 : gMI) (J1 : gMJ), (x, I1, J1) = zz → decode prog_10_method_38_code pc = .ok (.ireturn, 1) → (x = 0 ∨ x = 1) → ga_W D T z L S I1 J1 s H locs → W p l e rm_M_twin s m args below meth c H locs 0 0 Q (F0 m pc ls [.int x])) (C : CallFix p m c prog_10_method_38_code 3 s args ga_ws "RankHouseModel") : ∀ (n : Nat) (I : gMI) (J : gMJ) (l0 : Nat) (l1 : Int32) (l2 : Int32), f_M_twin_b76 S n I J l0 l1 l2 = some zz → ∀ (ls : Array Slot) (H : Heap) (locs : List Loc), lv_has ls 3 [(0, .ref l0), (1, .int l1), (2, .int l2)] → ga_W D T z L S I J s H locs → W p l e rm_M_twin s m args below meth c H locs 0 0 Q (F0 m 76 ls []) := by
  intro n
  induction n with
  | zero =>
    intro I J l0 l1 l2 hF ls H locs hl hw
    rw [f_M_twin_b76] at hF
    cases hF
  | succ n ih =>
    intro I J l0 l1 l2 hF ls H locs hl hw
    have hx := C.1
    have hb := C.2.1
    rw [f_M_twin_b76] at hF
    refine lv_iload_n hx hb d_M_twin_76 rfl (lv_at hl 2 rfl) ?_
    refine lv_bipush (v := 64) hx hb d_M_twin_77 (by decide) ?_
    by_cases h1 : (64 : Int32) ≤ l2
    · rw [if_pos h1] at hF
      refine lv_icmp_ge (tgt := 113) hx hb d_M_twin_79 (by decide) (fun _ => ?_) (fun hn => absurd h1 hn)
      refine lv_aload_n hx hb d_M_twin_113 rfl (lv_at hl 0 rfl) ?_
      obtain ⟨t2, hF⟩ := gd_ex hF
      obtain ⟨r3, hr3, hF⟩ := ob_ex hF
      refine ga_getR C hw gf_M_108 t2 hr3 d_M_twin_114 ?_
      refine lv_aload_n hx hb d_M_twin_117 rfl (lv_at hl 0 rfl) ?_
      refine ga_getI C hw gf_M_127 t2 d_M_twin_118 ?_
      refine lv_aload_n hx hb d_M_twin_121 rfl (lv_at hl 0 rfl) ?_
      refine ga_getR C hw gf_M_108 t2 hr3 d_M_twin_122 ?_
      refine lv_iload_n hx hb d_M_twin_125 rfl (lv_at hl 1 rfl) ?_
      obtain ⟨t4, hF⟩ := gd_ex hF
      obtain ⟨b5, hF⟩ := gd_ex hF
      refine ga_lald C hw t4 b5 d_M_twin_126 ?_
      obtain ⟨b6, hF⟩ := gd_ex hF
      obtain ⟨J7, eJ7, hF⟩ := bnd_ex hF
      refine ga_last C hw t4 b6 eJ7 d_M_twin_127 (fun H locs hw => ?_)
      refine lv_aload_n hx hb d_M_twin_128 rfl (lv_at hl 0 rfl) ?_
      refine lv_dup hx hb d_M_twin_129 rfl ?_
      refine ga_getI C hw gf_M_127 t2 d_M_twin_130 ?_
      refine lv_iconst (v := 1) hx hb d_M_twin_133 (by decide) ?_
      refine lv_iadd hx hb d_M_twin_134 ?_
      obtain ⟨I8, eI8, hF⟩ := bnd_ex hF
      refine ga_putI C hw gp_M_127 t2 rfl rfl eI8 d_M_twin_135 (fun H locs hw => ?_)
      refine lv_iconst (v := 1) hx hb d_M_twin_138 (by decide) ?_
      exact hret _ _ _ _ _ _ _ (Option.some.inj hF) d_M_twin_139 (Or.inr rfl) hw
    · rw [if_neg h1] at hF
      refine lv_icmp_ge (tgt := 113) hx hb d_M_twin_79 (by decide) (fun hp => absurd hp h1) (fun _ => ?_)
      refine lv_aload_n hx hb d_M_twin_82 rfl (lv_at hl 0 rfl) ?_
      obtain ⟨t9, hF⟩ := gd_ex hF
      obtain ⟨r10, hr10, hF⟩ := ob_ex hF
      refine ga_getR C hw gf_M_105 t9 hr10 d_M_twin_83 ?_
      refine lv_bipush (v := 64) hx hb d_M_twin_86 (by decide) ?_
      refine lv_aload_n hx hb d_M_twin_88 rfl (lv_at hl 0 rfl) ?_
      refine ga_getI C hw gf_M_127 t9 d_M_twin_89 ?_
      refine lv_imul hx hb d_M_twin_92 ?_
      refine lv_iload_n hx hb d_M_twin_93 rfl (lv_at hl 2 rfl) ?_
      refine lv_iadd hx hb d_M_twin_94 ?_
      refine lv_aload_n hx hb d_M_twin_95 rfl (lv_at hl 0 rfl) ?_
      refine ga_getR C hw gf_M_105 t9 hr10 d_M_twin_96 ?_
      refine lv_bipush (v := 64) hx hb d_M_twin_99 (by decide) ?_
      refine lv_iload_n hx hb d_M_twin_101 rfl (lv_at hl 1 rfl) ?_
      refine lv_imul hx hb d_M_twin_102 ?_
      refine lv_iload_n hx hb d_M_twin_103 rfl (lv_at hl 2 rfl) ?_
      refine lv_iadd hx hb d_M_twin_104 ?_
      obtain ⟨t11, hF⟩ := gd_ex hF
      obtain ⟨b12, hF⟩ := gd_ex hF
      refine ga_iald C hw t11 b12 d_M_twin_105 ?_
      obtain ⟨b13, hF⟩ := gd_ex hF
      obtain ⟨I14, eI14, hF⟩ := bnd_ex hF
      refine ga_iast C hw t11 b13 eI14 d_M_twin_106 (fun H locs hw => ?_)
      obtain ⟨v15, ev15, hF⟩ := bnd_ex hF
      refine lv_iinc (k := 2) (v := v15) hx hb d_M_twin_107 hl rfl (by rw [ev15]; rfl) (by decide) rfl (fun ls hl => ?_)
      have hl : lv_has ls 3 [(2, .int v15), (0, .ref l0), (1, .int l1)] := hl
      refine lv_goto (tgt := 76) hx hb d_M_twin_110 (by decide) ?_
      exact ih _ _ _ _ _ hF _ _ _ (lv_sub hl [1, 2, 0] rfl) hw
set_option maxHeartbeats 4000000 in
set_option maxRecDepth 100000 in
theorem m_M_twin_b37 {zz : Int32 × gMI × gMJ} (hret : ∀ (pc : Nat) (ls : Array Slot) (H : Heap) (locs : List Loc) (x : Int32) (I1 : gMI) (J1 : gMJ), (x, I1, J1) = zz → decode prog_10_method_38_code pc = .ok (.ireturn, 1) → (x = 0 ∨ x = 1) → ga_W D T z L S I1 J1 s H locs → W p l e rm_M_twin s m args below meth c H locs 0 0 Q (F0 m pc ls [.int x])) (C : CallFix p m c prog_10_method_38_code 3 s args ga_ws "RankHouseModel") : ∀ (n : Nat) (I : gMI) (J : gMJ) (l0 : Nat) (l1 : Int32) (l2 : Int32), f_M_twin_b37 S n I J l0 l1 l2 = some zz → ∀ (ls : Array Slot) (H : Heap) (locs : List Loc), lv_has ls 3 [(0, .ref l0), (1, .int l1), (2, .int l2)] → ga_W D T z L S I J s H locs → W p l e rm_M_twin s m args below meth c H locs 0 0 Q (F0 m 37 ls []) := by
  intro n
  induction n with
  | zero =>
    intro I J l0 l1 l2 hF ls H locs hl hw
    rw [f_M_twin_b37] at hF
    cases hF
  | succ n ih =>
    intro I J l0 l1 l2 hF ls H locs hl hw
    have hx := C.1
    have hb := C.2.1
    rw [f_M_twin_b37] at hF
    refine lv_iload_n hx hb d_M_twin_37 rfl (lv_at hl 2 rfl) ?_
    refine lv_bipush (v := 7) hx hb d_M_twin_38 (by decide) ?_
    by_cases h1 : (7 : Int32) ≤ l2
    · rw [if_pos h1] at hF
      refine lv_icmp_ge (tgt := 74) hx hb d_M_twin_40 (by decide) (fun _ => ?_) (fun hn => absurd h1 hn)
      refine lv_iconst (v := 0) hx hb d_M_twin_74 (by decide) ?_
      refine lv_istore_n hx hb d_M_twin_75 rfl hl (by decide) rfl (fun ls hl => ?_)
      have hl : lv_has ls 3 [(2, .int (0 : Int32)), (0, .ref l0), (1, .int l1)] := hl
      exact m_M_twin_b76 hret C gFuel _ _ _ _ _ hF _ _ _ (lv_sub hl [1, 2, 0] rfl) hw
    · rw [if_neg h1] at hF
      refine lv_icmp_ge (tgt := 74) hx hb d_M_twin_40 (by decide) (fun hp => absurd hp h1) (fun _ => ?_)
      refine lv_aload_n hx hb d_M_twin_43 rfl (lv_at hl 0 rfl) ?_
      obtain ⟨t2, hF⟩ := gd_ex hF
      obtain ⟨r3, hr3, hF⟩ := ob_ex hF
      refine ga_getR C hw gf_M_102 t2 hr3 d_M_twin_44 ?_
      refine lv_bipush (v := 7) hx hb d_M_twin_47 (by decide) ?_
      refine lv_aload_n hx hb d_M_twin_49 rfl (lv_at hl 0 rfl) ?_
      refine ga_getI C hw gf_M_127 t2 d_M_twin_50 ?_
      refine lv_imul hx hb d_M_twin_53 ?_
      refine lv_iload_n hx hb d_M_twin_54 rfl (lv_at hl 2 rfl) ?_
      refine lv_iadd hx hb d_M_twin_55 ?_
      refine lv_aload_n hx hb d_M_twin_56 rfl (lv_at hl 0 rfl) ?_
      refine ga_getR C hw gf_M_102 t2 hr3 d_M_twin_57 ?_
      refine lv_bipush (v := 7) hx hb d_M_twin_60 (by decide) ?_
      refine lv_iload_n hx hb d_M_twin_62 rfl (lv_at hl 1 rfl) ?_
      refine lv_imul hx hb d_M_twin_63 ?_
      refine lv_iload_n hx hb d_M_twin_64 rfl (lv_at hl 2 rfl) ?_
      refine lv_iadd hx hb d_M_twin_65 ?_
      obtain ⟨t4, hF⟩ := gd_ex hF
      obtain ⟨b5, hF⟩ := gd_ex hF
      refine ga_iald C hw t4 b5 d_M_twin_66 ?_
      obtain ⟨b6, hF⟩ := gd_ex hF
      obtain ⟨I7, eI7, hF⟩ := bnd_ex hF
      refine ga_iast C hw t4 b6 eI7 d_M_twin_67 (fun H locs hw => ?_)
      obtain ⟨v8, ev8, hF⟩ := bnd_ex hF
      refine lv_iinc (k := 2) (v := v8) hx hb d_M_twin_68 hl rfl (by rw [ev8]; rfl) (by decide) rfl (fun ls hl => ?_)
      have hl : lv_has ls 3 [(2, .int v8), (0, .ref l0), (1, .int l1)] := hl
      refine lv_goto (tgt := 37) hx hb d_M_twin_71 (by decide) ?_
      exact ih _ _ _ _ _ hF _ _ _ (lv_sub hl [1, 2, 0] rfl) hw
set_option maxHeartbeats 4000000 in
set_option maxRecDepth 100000 in
theorem m_M_twin_b14 {zz : Int32 × gMI × gMJ} (hret : ∀ (pc : Nat) (ls : Array Slot) (H : Heap) (locs : List Loc) (x : Int32) (I1 : gMI) (J1 : gMJ), (x, I1, J1) = zz → decode prog_10_method_38_code pc = .ok (.ireturn, 1) → (x = 0 ∨ x = 1) → ga_W D T z L S I1 J1 s H locs → W p l e rm_M_twin s m args below meth c H locs 0 0 Q (F0 m pc ls [.int x])) (C : CallFix p m c prog_10_method_38_code 3 s args ga_ws "RankHouseModel") : ∀ (I : gMI) (J : gMJ) (s0 : Int32) (s1 : Nat) (l0 : Nat) (l1 : Int32), f_M_twin_b14 S I J s0 s1 l0 l1 = some zz → ∀ (ls : Array Slot) (H : Heap) (locs : List Loc), lv_has ls 3 [(0, .ref l0), (1, .int l1)] → ga_W D T z L S I J s H locs → W p l e rm_M_twin s m args below meth c H locs 0 0 Q (F0 m 14 ls [.int s0, .ref s1]) := by
  intro I J s0 s1 l0 l1 hF ls H locs hl hw
  have hx := C.1
  have hb := C.2.1
  rw [f_M_twin_b14] at hF
  obtain ⟨t1, hF⟩ := gd_ex hF
  obtain ⟨I2, eI2, hF⟩ := bnd_ex hF
  refine ga_putI C hw gp_M_114 t1 rfl rfl eI2 d_M_twin_14 (fun H locs hw => ?_)
  refine lv_aload_n hx hb d_M_twin_17 rfl (lv_at hl 0 rfl) ?_
  obtain ⟨t3, hF⟩ := gd_ex hF
  refine ga_getI C hw gf_M_114 t3 d_M_twin_18 ?_
  by_cases h4 : 0 < (I2 l0 0)
  · rw [if_pos h4] at hF
    refine lv_if_gt (tgt := 33) hx hb d_M_twin_21 (by decide) (fun _ => ?_) (fun hn => absurd h4 hn)
    exact m_M_twin_b33 hret C _ _ hF _ _ _ (lv_sub hl [] rfl) hw
  · rw [if_neg h4] at hF
    refine lv_if_gt (tgt := 33) hx hb d_M_twin_21 (by decide) (fun hp => absurd hp h4) (fun _ => ?_)
    refine lv_aload_n hx hb d_M_twin_24 rfl (lv_at hl 0 rfl) ?_
    refine ga_getI C hw gf_M_127 t3 d_M_twin_25 ?_
    refine lv_bipush (v := 96) hx hb d_M_twin_28 (by decide) ?_
    by_cases h5 : (I2 l0 32) = (96 : Int32)
    · rw [if_pos h5] at hF
      refine lv_icmp_ne (tgt := 35) hx hb d_M_twin_30 (by decide) (fun hn => absurd h5 hn) (fun _ => ?_)
      exact m_M_twin_b33 hret C _ _ hF _ _ _ (lv_sub hl [] rfl) hw
    · rw [if_neg h5] at hF
      refine lv_icmp_ne (tgt := 35) hx hb d_M_twin_30 (by decide) (fun _ => ?_) (fun hp => absurd hp h5)
      refine lv_iconst (v := 0) hx hb d_M_twin_35 (by decide) ?_
      refine lv_istore_n hx hb d_M_twin_36 rfl hl (by decide) rfl (fun ls hl => ?_)
      have hl : lv_has ls 3 [(2, .int (0 : Int32)), (0, .ref l0), (1, .int l1)] := hl
      exact m_M_twin_b37 hret C gFuel _ _ _ _ _ hF _ _ _ (lv_sub hl [1, 2, 0] rfl) hw
set_option maxHeartbeats 4000000 in
set_option maxRecDepth 100000 in
theorem c_M_twin (l : Launch) (D : va_G) (T : Nat → ClassId) (z : Nat) (L : List Nat) {S : gS} {I : gMI} {J : gMJ} {p0 : Nat} {p1 : Int32} {r : Int32} {RI : gMI} {RJ : gMJ} (hF : f_M_twin S I J p0 p1 = some (r, RI, RJ)) : ga_Mi l y_M_twin prog_10_method_38_code 3 (Option.some Jvm.ClassFile.FieldType.boolean) rm_M_twin [.ref p0, .int p1] D T z L S I J r RI RJ := by
  refine Met.ofW (cc := prog_10_method_38_code) (maxL := 3) (ret := (Option.some Jvm.ClassFile.FieldType.boolean)) (by decide) rfl ?_
  intro p e s m args below meth c s₁ B hml hv
  obtain ⟨ha, hv⟩ := hv
  have hx := B.exec
  have hb := B.bytes
  have hr := B.returns
  have hts := atoms_spec (ws := .code y_M_twin prog_10_method_38_code 3 (Option.some Jvm.ClassFile.FieldType.boolean) :: ga_ws) B.pre
  have hown : s.vm.findClass "RankHouseModel" = some m.cls := findClass_of_methodNamed B.named
  have hlocks := B.notSynchronized
  have C : CallFix p m c prog_10_method_38_code 3 s args ga_ws "RankHouseModel" := ⟨hx, hb, hml, hown, fun w h => hts w (List.mem_cons_of_mem _ h)⟩
  have hw := ga_start hv
  have hl := lv_entry ([.ref p0, .int p1]) (n := 3) (Nat.le_of_ble_eq_true rfl)
  rw [show entryFrame m args 3 = entryFrame m ([.ref p0, .int p1] : List Value).toArray 3 by rw [ha], lg_entry_eq]
  generalize (lg_sl ([.ref p0, .int p1]) ++ List.replicate (3 - (lg_sl ([.ref p0, .int p1])).length) Slot.unset).toArray = ls at hl ⊢
  have hl : lv_has ls 3 [(0, .ref p0), (1, .int p1)] := hl
  have key : ∀ Q : State → Prop, (∀ (pc : Nat) (ls : Array Slot) (H : Heap) (locs : List Loc) (x : Int32) (I1 : gMI) (J1 : gMJ), (x, I1, J1) = (r, RI, RJ) → decode prog_10_method_38_code pc = .ok (.ireturn, 1) → (x = 0 ∨ x = 1) → ga_W D T z L S I1 J1 s H locs → W p l e rm_M_twin s m args below meth c H locs 0 0 Q (F0 m pc ls [.int x])) → W p l e rm_M_twin s m args below meth c s.heap [] 0 0 Q (F0 m 0 ls []) := by
    intro Q hret
    rw [f_M_twin] at hF
    refine lv_aload_n hx hb d_M_twin_0 rfl (lv_at hl 0 rfl) ?_
    refine lv_aload_n hx hb d_M_twin_1 rfl (lv_at hl 0 rfl) ?_
    refine lv_iload_n hx hb d_M_twin_2 rfl (lv_at hl 1 rfl) ?_
    obtain ⟨t1, hF⟩ := gd_ex hF
    obtain ⟨x2, c3, hF⟩ := ob_ex hF
    refine ga_cVi (As := [.int p1]) C hw (c_M_isLetter l D T z L c3) gy_M_227 t1 rfl hl.1 ⟨Nat.le_of_ble_eq_true rfl, Nat.le_of_ble_eq_true rfl, rfl, rfl, Nat.le_of_ble_eq_true rfl, Nat.le_of_ble_eq_true rfl⟩ (Nat.le_of_ble_eq_true rfl) rfl d_M_twin_3 (fun H locs hw => ?_)
    by_cases h4 : x2 = 0
    · rw [if_pos h4] at hF
      refine lv_if_eq (tgt := 13) hx hb d_M_twin_6 (by decide) (fun _ => ?_) (fun hn => absurd h4 hn)
      refine lv_iconst (v := 1) hx hb d_M_twin_13 (by decide) ?_
      exact m_M_twin_b14 hret C _ _ _ _ _ _ hF _ _ _ hl hw
    · rw [if_neg h4] at hF
      refine lv_if_eq (tgt := 13) hx hb d_M_twin_6 (by decide) (fun hp => absurd hp h4) (fun _ => ?_)
      refine lv_iconst (v := 0) hx hb d_M_twin_9 (by decide) ?_
      refine lv_goto (tgt := 14) hx hb d_M_twin_10 (by decide) ?_
      exact m_M_twin_b14 hret C _ _ _ _ _ _ hF _ _ _ hl hw
  refine key _ (fun pc ls H locs x I1 J1 he hd hz hw => ?_)
  · cases he
    exact W.zret hx hb hr (ga_zb hz) (fun t ht _ => ⟨⟨_, (), rfl, rfl, ga_o hw ht⟩, hw.2.2.2.1.F ht⟩) hw.2.2.2.1.2.2 hd
set_option maxHeartbeats 4000000 in
set_option maxRecDepth 100000 in
theorem m_M_run_b52 {zz : Int32 × gMI × gMJ} (hret : ∀ (pc : Nat) (ls : Array Slot) (H : Heap) (locs : List Loc) (x : Int32) (I1 : gMI) (J1 : gMJ), (x, I1, J1) = zz → decode prog_10_method_39_code pc = .ok (.ireturn, 1) → ga_W D T z L S I1 J1 s H locs → W p l e rm_M_run s m args below meth c H locs 0 0 Q (F0 m pc ls [.int x])) (C : CallFix p m c prog_10_method_39_code 3 s args ga_ws "RankHouseModel") : ∀ (I : gMI) (J : gMJ) (l2 : Int32), f_M_run_b52 S I J l2 = some zz → ∀ (ls : Array Slot) (H : Heap) (locs : List Loc), lv_has ls 3 [(2, .int l2)] → ga_W D T z L S I J s H locs → W p l e rm_M_run s m args below meth c H locs 0 0 Q (F0 m 52 ls []) := by
  intro I J l2 hF ls H locs hl hw
  have hx := C.1
  have hb := C.2.1
  rw [f_M_run_b52] at hF
  refine lv_iload_n hx hb d_M_run_52 rfl (lv_at hl 0 rfl) ?_
  exact hret _ _ _ _ _ _ _ (Option.some.inj hF) d_M_run_53 hw
set_option maxHeartbeats 4000000 in
set_option maxRecDepth 100000 in
theorem m_M_run_b22 {zz : Int32 × gMI × gMJ} (hret : ∀ (pc : Nat) (ls : Array Slot) (H : Heap) (locs : List Loc) (x : Int32) (I1 : gMI) (J1 : gMJ), (x, I1, J1) = zz → decode prog_10_method_39_code pc = .ok (.ireturn, 1) → ga_W D T z L S I1 J1 s H locs → W p l e rm_M_run s m args below meth c H locs 0 0 Q (F0 m pc ls [.int x])) (C : CallFix p m c prog_10_method_39_code 3 s args ga_ws "RankHouseModel") : ∀ (n : Nat) (I : gMI) (J : gMJ) (l0 : Nat) (l1 : Int32) (l2 : Int32), f_M_run_b22 S n I J l0 l1 l2 = some zz → ∀ (ls : Array Slot) (H : Heap) (locs : List Loc), lv_has ls 3 [(0, .ref l0), (1, .int l1), (2, .int l2)] → ga_W D T z L S I J s H locs → W p l e rm_M_run s m args below meth c H locs 0 0 Q (F0 m 22 ls []) := by
  intro n
  induction n with
  | zero =>
    intro I J l0 l1 l2 hF ls H locs hl hw
    rw [f_M_run_b22] at hF
    cases hF
  | succ n ih =>
    intro I J l0 l1 l2 hF ls H locs hl hw
    have hx := C.1
    have hb := C.2.1
    rw [f_M_run_b22] at hF
    refine lv_aload_n hx hb d_M_run_22 rfl (lv_at hl 0 rfl) ?_
    obtain ⟨t1, hF⟩ := gd_ex hF
    refine ga_getI C hw gf_M_114 t1 d_M_run_23 ?_
    by_cases h2 : (I l0 0) = 0
    · rw [if_pos h2] at hF
      refine lv_if_ne (tgt := 52) hx hb d_M_run_26 (by decide) (fun hn => absurd h2 hn) (fun _ => ?_)
      refine lv_iload_n hx hb d_M_run_29 rfl (lv_at hl 2 rfl) ?_
      refine lv_iload_n hx hb d_M_run_30 rfl (lv_at hl 1 rfl) ?_
      by_cases h3 : l1 ≤ l2
      · rw [if_pos h3] at hF
        refine lv_icmp_ge (tgt := 52) hx hb d_M_run_31 (by decide) (fun _ => ?_) (fun hn => absurd h3 hn)
        exact m_M_run_b52 hret C _ _ _ hF _ _ _ (lv_sub hl [2] rfl) hw
      · rw [if_neg h3] at hF
        refine lv_icmp_ge (tgt := 52) hx hb d_M_run_31 (by decide) (fun hp => absurd hp h3) (fun _ => ?_)
        refine lv_aload_n hx hb d_M_run_34 rfl (lv_at hl 0 rfl) ?_
        refine ga_getI C hw gf_M_127 t1 d_M_run_35 ?_
        by_cases h4 : (I l0 32) ≤ 0
        · rw [if_pos h4] at hF
          refine lv_if_le (tgt := 52) hx hb d_M_run_38 (by decide) (fun _ => ?_) (fun hn => absurd h4 hn)
          exact m_M_run_b52 hret C _ _ _ hF _ _ _ (lv_sub hl [2] rfl) hw
        · rw [if_neg h4] at hF
          refine lv_if_le (tgt := 52) hx hb d_M_run_38 (by decide) (fun hp => absurd hp h4) (fun _ => ?_)
          refine lv_aload_n hx hb d_M_run_41 rfl (lv_at hl 0 rfl) ?_
          refine lv_iconst (v := 0) hx hb d_M_run_42 (by decide) ?_
          obtain ⟨I5, J6, c7, hF⟩ := bd2_ex hF
          refine ga_cVv (As := [.int (0 : Int32)]) C hw (c_M_bring l D T z L c7) gy_M_230 t1 rfl hl.1 ⟨Nat.le_of_ble_eq_true rfl, Nat.le_of_ble_eq_true rfl, rfl, rfl, Nat.le_of_ble_eq_true rfl, Nat.le_of_ble_eq_true rfl⟩ (Nat.le_of_ble_eq_true rfl) rfl d_M_run_43 (fun H locs hw => ?_)
          obtain ⟨v8, ev8, hF⟩ := bnd_ex hF
          refine lv_iinc (k := 2) (v := v8) hx hb d_M_run_46 hl rfl (by rw [ev8]; rfl) (by decide) rfl (fun ls hl => ?_)
          have hl : lv_has ls 3 [(2, .int v8), (0, .ref l0), (1, .int l1)] := hl
          refine lv_goto (tgt := 22) hx hb d_M_run_49 (by decide) ?_
          exact ih _ _ _ _ _ hF _ _ _ (lv_sub hl [1, 2, 0] rfl) hw
    · rw [if_neg h2] at hF
      refine lv_if_ne (tgt := 52) hx hb d_M_run_26 (by decide) (fun _ => ?_) (fun hp => absurd hp h2)
      exact m_M_run_b52 hret C _ _ _ hF _ _ _ (lv_sub hl [2] rfl) hw
set_option maxHeartbeats 4000000 in
set_option maxRecDepth 100000 in
theorem m_M_run_b17 {zz : Int32 × gMI × gMJ} (hret : ∀ (pc : Nat) (ls : Array Slot) (H : Heap) (locs : List Loc) (x : Int32) (I1 : gMI) (J1 : gMJ), (x, I1, J1) = zz → decode prog_10_method_39_code pc = .ok (.ireturn, 1) → ga_W D T z L S I1 J1 s H locs → W p l e rm_M_run s m args below meth c H locs 0 0 Q (F0 m pc ls [.int x])) (C : CallFix p m c prog_10_method_39_code 3 s args ga_ws "RankHouseModel") : ∀ (I : gMI) (J : gMJ) (s0 : Int32) (s1 : Nat) (l0 : Nat) (l1 : Int32), f_M_run_b17 S I J s0 s1 l0 l1 = some zz → ∀ (ls : Array Slot) (H : Heap) (locs : List Loc), lv_has ls 3 [(0, .ref l0), (1, .int l1)] → ga_W D T z L S I J s H locs → W p l e rm_M_run s m args below meth c H locs 0 0 Q (F0 m 17 ls [.int s0, .ref s1]) := by
  intro I J s0 s1 l0 l1 hF ls H locs hl hw
  have hx := C.1
  have hb := C.2.1
  rw [f_M_run_b17] at hF
  obtain ⟨t1, hF⟩ := gd_ex hF
  obtain ⟨I2, eI2, hF⟩ := bnd_ex hF
  refine ga_putI C hw gp_M_114 t1 rfl rfl eI2 d_M_run_17 (fun H locs hw => ?_)
  refine lv_iconst (v := 0) hx hb d_M_run_20 (by decide) ?_
  refine lv_istore_n hx hb d_M_run_21 rfl hl (by decide) rfl (fun ls hl => ?_)
  have hl : lv_has ls 3 [(2, .int (0 : Int32)), (0, .ref l0), (1, .int l1)] := hl
  exact m_M_run_b22 hret C gFuel _ _ _ _ _ hF _ _ _ (lv_sub hl [1, 2, 0] rfl) hw
set_option maxHeartbeats 4000000 in
set_option maxRecDepth 100000 in
theorem m_M_run_b12 {zz : Int32 × gMI × gMJ} (hret : ∀ (pc : Nat) (ls : Array Slot) (H : Heap) (locs : List Loc) (x : Int32) (I1 : gMI) (J1 : gMJ), (x, I1, J1) = zz → decode prog_10_method_39_code pc = .ok (.ireturn, 1) → ga_W D T z L S I1 J1 s H locs → W p l e rm_M_run s m args below meth c H locs 0 0 Q (F0 m pc ls [.int x])) (C : CallFix p m c prog_10_method_39_code 3 s args ga_ws "RankHouseModel") : ∀ (I : gMI) (J : gMJ) (s0 : Nat) (l0 : Nat) (l1 : Int32), f_M_run_b12 S I J s0 l0 l1 = some zz → ∀ (ls : Array Slot) (H : Heap) (locs : List Loc), lv_has ls 3 [(0, .ref l0), (1, .int l1)] → ga_W D T z L S I J s H locs → W p l e rm_M_run s m args below meth c H locs 0 0 Q (F0 m 12 ls [.ref s0]) := by
  intro I J s0 l0 l1 hF ls H locs hl hw
  have hx := C.1
  have hb := C.2.1
  rw [f_M_run_b12] at hF
  refine lv_iconst (v := 1) hx hb d_M_run_12 (by decide) ?_
  refine lv_goto (tgt := 17) hx hb d_M_run_13 (by decide) ?_
  exact m_M_run_b17 hret C _ _ _ _ _ _ hF _ _ _ hl hw
set_option maxHeartbeats 4000000 in
set_option maxRecDepth 100000 in
theorem c_M_run (l : Launch) (D : va_G) (T : Nat → ClassId) (z : Nat) (L : List Nat) {S : gS} {I : gMI} {J : gMJ} {p0 : Nat} {p1 : Int32} {r : Int32} {RI : gMI} {RJ : gMJ} (hF : f_M_run S I J p0 p1 = some (r, RI, RJ)) : ga_Mi l y_M_run prog_10_method_39_code 3 (Option.some Jvm.ClassFile.FieldType.int) rm_M_run [.ref p0, .int p1] D T z L S I J r RI RJ := by
  refine Met.ofW (cc := prog_10_method_39_code) (maxL := 3) (ret := (Option.some Jvm.ClassFile.FieldType.int)) (by decide) rfl ?_
  intro p e s m args below meth c s₁ B hml hv
  obtain ⟨ha, hv⟩ := hv
  have hx := B.exec
  have hb := B.bytes
  have hr := B.returns
  have hts := atoms_spec (ws := .code y_M_run prog_10_method_39_code 3 (Option.some Jvm.ClassFile.FieldType.int) :: ga_ws) B.pre
  have hown : s.vm.findClass "RankHouseModel" = some m.cls := findClass_of_methodNamed B.named
  have hlocks := B.notSynchronized
  have C : CallFix p m c prog_10_method_39_code 3 s args ga_ws "RankHouseModel" := ⟨hx, hb, hml, hown, fun w h => hts w (List.mem_cons_of_mem _ h)⟩
  have hw := ga_start hv
  have hl := lv_entry ([.ref p0, .int p1]) (n := 3) (Nat.le_of_ble_eq_true rfl)
  rw [show entryFrame m args 3 = entryFrame m ([.ref p0, .int p1] : List Value).toArray 3 by rw [ha], lg_entry_eq]
  generalize (lg_sl ([.ref p0, .int p1]) ++ List.replicate (3 - (lg_sl ([.ref p0, .int p1])).length) Slot.unset).toArray = ls at hl ⊢
  have hl : lv_has ls 3 [(0, .ref p0), (1, .int p1)] := hl
  have key : ∀ Q : State → Prop, (∀ (pc : Nat) (ls : Array Slot) (H : Heap) (locs : List Loc) (x : Int32) (I1 : gMI) (J1 : gMJ), (x, I1, J1) = (r, RI, RJ) → decode prog_10_method_39_code pc = .ok (.ireturn, 1) → ga_W D T z L S I1 J1 s H locs → W p l e rm_M_run s m args below meth c H locs 0 0 Q (F0 m pc ls [.int x])) → W p l e rm_M_run s m args below meth c s.heap [] 0 0 Q (F0 m 0 ls []) := by
    intro Q hret
    rw [f_M_run] at hF
    refine lv_aload_n hx hb d_M_run_0 rfl (lv_at hl 0 rfl) ?_
    refine lv_iload_n hx hb d_M_run_1 rfl (lv_at hl 1 rfl) ?_
    by_cases h1 : p1 < 0
    · rw [if_pos h1] at hF
      refine lv_if_lt (tgt := 12) hx hb d_M_run_2 (by decide) (fun _ => ?_) (fun hn => absurd h1 hn)
      exact m_M_run_b12 hret C _ _ _ _ _ hF _ _ _ hl hw
    · rw [if_neg h1] at hF
      refine lv_if_lt (tgt := 12) hx hb d_M_run_2 (by decide) (fun hp => absurd hp h1) (fun _ => ?_)
      refine lv_iload_n hx hb d_M_run_5 rfl (lv_at hl 1 rfl) ?_
      refine lv_sipush (v := 1000) hx hb d_M_run_6 (by decide) ?_
      by_cases h2 : p1 ≤ (1000 : Int32)
      · rw [if_pos h2] at hF
        refine lv_icmp_le (tgt := 16) hx hb d_M_run_9 (by decide) (fun _ => ?_) (fun hn => absurd h2 hn)
        refine lv_iconst (v := 0) hx hb d_M_run_16 (by decide) ?_
        exact m_M_run_b17 hret C _ _ _ _ _ _ hF _ _ _ hl hw
      · rw [if_neg h2] at hF
        refine lv_icmp_le (tgt := 16) hx hb d_M_run_9 (by decide) (fun hp => absurd hp h2) (fun _ => ?_)
        exact m_M_run_b12 hret C _ _ _ _ _ hF _ _ _ hl hw
  refine key _ (fun pc ls H locs x I1 J1 he hd hw => ?_)
  · cases he
    exact W.iret hx hb hr (fun t ht _ => ⟨⟨_, (), rfl, rfl, ga_o hw ht⟩, hw.2.2.2.1.F ht⟩) hw.2.2.2.1.2.2 hd
set_option maxHeartbeats 4000000 in
set_option maxRecDepth 100000 in
theorem c_M_begin (l : Launch) (D : va_G) (T : Nat → ClassId) (z : Nat) (L : List Nat) {S : gS} {I : gMI} {J : gMJ} {p0 : Nat} {p1 : Int32} {p2 : Int32} {RI : gMI} {RJ : gMJ} (hF : f_M_begin S I J p0 p1 p2 = some (RI, RJ)) : ga_Mv l y_M_begin prog_10_method_41_code 3 (Option.none : Option Jvm.ClassFile.FieldType) rm_M_begin [.ref p0, .int p1, .int p2] D T z L S I J RI RJ := by
  refine Met.ofW (cc := prog_10_method_41_code) (maxL := 3) (ret := (Option.none : Option Jvm.ClassFile.FieldType)) (by decide) rfl ?_
  intro p e s m args below meth c s₁ B hml hv
  obtain ⟨ha, hv⟩ := hv
  have hx := B.exec
  have hb := B.bytes
  have hr := B.returns
  have hts := atoms_spec (ws := .code y_M_begin prog_10_method_41_code 3 (Option.none : Option Jvm.ClassFile.FieldType) :: ga_ws) B.pre
  have hown : s.vm.findClass "RankHouseModel" = some m.cls := findClass_of_methodNamed B.named
  have hlocks := B.notSynchronized
  have C : CallFix p m c prog_10_method_41_code 3 s args ga_ws "RankHouseModel" := ⟨hx, hb, hml, hown, fun w h => hts w (List.mem_cons_of_mem _ h)⟩
  have hw := ga_start hv
  have hl := lv_entry ([.ref p0, .int p1, .int p2]) (n := 3) (Nat.le_of_ble_eq_true rfl)
  rw [show entryFrame m args 3 = entryFrame m ([.ref p0, .int p1, .int p2] : List Value).toArray 3 by rw [ha], lg_entry_eq]
  generalize (lg_sl ([.ref p0, .int p1, .int p2]) ++ List.replicate (3 - (lg_sl ([.ref p0, .int p1, .int p2])).length) Slot.unset).toArray = ls at hl ⊢
  have hl : lv_has ls 3 [(0, .ref p0), (1, .int p1), (2, .int p2)] := hl
  have key : ∀ Q : State → Prop, (∀ (pc : Nat) (ls : Array Slot) (H : Heap) (locs : List Loc) (I1 : gMI) (J1 : gMJ), (I1, J1) = (RI, RJ) → decode prog_10_method_41_code pc = .ok (.return_, 1) → ga_W D T z L S I1 J1 s H locs → W p l e rm_M_begin s m args below meth c H locs 0 0 Q (F0 m pc ls [])) → W p l e rm_M_begin s m args below meth c s.heap [] 0 0 Q (F0 m 0 ls []) := by
    intro Q hret
    rw [f_M_begin] at hF
    refine lv_aload_n hx hb d_M_begin_0 rfl (lv_at hl 0 rfl) ?_
    obtain ⟨t1, hF⟩ := gd_ex hF
    obtain ⟨r2, hr2, hF⟩ := ob_ex hF
    refine ga_getR C hw gf_M_32 t1 hr2 d_M_begin_1 ?_
    refine lv_iload_n hx hb d_M_begin_4 rfl (lv_at hl 1 rfl) ?_
    refine lv_iload_n hx hb d_M_begin_5 rfl (lv_at hl 2 rfl) ?_
    obtain ⟨t3, hF⟩ := gd_ex hF
    obtain ⟨b4, hF⟩ := gd_ex hF
    obtain ⟨I5, eI5, hF⟩ := bnd_ex hF
    refine ga_iast C hw t3 b4 eI5 d_M_begin_6 (fun H locs hw => ?_)
    refine lv_aload_n hx hb d_M_begin_7 rfl (lv_at hl 0 rfl) ?_
    obtain ⟨r6, hr6, hF⟩ := ob_ex hF
    refine ga_getR C hw gf_M_35 t1 hr6 d_M_begin_8 ?_
    refine lv_iload_n hx hb d_M_begin_11 rfl (lv_at hl 1 rfl) ?_
    refine lv_dup2_11 hx hb d_M_begin_12 rfl rfl ?_
    obtain ⟨t7, hF⟩ := gd_ex hF
    obtain ⟨b8, hF⟩ := gd_ex hF
    refine ga_iald C hw t7 b8 d_M_begin_13 ?_
    refine lv_iconst (v := 1) hx hb d_M_begin_14 (by decide) ?_
    refine lv_iadd hx hb d_M_begin_15 ?_
    obtain ⟨I9, eI9, hF⟩ := bnd_ex hF
    refine ga_iast C hw t7 b8 eI9 d_M_begin_16 (fun H locs hw => ?_)
    refine lv_aload_n hx hb d_M_begin_17 rfl (lv_at hl 0 rfl) ?_
    obtain ⟨r10, hr10, hF⟩ := ob_ex hF
    refine ga_getR C hw gf_M_38 t1 hr10 d_M_begin_18 ?_
    refine lv_iload_n hx hb d_M_begin_21 rfl (lv_at hl 1 rfl) ?_
    refine lv_iconst (v := 0) hx hb d_M_begin_22 (by decide) ?_
    obtain ⟨t11, hF⟩ := gd_ex hF
    obtain ⟨b12, hF⟩ := gd_ex hF
    obtain ⟨I13, eI13, hF⟩ := bnd_ex hF
    refine ga_iast C hw t11 b12 eI13 d_M_begin_23 (fun H locs hw => ?_)
    refine lv_aload_n hx hb d_M_begin_24 rfl (lv_at hl 0 rfl) ?_
    obtain ⟨r14, hr14, hF⟩ := ob_ex hF
    refine ga_getR C hw gf_M_41 t1 hr14 d_M_begin_25 ?_
    refine lv_iload_n hx hb d_M_begin_28 rfl (lv_at hl 1 rfl) ?_
    refine lv_iconst (v := 0) hx hb d_M_begin_29 (by decide) ?_
    obtain ⟨t15, hF⟩ := gd_ex hF
    obtain ⟨b16, hF⟩ := gd_ex hF
    obtain ⟨I17, eI17, hF⟩ := bnd_ex hF
    refine ga_iast C hw t15 b16 eI17 d_M_begin_30 (fun H locs hw => ?_)
    refine lv_aload_n hx hb d_M_begin_31 rfl (lv_at hl 0 rfl) ?_
    obtain ⟨r18, hr18, hF⟩ := ob_ex hF
    refine ga_getR C hw gf_M_44 t1 hr18 d_M_begin_32 ?_
    refine lv_iload_n hx hb d_M_begin_35 rfl (lv_at hl 1 rfl) ?_
    refine lv_iconst (v := 0) hx hb d_M_begin_36 (by decide) ?_
    obtain ⟨t19, hF⟩ := gd_ex hF
    obtain ⟨b20, hF⟩ := gd_ex hF
    obtain ⟨I21, eI21, hF⟩ := bnd_ex hF
    refine ga_iast C hw t19 b20 eI21 d_M_begin_37 (fun H locs hw => ?_)
    refine lv_aload_n hx hb d_M_begin_38 rfl (lv_at hl 0 rfl) ?_
    obtain ⟨r22, hr22, hF⟩ := ob_ex hF
    refine ga_getR C hw gf_M_47 t1 hr22 d_M_begin_39 ?_
    refine lv_iload_n hx hb d_M_begin_42 rfl (lv_at hl 1 rfl) ?_
    refine lv_iconst (v := 0) hx hb d_M_begin_43 (by decide) ?_
    obtain ⟨t23, hF⟩ := gd_ex hF
    obtain ⟨b24, hF⟩ := gd_ex hF
    obtain ⟨I25, eI25, hF⟩ := bnd_ex hF
    refine ga_iast C hw t23 b24 eI25 d_M_begin_44 (fun H locs hw => ?_)
    refine lv_aload_n hx hb d_M_begin_45 rfl (lv_at hl 0 rfl) ?_
    obtain ⟨r26, hr26, hF⟩ := ob_ex hF
    refine ga_getR C hw gf_M_50 t1 hr26 d_M_begin_46 ?_
    refine lv_iload_n hx hb d_M_begin_49 rfl (lv_at hl 1 rfl) ?_
    refine lv_iconst (v := 0) hx hb d_M_begin_50 (by decide) ?_
    obtain ⟨t27, hF⟩ := gd_ex hF
    obtain ⟨b28, hF⟩ := gd_ex hF
    obtain ⟨I29, eI29, hF⟩ := bnd_ex hF
    refine ga_iast C hw t27 b28 eI29 d_M_begin_51 (fun H locs hw => ?_)
    refine lv_aload_n hx hb d_M_begin_52 rfl (lv_at hl 0 rfl) ?_
    refine lv_iload_n hx hb d_M_begin_53 rfl (lv_at hl 1 rfl) ?_
    refine lv_iconst (v := 1) hx hb d_M_begin_54 (by decide) ?_
    obtain ⟨I30, J31, c32, hF⟩ := bd2_ex hF
    refine ga_cVv (As := [.int p1, .int (1 : Int32)]) C hw (c_M_askAll l D T z L c32) gy_M_168 t1 rfl hl.1 ⟨Nat.le_of_ble_eq_true rfl, Nat.le_of_ble_eq_true rfl, rfl, rfl, Nat.le_of_ble_eq_true rfl, Nat.le_of_ble_eq_true rfl⟩ (Nat.le_of_ble_eq_true rfl) rfl d_M_begin_55 (fun H locs hw => ?_)
    exact hret _ _ _ _ _ _ (Option.some.inj hF) d_M_begin_58 hw
  refine key _ (fun pc ls H locs I1 J1 he hd hw => ?_)
  · cases he
    exact W.vret hx hb hr (fun t ht _ => ⟨⟨(), rfl, trivial, ga_o hw ht⟩, hw.2.2.2.1.F ht⟩) hw.2.2.2.1.2.2 hd
set_option maxHeartbeats 4000000 in
set_option maxRecDepth 100000 in
theorem m_M_ask_b86 {zz : Int32 × gMI × gMJ} (hret : ∀ (pc : Nat) (ls : Array Slot) (H : Heap) (locs : List Loc) (x : Int32) (I1 : gMI) (J1 : gMJ), (x, I1, J1) = zz → decode prog_10_method_40_code pc = .ok (.ireturn, 1) → ga_W D T z L S I1 J1 s H locs → W p l e rm_M_ask s m args below meth c H locs 0 0 Q (F0 m pc ls [.int x])) (C : CallFix p m c prog_10_method_40_code 8 s args ga_ws "RankHouseModel") (k64 : gMI → gMJ → Nat → Int32 → Int32 → Int32 → Int32 → Int32 → Int32 → Int32 → Option (Int32 × gMI × gMJ)) (hk64 : ∀ (I : gMI) (J : gMJ) (l0 : Nat) (l1 : Int32) (l2 : Int32) (l3 : Int32) (l4 : Int32) (l5 : Int32) (l6 : Int32) (l7 : Int32), k64 I J l0 l1 l2 l3 l4 l5 l6 l7 = some zz → ∀ (ls : Array Slot) (H : Heap) (locs : List Loc), lv_has ls 8 [(0, .ref l0), (1, .int l1), (2, .int l2), (3, .int l3), (4, .int l4), (5, .int l5), (6, .int l6), (7, .int l7)] → ga_W D T z L S I J s H locs → W p l e rm_M_ask s m args below meth c H locs 0 0 Q (F0 m 64 ls [])) : ∀ (I : gMI) (J : gMJ) (s0 : Int32) (l0 : Nat) (l1 : Int32) (l2 : Int32) (l3 : Int32) (l4 : Int32) (l5 : Int32) (l7 : Int32), f_M_ask_b86 S k64 I J s0 l0 l1 l2 l3 l4 l5 l7 = some zz → ∀ (ls : Array Slot) (H : Heap) (locs : List Loc), lv_has ls 8 [(0, .ref l0), (1, .int l1), (2, .int l2), (3, .int l3), (4, .int l4), (5, .int l5), (7, .int l7)] → ga_W D T z L S I J s H locs → W p l e rm_M_ask s m args below meth c H locs 0 0 Q (F0 m 86 ls [.int s0]) := by
  intro I J s0 l0 l1 l2 l3 l4 l5 l7 hF ls H locs hl hw
  have hx := C.1
  have hb := C.2.1
  rw [f_M_ask_b86] at hF
  refine lv_istore hx hb d_M_ask_86 hl (by decide) rfl (fun ls hl => ?_)
  have hl : lv_has ls 8 [(6, .int s0), (0, .ref l0), (1, .int l1), (2, .int l2), (3, .int l3), (4, .int l4), (5, .int l5), (7, .int l7)] := hl
  obtain ⟨v1, ev1, hF⟩ := bnd_ex hF
  refine lv_iinc (k := 7) (v := v1) hx hb d_M_ask_88 hl rfl (by rw [ev1]; rfl) (by decide) rfl (fun ls hl => ?_)
  have hl : lv_has ls 8 [(7, .int v1), (6, .int s0), (0, .ref l0), (1, .int l1), (2, .int l2), (3, .int l3), (4, .int l4), (5, .int l5)] := hl
  refine lv_goto (tgt := 64) hx hb d_M_ask_91 (by decide) ?_
  exact hk64 _ _ _ _ _ _ _ _ _ _ hF _ _ _ (lv_sub hl [2, 3, 4, 5, 6, 7, 1, 0] rfl) hw
set_option maxHeartbeats 4000000 in
set_option maxRecDepth 100000 in
theorem m_M_ask_b196 {zz : Int32 × gMI × gMJ} (hret : ∀ (pc : Nat) (ls : Array Slot) (H : Heap) (locs : List Loc) (x : Int32) (I1 : gMI) (J1 : gMJ), (x, I1, J1) = zz → decode prog_10_method_40_code pc = .ok (.ireturn, 1) → ga_W D T z L S I1 J1 s H locs → W p l e rm_M_ask s m args below meth c H locs 0 0 Q (F0 m pc ls [.int x])) (C : CallFix p m c prog_10_method_40_code 8 s args ga_ws "RankHouseModel") : ∀ (n : Nat) (I : gMI) (J : gMJ) (l0 : Nat) (l1 : Int32) (l6 : Int32) (l7 : Int32), f_M_ask_b196 S n I J l0 l1 l6 l7 = some zz → ∀ (ls : Array Slot) (H : Heap) (locs : List Loc), lv_has ls 8 [(0, .ref l0), (1, .int l1), (6, .int l6), (7, .int l7)] → ga_W D T z L S I J s H locs → W p l e rm_M_ask s m args below meth c H locs 0 0 Q (F0 m 196 ls []) := by
  intro n
  induction n with
  | zero =>
    intro I J l0 l1 l6 l7 hF ls H locs hl hw
    rw [f_M_ask_b196] at hF
    cases hF
  | succ n ih =>
    intro I J l0 l1 l6 l7 hF ls H locs hl hw
    have hx := C.1
    have hb := C.2.1
    rw [f_M_ask_b196] at hF
    refine lv_iload hx hb d_M_ask_196 (lv_at hl 3 rfl) ?_
    refine lv_bipush (v := 8) hx hb d_M_ask_198 (by decide) ?_
    by_cases h1 : (8 : Int32) ≤ l7
    · rw [if_pos h1] at hF
      refine lv_icmp_ge (tgt := 223) hx hb d_M_ask_200 (by decide) (fun _ => ?_) (fun hn => absurd h1 hn)
      refine lv_aload_n hx hb d_M_ask_223 rfl (lv_at hl 0 rfl) ?_
      obtain ⟨t2, hF⟩ := gd_ex hF
      obtain ⟨r3, hr3, hF⟩ := ob_ex hF
      refine ga_getR C hw gf_M_35 t2 hr3 d_M_ask_224 ?_
      refine lv_iload hx hb d_M_ask_227 (lv_at hl 2 rfl) ?_
      refine lv_iconst (v := 0) hx hb d_M_ask_229 (by decide) ?_
      obtain ⟨t4, hF⟩ := gd_ex hF
      obtain ⟨b5, hF⟩ := gd_ex hF
      obtain ⟨I6, eI6, hF⟩ := bnd_ex hF
      refine ga_iast C hw t4 b5 eI6 d_M_ask_230 (fun H locs hw => ?_)
      refine lv_aload_n hx hb d_M_ask_231 rfl (lv_at hl 0 rfl) ?_
      refine lv_iload hx hb d_M_ask_232 (lv_at hl 2 rfl) ?_
      refine lv_iload_n hx hb d_M_ask_234 rfl (lv_at hl 1 rfl) ?_
      obtain ⟨I7, J8, c9, hF⟩ := bd2_ex hF
      refine ga_cVv (As := [.int l6, .int l1]) C hw (c_M_begin l D T z L c9) gy_M_236 t2 rfl hl.1 ⟨Nat.le_of_ble_eq_true rfl, Nat.le_of_ble_eq_true rfl, rfl, rfl, Nat.le_of_ble_eq_true rfl, Nat.le_of_ble_eq_true rfl⟩ (Nat.le_of_ble_eq_true rfl) rfl d_M_ask_235 (fun H locs hw => ?_)
      refine lv_aload_n hx hb d_M_ask_238 rfl (lv_at hl 0 rfl) ?_
      refine ga_getI C hw gf_M_233 t2 d_M_ask_239 ?_
      exact hret _ _ _ _ _ _ _ (Option.some.inj hF) d_M_ask_242 hw
    · rw [if_neg h1] at hF
      refine lv_icmp_ge (tgt := 223) hx hb d_M_ask_200 (by decide) (fun hp => absurd hp h1) (fun _ => ?_)
      refine lv_aload_n hx hb d_M_ask_203 rfl (lv_at hl 0 rfl) ?_
      obtain ⟨t10, hF⟩ := gd_ex hF
      obtain ⟨r11, hr11, hF⟩ := ob_ex hF
      refine ga_getR C hw gf_M_56 t10 hr11 d_M_ask_204 ?_
      refine lv_bipush (v := 8) hx hb d_M_ask_207 (by decide) ?_
      refine lv_iload hx hb d_M_ask_209 (lv_at hl 2 rfl) ?_
      refine lv_imul hx hb d_M_ask_211 ?_
      refine lv_iload hx hb d_M_ask_212 (lv_at hl 3 rfl) ?_
      refine lv_iadd hx hb d_M_ask_214 ?_
      refine lv_iconst (v := -1) hx hb d_M_ask_215 (by decide) ?_
      obtain ⟨t12, hF⟩ := gd_ex hF
      obtain ⟨b13, hF⟩ := gd_ex hF
      obtain ⟨I14, eI14, hF⟩ := bnd_ex hF
      refine ga_iast C hw t12 b13 eI14 d_M_ask_216 (fun H locs hw => ?_)
      obtain ⟨v15, ev15, hF⟩ := bnd_ex hF
      refine lv_iinc (k := 3) (v := v15) hx hb d_M_ask_217 hl rfl (by rw [ev15]; rfl) (by decide) rfl (fun ls hl => ?_)
      have hl : lv_has ls 8 [(7, .int v15), (0, .ref l0), (1, .int l1), (6, .int l6)] := hl
      refine lv_goto (tgt := 196) hx hb d_M_ask_220 (by decide) ?_
      exact ih _ _ _ _ _ _ hF _ _ _ (lv_sub hl [1, 2, 3, 0] rfl) hw
set_option maxHeartbeats 4000000 in
set_option maxRecDepth 100000 in
theorem m_M_ask_b135 {zz : Int32 × gMI × gMJ} (hret : ∀ (pc : Nat) (ls : Array Slot) (H : Heap) (locs : List Loc) (x : Int32) (I1 : gMI) (J1 : gMJ), (x, I1, J1) = zz → decode prog_10_method_40_code pc = .ok (.ireturn, 1) → ga_W D T z L S I1 J1 s H locs → W p l e rm_M_ask s m args below meth c H locs 0 0 Q (F0 m pc ls [.int x])) (C : CallFix p m c prog_10_method_40_code 8 s args ga_ws "RankHouseModel") : ∀ (I : gMI) (J : gMJ) (s0 : Int32) (s1 : Nat) (l0 : Nat) (l1 : Int32) (l2 : Int32) (l3 : Int32) (l4 : Int32) (l6 : Int32), f_M_ask_b135 S I J s0 s1 l0 l1 l2 l3 l4 l6 = some zz → ∀ (ls : Array Slot) (H : Heap) (locs : List Loc), lv_has ls 8 [(0, .ref l0), (1, .int l1), (2, .int l2), (3, .int l3), (4, .int l4), (6, .int l6)] → ga_W D T z L S I J s H locs → W p l e rm_M_ask s m args below meth c H locs 0 0 Q (F0 m 135 ls [.int s0, .ref s1]) := by
  intro I J s0 s1 l0 l1 l2 l3 l4 l6 hF ls H locs hl hw
  have hx := C.1
  have hb := C.2.1
  rw [f_M_ask_b135] at hF
  obtain ⟨t1, hF⟩ := gd_ex hF
  obtain ⟨I2, eI2, hF⟩ := bnd_ex hF
  refine ga_putI C hw gp_M_114 t1 rfl rfl eI2 d_M_ask_135 (fun H locs hw => ?_)
  refine lv_aload_n hx hb d_M_ask_138 rfl (lv_at hl 0 rfl) ?_
  obtain ⟨t3, hF⟩ := gd_ex hF
  refine ga_getI C hw gf_M_114 t3 d_M_ask_139 ?_
  by_cases h4 : (I2 l0 0) ≤ 0
  · rw [if_pos h4] at hF
    refine lv_if_le (tgt := 147) hx hb d_M_ask_142 (by decide) (fun _ => ?_) (fun hn => absurd h4 hn)
    refine lv_aload_n hx hb d_M_ask_147 rfl (lv_at hl 0 rfl) ?_
    refine lv_dup hx hb d_M_ask_148 rfl ?_
    refine ga_getI C hw gf_M_233 t3 d_M_ask_149 ?_
    refine lv_iconst (v := 1) hx hb d_M_ask_152 (by decide) ?_
    refine lv_iadd hx hb d_M_ask_153 ?_
    obtain ⟨I5, eI5, hF⟩ := bnd_ex hF
    refine ga_putI C hw gp_M_233 t3 rfl rfl eI5 d_M_ask_154 (fun H locs hw => ?_)
    refine lv_aload_n hx hb d_M_ask_157 rfl (lv_at hl 0 rfl) ?_
    obtain ⟨r6, hr6, hF⟩ := ob_ex hF
    refine ga_getR C hw gf_M_20 t3 hr6 d_M_ask_158 ?_
    refine lv_iload hx hb d_M_ask_161 (lv_at hl 5 rfl) ?_
    refine lv_aload_n hx hb d_M_ask_163 rfl (lv_at hl 0 rfl) ?_
    refine ga_getI C hw gf_M_233 t3 d_M_ask_164 ?_
    obtain ⟨t7, hF⟩ := gd_ex hF
    obtain ⟨b8, hF⟩ := gd_ex hF
    obtain ⟨I9, eI9, hF⟩ := bnd_ex hF
    refine ga_iast C hw t7 b8 eI9 d_M_ask_167 (fun H locs hw => ?_)
    refine lv_aload_n hx hb d_M_ask_168 rfl (lv_at hl 0 rfl) ?_
    obtain ⟨r10, hr10, hF⟩ := ob_ex hF
    refine ga_getR C hw gf_M_23 t3 hr10 d_M_ask_169 ?_
    refine lv_iload hx hb d_M_ask_172 (lv_at hl 5 rfl) ?_
    refine lv_iload_n hx hb d_M_ask_174 rfl (lv_at hl 2 rfl) ?_
    obtain ⟨t11, hF⟩ := gd_ex hF
    obtain ⟨b12, hF⟩ := gd_ex hF
    obtain ⟨I13, eI13, hF⟩ := bnd_ex hF
    refine ga_iast C hw t11 b12 eI13 d_M_ask_175 (fun H locs hw => ?_)
    refine lv_aload_n hx hb d_M_ask_176 rfl (lv_at hl 0 rfl) ?_
    obtain ⟨r14, hr14, hF⟩ := ob_ex hF
    refine ga_getR C hw gf_M_26 t3 hr14 d_M_ask_177 ?_
    refine lv_iload hx hb d_M_ask_180 (lv_at hl 5 rfl) ?_
    refine lv_iload_n hx hb d_M_ask_182 rfl (lv_at hl 3 rfl) ?_
    obtain ⟨t15, hF⟩ := gd_ex hF
    obtain ⟨b16, hF⟩ := gd_ex hF
    obtain ⟨I17, eI17, hF⟩ := bnd_ex hF
    refine ga_iast C hw t15 b16 eI17 d_M_ask_183 (fun H locs hw => ?_)
    refine lv_aload_n hx hb d_M_ask_184 rfl (lv_at hl 0 rfl) ?_
    obtain ⟨r18, hr18, hF⟩ := ob_ex hF
    refine ga_getR C hw gf_M_29 t3 hr18 d_M_ask_185 ?_
    refine lv_iload hx hb d_M_ask_188 (lv_at hl 5 rfl) ?_
    refine lv_iload hx hb d_M_ask_190 (lv_at hl 4 rfl) ?_
    obtain ⟨t19, hF⟩ := gd_ex hF
    obtain ⟨b20, hF⟩ := gd_ex hF
    obtain ⟨I21, eI21, hF⟩ := bnd_ex hF
    refine ga_iast C hw t19 b20 eI21 d_M_ask_192 (fun H locs hw => ?_)
    refine lv_iconst (v := 0) hx hb d_M_ask_193 (by decide) ?_
    refine lv_istore hx hb d_M_ask_194 hl (by decide) rfl (fun ls hl => ?_)
    have hl : lv_has ls 8 [(7, .int (0 : Int32)), (0, .ref l0), (1, .int l1), (2, .int l2), (3, .int l3), (4, .int l4), (6, .int l6)] := hl
    exact m_M_ask_b196 hret C gFuel _ _ _ _ _ _ hF _ _ _ (lv_sub hl [1, 2, 6, 0] rfl) hw
  · rw [if_neg h4] at hF
    refine lv_if_le (tgt := 147) hx hb d_M_ask_142 (by decide) (fun hp => absurd hp h4) (fun _ => ?_)
    refine lv_iconst (v := 0) hx hb d_M_ask_145 (by decide) ?_
    exact hret _ _ _ _ _ _ _ (Option.some.inj hF) d_M_ask_146 hw
set_option maxHeartbeats 4000000 in
set_option maxRecDepth 100000 in
theorem m_M_ask_b130 {zz : Int32 × gMI × gMJ} (hret : ∀ (pc : Nat) (ls : Array Slot) (H : Heap) (locs : List Loc) (x : Int32) (I1 : gMI) (J1 : gMJ), (x, I1, J1) = zz → decode prog_10_method_40_code pc = .ok (.ireturn, 1) → ga_W D T z L S I1 J1 s H locs → W p l e rm_M_ask s m args below meth c H locs 0 0 Q (F0 m pc ls [.int x])) (C : CallFix p m c prog_10_method_40_code 8 s args ga_ws "RankHouseModel") : ∀ (I : gMI) (J : gMJ) (s0 : Nat) (l0 : Nat) (l1 : Int32) (l2 : Int32) (l3 : Int32) (l4 : Int32) (l6 : Int32), f_M_ask_b130 S I J s0 l0 l1 l2 l3 l4 l6 = some zz → ∀ (ls : Array Slot) (H : Heap) (locs : List Loc), lv_has ls 8 [(0, .ref l0), (1, .int l1), (2, .int l2), (3, .int l3), (4, .int l4), (6, .int l6)] → ga_W D T z L S I J s H locs → W p l e rm_M_ask s m args below meth c H locs 0 0 Q (F0 m 130 ls [.ref s0]) := by
  intro I J s0 l0 l1 l2 l3 l4 l6 hF ls H locs hl hw
  have hx := C.1
  have hb := C.2.1
  rw [f_M_ask_b130] at hF
  refine lv_iconst (v := 3) hx hb d_M_ask_130 (by decide) ?_
  refine lv_goto (tgt := 135) hx hb d_M_ask_131 (by decide) ?_
  exact m_M_ask_b135 hret C _ _ _ _ _ _ _ _ _ _ hF _ _ _ hl hw
set_option maxHeartbeats 4000000 in
set_option maxRecDepth 100000 in
theorem m_M_ask_b64 {zz : Int32 × gMI × gMJ} (hret : ∀ (pc : Nat) (ls : Array Slot) (H : Heap) (locs : List Loc) (x : Int32) (I1 : gMI) (J1 : gMJ), (x, I1, J1) = zz → decode prog_10_method_40_code pc = .ok (.ireturn, 1) → ga_W D T z L S I1 J1 s H locs → W p l e rm_M_ask s m args below meth c H locs 0 0 Q (F0 m pc ls [.int x])) (C : CallFix p m c prog_10_method_40_code 8 s args ga_ws "RankHouseModel") : ∀ (n : Nat) (I : gMI) (J : gMJ) (l0 : Nat) (l1 : Int32) (l2 : Int32) (l3 : Int32) (l4 : Int32) (l5 : Int32) (l6 : Int32) (l7 : Int32), f_M_ask_b64 S n I J l0 l1 l2 l3 l4 l5 l6 l7 = some zz → ∀ (ls : Array Slot) (H : Heap) (locs : List Loc), lv_has ls 8 [(0, .ref l0), (1, .int l1), (2, .int l2), (3, .int l3), (4, .int l4), (5, .int l5), (6, .int l6), (7, .int l7)] → ga_W D T z L S I J s H locs → W p l e rm_M_ask s m args below meth c H locs 0 0 Q (F0 m 64 ls []) := by
  intro n
  induction n with
  | zero =>
    intro I J l0 l1 l2 l3 l4 l5 l6 l7 hF ls H locs hl hw
    rw [f_M_ask_b64] at hF
    cases hF
  | succ n ih =>
    intro I J l0 l1 l2 l3 l4 l5 l6 l7 hF ls H locs hl hw
    have hx := C.1
    have hb := C.2.1
    rw [f_M_ask_b64] at hF
    refine lv_iload hx hb d_M_ask_64 (lv_at hl 7 rfl) ?_
    by_cases h1 : l7 < 0
    · rw [if_pos h1] at hF
      refine lv_if_lt (tgt := 94) hx hb d_M_ask_66 (by decide) (fun _ => ?_) (fun hn => absurd h1 hn)
      refine lv_aload_n hx hb d_M_ask_94 rfl (lv_at hl 0 rfl) ?_
      refine lv_iload_n hx hb d_M_ask_95 rfl (lv_at hl 1 rfl) ?_
      obtain ⟨x2, c3, hF⟩ := ob_ex hF
      refine ga_cSi (As := [.int l1]) C hw (c_M_isLogger l D T z L c3) gs_M_118 rfl hl.1 ⟨Nat.le_of_ble_eq_true rfl, Nat.le_of_ble_eq_true rfl, rfl, rfl, Nat.le_of_ble_eq_true rfl, Nat.le_of_ble_eq_true rfl⟩ (Nat.le_of_ble_eq_true rfl) rfl d_M_ask_96 (fun H locs hw => ?_)
      by_cases h4 : x2 = 0
      · rw [if_pos h4] at hF
        refine lv_if_ne (tgt := 106) hx hb d_M_ask_99 (by decide) (fun hn => absurd h4 hn) (fun _ => ?_)
        refine lv_iconst (v := 1) hx hb d_M_ask_102 (by decide) ?_
        refine lv_goto (tgt := 135) hx hb d_M_ask_103 (by decide) ?_
        exact m_M_ask_b135 hret C _ _ _ _ _ _ _ _ _ _ hF _ _ _ (lv_sub hl [0, 1, 2, 3, 4, 6] rfl) hw
      · rw [if_neg h4] at hF
        refine lv_if_ne (tgt := 106) hx hb d_M_ask_99 (by decide) (fun _ => ?_) (fun hp => absurd hp h4)
        refine lv_iload hx hb d_M_ask_106 (lv_at hl 5 rfl) ?_
        by_cases h5 : l5 = 0
        · rw [if_pos h5] at hF
          refine lv_if_ne (tgt := 115) hx hb d_M_ask_108 (by decide) (fun hn => absurd h5 hn) (fun _ => ?_)
          refine lv_iconst (v := 2) hx hb d_M_ask_111 (by decide) ?_
          refine lv_goto (tgt := 135) hx hb d_M_ask_112 (by decide) ?_
          exact m_M_ask_b135 hret C _ _ _ _ _ _ _ _ _ _ hF _ _ _ (lv_sub hl [0, 1, 2, 3, 4, 6] rfl) hw
        · rw [if_neg h5] at hF
          refine lv_if_ne (tgt := 115) hx hb d_M_ask_108 (by decide) (fun _ => ?_) (fun hp => absurd hp h5)
          refine lv_aload_n hx hb d_M_ask_115 rfl (lv_at hl 0 rfl) ?_
          obtain ⟨t6, hF⟩ := gd_ex hF
          obtain ⟨r7, hr7, hF⟩ := ob_ex hF
          refine ga_getR C hw gf_M_7 t6 hr7 d_M_ask_116 ?_
          refine lv_iload_n hx hb d_M_ask_119 rfl (lv_at hl 1 rfl) ?_
          obtain ⟨t8, hF⟩ := gd_ex hF
          obtain ⟨b9, hF⟩ := gd_ex hF
          refine ga_zald C hw t8 b9 d_M_ask_120 ?_
          by_cases h10 : (I r7 l1.toNatClampNeg) = 0
          · rw [if_pos h10] at hF
            refine lv_if_ne (tgt := 130) hx hb d_M_ask_121 (by decide) (fun hn => absurd h10 hn) (fun _ => ?_)
            refine lv_iload hx hb d_M_ask_124 (lv_at hl 6 rfl) ?_
            refine lv_iconst (v := -1) hx hb d_M_ask_126 (by decide) ?_
            by_cases h11 : l6 = (-1 : Int32)
            · rw [if_pos h11] at hF
              refine lv_icmp_ne (tgt := 134) hx hb d_M_ask_127 (by decide) (fun hn => absurd h11 hn) (fun _ => ?_)
              exact m_M_ask_b130 hret C _ _ _ _ _ _ _ _ _ hF _ _ _ (lv_sub hl [0, 1, 2, 3, 4, 6] rfl) hw
            · rw [if_neg h11] at hF
              refine lv_icmp_ne (tgt := 134) hx hb d_M_ask_127 (by decide) (fun _ => ?_) (fun hp => absurd hp h11)
              refine lv_iconst (v := 0) hx hb d_M_ask_134 (by decide) ?_
              exact m_M_ask_b135 hret C _ _ _ _ _ _ _ _ _ _ hF _ _ _ (lv_sub hl [0, 1, 2, 3, 4, 6] rfl) hw
          · rw [if_neg h10] at hF
            refine lv_if_ne (tgt := 130) hx hb d_M_ask_121 (by decide) (fun _ => ?_) (fun hp => absurd hp h10)
            exact m_M_ask_b130 hret C _ _ _ _ _ _ _ _ _ hF _ _ _ (lv_sub hl [0, 1, 2, 3, 4, 6] rfl) hw
    · rw [if_neg h1] at hF
      refine lv_if_lt (tgt := 94) hx hb d_M_ask_66 (by decide) (fun hp => absurd hp h1) (fun _ => ?_)
      refine lv_aload_n hx hb d_M_ask_69 rfl (lv_at hl 0 rfl) ?_
      obtain ⟨t12, hF⟩ := gd_ex hF
      obtain ⟨r13, hr13, hF⟩ := ob_ex hF
      refine ga_getR C hw gf_M_20 t12 hr13 d_M_ask_70 ?_
      refine lv_iload hx hb d_M_ask_73 (lv_at hl 7 rfl) ?_
      obtain ⟨t14, hF⟩ := gd_ex hF
      obtain ⟨b15, hF⟩ := gd_ex hF
      refine ga_iald C hw t14 b15 d_M_ask_75 ?_
      by_cases h16 : (I r13 l7.toNatClampNeg) = 0
      · rw [if_pos h16] at hF
        refine lv_if_ne (tgt := 84) hx hb d_M_ask_76 (by decide) (fun hn => absurd h16 hn) (fun _ => ?_)
        refine lv_iload hx hb d_M_ask_79 (lv_at hl 7 rfl) ?_
        refine lv_goto (tgt := 86) hx hb d_M_ask_81 (by decide) ?_
        exact m_M_ask_b86 hret C _ ih _ _ _ _ _ _ _ _ _ _ hF _ _ _ (lv_sub hl [0, 1, 2, 3, 4, 5, 7] rfl) hw
      · rw [if_neg h16] at hF
        refine lv_if_ne (tgt := 84) hx hb d_M_ask_76 (by decide) (fun _ => ?_) (fun hp => absurd hp h16)
        refine lv_iload hx hb d_M_ask_84 (lv_at hl 6 rfl) ?_
        exact m_M_ask_b86 hret C _ ih _ _ _ _ _ _ _ _ _ _ hF _ _ _ (lv_sub hl [0, 1, 2, 3, 4, 5, 7] rfl) hw
set_option maxHeartbeats 4000000 in
set_option maxRecDepth 100000 in
theorem m_M_ask_b55 {zz : Int32 × gMI × gMJ} (hret : ∀ (pc : Nat) (ls : Array Slot) (H : Heap) (locs : List Loc) (x : Int32) (I1 : gMI) (J1 : gMJ), (x, I1, J1) = zz → decode prog_10_method_40_code pc = .ok (.ireturn, 1) → ga_W D T z L S I1 J1 s H locs → W p l e rm_M_ask s m args below meth c H locs 0 0 Q (F0 m pc ls [.int x])) (C : CallFix p m c prog_10_method_40_code 8 s args ga_ws "RankHouseModel") : ∀ (I : gMI) (J : gMJ) (s0 : Int32) (l0 : Nat) (l1 : Int32) (l2 : Int32) (l3 : Int32) (l4 : Int32), f_M_ask_b55 S I J s0 l0 l1 l2 l3 l4 = some zz → ∀ (ls : Array Slot) (H : Heap) (locs : List Loc), lv_has ls 8 [(0, .ref l0), (1, .int l1), (2, .int l2), (3, .int l3), (4, .int l4)] → ga_W D T z L S I J s H locs → W p l e rm_M_ask s m args below meth c H locs 0 0 Q (F0 m 55 ls [.int s0]) := by
  intro I J s0 l0 l1 l2 l3 l4 hF ls H locs hl hw
  have hx := C.1
  have hb := C.2.1
  rw [f_M_ask_b55] at hF
  refine lv_istore hx hb d_M_ask_55 hl (by decide) rfl (fun ls hl => ?_)
  have hl : lv_has ls 8 [(5, .int s0), (0, .ref l0), (1, .int l1), (2, .int l2), (3, .int l3), (4, .int l4)] := hl
  refine lv_iconst (v := -1) hx hb d_M_ask_57 (by decide) ?_
  refine lv_istore hx hb d_M_ask_58 hl (by decide) rfl (fun ls hl => ?_)
  have hl : lv_has ls 8 [(6, .int (-1 : Int32)), (5, .int s0), (0, .ref l0), (1, .int l1), (2, .int l2), (3, .int l3), (4, .int l4)] := hl
  refine lv_bipush (v := 7) hx hb d_M_ask_60 (by decide) ?_
  refine lv_istore hx hb d_M_ask_62 hl (by decide) rfl (fun ls hl => ?_)
  have hl : lv_has ls 8 [(7, .int (7 : Int32)), (6, .int (-1 : Int32)), (5, .int s0), (0, .ref l0), (1, .int l1), (2, .int l2), (3, .int l3), (4, .int l4)] := hl
  exact m_M_ask_b64 hret C gFuel _ _ _ _ _ _ _ _ _ _ hF _ _ _ (lv_sub hl [3, 4, 5, 6, 7, 2, 1, 0] rfl) hw
set_option maxHeartbeats 4000000 in
set_option maxRecDepth 100000 in
theorem m_M_ask_b50 {zz : Int32 × gMI × gMJ} (hret : ∀ (pc : Nat) (ls : Array Slot) (H : Heap) (locs : List Loc) (x : Int32) (I1 : gMI) (J1 : gMJ), (x, I1, J1) = zz → decode prog_10_method_40_code pc = .ok (.ireturn, 1) → ga_W D T z L S I1 J1 s H locs → W p l e rm_M_ask s m args below meth c H locs 0 0 Q (F0 m pc ls [.int x])) (C : CallFix p m c prog_10_method_40_code 8 s args ga_ws "RankHouseModel") : ∀ (I : gMI) (J : gMJ) (l0 : Nat) (l1 : Int32) (l2 : Int32) (l3 : Int32) (l4 : Int32), f_M_ask_b50 S I J l0 l1 l2 l3 l4 = some zz → ∀ (ls : Array Slot) (H : Heap) (locs : List Loc), lv_has ls 8 [(0, .ref l0), (1, .int l1), (2, .int l2), (3, .int l3), (4, .int l4)] → ga_W D T z L S I J s H locs → W p l e rm_M_ask s m args below meth c H locs 0 0 Q (F0 m 50 ls []) := by
  intro I J l0 l1 l2 l3 l4 hF ls H locs hl hw
  have hx := C.1
  have hb := C.2.1
  rw [f_M_ask_b50] at hF
  refine lv_iconst (v := 1) hx hb d_M_ask_50 (by decide) ?_
  refine lv_goto (tgt := 55) hx hb d_M_ask_51 (by decide) ?_
  exact m_M_ask_b55 hret C _ _ _ _ _ _ _ _ hF _ _ _ hl hw
set_option maxHeartbeats 4000000 in
set_option maxRecDepth 100000 in
theorem m_M_ask_b54 {zz : Int32 × gMI × gMJ} (hret : ∀ (pc : Nat) (ls : Array Slot) (H : Heap) (locs : List Loc) (x : Int32) (I1 : gMI) (J1 : gMJ), (x, I1, J1) = zz → decode prog_10_method_40_code pc = .ok (.ireturn, 1) → ga_W D T z L S I1 J1 s H locs → W p l e rm_M_ask s m args below meth c H locs 0 0 Q (F0 m pc ls [.int x])) (C : CallFix p m c prog_10_method_40_code 8 s args ga_ws "RankHouseModel") : ∀ (I : gMI) (J : gMJ) (l0 : Nat) (l1 : Int32) (l2 : Int32) (l3 : Int32) (l4 : Int32), f_M_ask_b54 S I J l0 l1 l2 l3 l4 = some zz → ∀ (ls : Array Slot) (H : Heap) (locs : List Loc), lv_has ls 8 [(0, .ref l0), (1, .int l1), (2, .int l2), (3, .int l3), (4, .int l4)] → ga_W D T z L S I J s H locs → W p l e rm_M_ask s m args below meth c H locs 0 0 Q (F0 m 54 ls []) := by
  intro I J l0 l1 l2 l3 l4 hF ls H locs hl hw
  have hx := C.1
  have hb := C.2.1
  rw [f_M_ask_b54] at hF
  refine lv_iconst (v := 0) hx hb d_M_ask_54 (by decide) ?_
  exact m_M_ask_b55 hret C _ _ _ _ _ _ _ _ hF _ _ _ hl hw
set_option maxHeartbeats 4000000 in
set_option maxRecDepth 100000 in
theorem m_M_ask_b34 {zz : Int32 × gMI × gMJ} (hret : ∀ (pc : Nat) (ls : Array Slot) (H : Heap) (locs : List Loc) (x : Int32) (I1 : gMI) (J1 : gMJ), (x, I1, J1) = zz → decode prog_10_method_40_code pc = .ok (.ireturn, 1) → ga_W D T z L S I1 J1 s H locs → W p l e rm_M_ask s m args below meth c H locs 0 0 Q (F0 m pc ls [.int x])) (C : CallFix p m c prog_10_method_40_code 8 s args ga_ws "RankHouseModel") : ∀ (I : gMI) (J : gMJ) (l0 : Nat) (l1 : Int32) (l2 : Int32) (l3 : Int32) (l4 : Int32), f_M_ask_b34 S I J l0 l1 l2 l3 l4 = some zz → ∀ (ls : Array Slot) (H : Heap) (locs : List Loc), lv_has ls 8 [(0, .ref l0), (1, .int l1), (2, .int l2), (3, .int l3), (4, .int l4)] → ga_W D T z L S I J s H locs → W p l e rm_M_ask s m args below meth c H locs 0 0 Q (F0 m 34 ls []) := by
  intro I J l0 l1 l2 l3 l4 hF ls H locs hl hw
  have hx := C.1
  have hb := C.2.1
  rw [f_M_ask_b34] at hF
  refine lv_iload_n hx hb d_M_ask_34 rfl (lv_at hl 2 rfl) ?_
  refine lv_iconst (v := 4) hx hb d_M_ask_35 (by decide) ?_
  by_cases h1 : l2 = (4 : Int32)
  · rw [if_pos h1] at hF
    refine lv_icmp_ne (tgt := 50) hx hb d_M_ask_36 (by decide) (fun hn => absurd h1 hn) (fun _ => ?_)
    refine lv_iload_n hx hb d_M_ask_39 rfl (lv_at hl 3 rfl) ?_
    by_cases h2 : l3 < 0
    · rw [if_pos h2] at hF
      refine lv_if_lt (tgt := 54) hx hb d_M_ask_40 (by decide) (fun _ => ?_) (fun hn => absurd h2 hn)
      exact m_M_ask_b54 hret C _ _ _ _ _ _ _ hF _ _ _ hl hw
    · rw [if_neg h2] at hF
      refine lv_if_lt (tgt := 54) hx hb d_M_ask_40 (by decide) (fun hp => absurd hp h2) (fun _ => ?_)
      refine lv_iload_n hx hb d_M_ask_43 rfl (lv_at hl 3 rfl) ?_
      refine lv_sipush (v := 1000) hx hb d_M_ask_44 (by decide) ?_
      by_cases h3 : (1000 : Int32) < l3
      · rw [if_pos h3] at hF
        refine lv_icmp_gt (tgt := 54) hx hb d_M_ask_47 (by decide) (fun _ => ?_) (fun hn => absurd h3 hn)
        exact m_M_ask_b54 hret C _ _ _ _ _ _ _ hF _ _ _ hl hw
      · rw [if_neg h3] at hF
        refine lv_icmp_gt (tgt := 54) hx hb d_M_ask_47 (by decide) (fun hp => absurd hp h3) (fun _ => ?_)
        exact m_M_ask_b50 hret C _ _ _ _ _ _ _ hF _ _ _ hl hw
  · rw [if_neg h1] at hF
    refine lv_icmp_ne (tgt := 50) hx hb d_M_ask_36 (by decide) (fun _ => ?_) (fun hp => absurd hp h1)
    exact m_M_ask_b50 hret C _ _ _ _ _ _ _ hF _ _ _ hl hw
set_option maxHeartbeats 4000000 in
set_option maxRecDepth 100000 in
theorem m_M_ask_b18 {zz : Int32 × gMI × gMJ} (hret : ∀ (pc : Nat) (ls : Array Slot) (H : Heap) (locs : List Loc) (x : Int32) (I1 : gMI) (J1 : gMJ), (x, I1, J1) = zz → decode prog_10_method_40_code pc = .ok (.ireturn, 1) → ga_W D T z L S I1 J1 s H locs → W p l e rm_M_ask s m args below meth c H locs 0 0 Q (F0 m pc ls [.int x])) (C : CallFix p m c prog_10_method_40_code 8 s args ga_ws "RankHouseModel") : ∀ (I : gMI) (J : gMJ) (l0 : Nat) (l1 : Int32) (l2 : Int32) (l3 : Int32) (l4 : Int32), f_M_ask_b18 S I J l0 l1 l2 l3 l4 = some zz → ∀ (ls : Array Slot) (H : Heap) (locs : List Loc), lv_has ls 8 [(0, .ref l0), (1, .int l1), (2, .int l2), (3, .int l3), (4, .int l4)] → ga_W D T z L S I J s H locs → W p l e rm_M_ask s m args below meth c H locs 0 0 Q (F0 m 18 ls []) := by
  intro I J l0 l1 l2 l3 l4 hF ls H locs hl hw
  have hx := C.1
  have hb := C.2.1
  rw [f_M_ask_b18] at hF
  refine lv_iload_n hx hb d_M_ask_18 rfl (lv_at hl 2 rfl) ?_
  refine lv_iconst (v := 2) hx hb d_M_ask_19 (by decide) ?_
  by_cases h1 : l2 = (2 : Int32)
  · rw [if_pos h1] at hF
    refine lv_icmp_ne (tgt := 34) hx hb d_M_ask_20 (by decide) (fun hn => absurd h1 hn) (fun _ => ?_)
    refine lv_iload_n hx hb d_M_ask_23 rfl (lv_at hl 3 rfl) ?_
    by_cases h2 : l3 < 0
    · rw [if_pos h2] at hF
      refine lv_if_lt (tgt := 54) hx hb d_M_ask_24 (by decide) (fun _ => ?_) (fun hn => absurd h2 hn)
      exact m_M_ask_b54 hret C _ _ _ _ _ _ _ hF _ _ _ hl hw
    · rw [if_neg h2] at hF
      refine lv_if_lt (tgt := 54) hx hb d_M_ask_24 (by decide) (fun hp => absurd hp h2) (fun _ => ?_)
      refine lv_iload_n hx hb d_M_ask_27 rfl (lv_at hl 3 rfl) ?_
      refine lv_sipush (v := 499) hx hb d_M_ask_28 (by decide) ?_
      by_cases h3 : (499 : Int32) < l3
      · rw [if_pos h3] at hF
        refine lv_icmp_gt (tgt := 54) hx hb d_M_ask_31 (by decide) (fun _ => ?_) (fun hn => absurd h3 hn)
        exact m_M_ask_b54 hret C _ _ _ _ _ _ _ hF _ _ _ hl hw
      · rw [if_neg h3] at hF
        refine lv_icmp_gt (tgt := 54) hx hb d_M_ask_31 (by decide) (fun hp => absurd hp h3) (fun _ => ?_)
        exact m_M_ask_b34 hret C _ _ _ _ _ _ _ hF _ _ _ hl hw
  · rw [if_neg h1] at hF
    refine lv_icmp_ne (tgt := 34) hx hb d_M_ask_20 (by decide) (fun _ => ?_) (fun hp => absurd hp h1)
    exact m_M_ask_b34 hret C _ _ _ _ _ _ _ hF _ _ _ hl hw
set_option maxHeartbeats 4000000 in
set_option maxRecDepth 100000 in
theorem c_M_ask (l : Launch) (D : va_G) (T : Nat → ClassId) (z : Nat) (L : List Nat) {S : gS} {I : gMI} {J : gMJ} {p0 : Nat} {p1 : Int32} {p2 : Int32} {p3 : Int32} {p4 : Int32} {r : Int32} {RI : gMI} {RJ : gMJ} (hF : f_M_ask S I J p0 p1 p2 p3 p4 = some (r, RI, RJ)) : ga_Mi l y_M_ask prog_10_method_40_code 8 (Option.some Jvm.ClassFile.FieldType.int) rm_M_ask [.ref p0, .int p1, .int p2, .int p3, .int p4] D T z L S I J r RI RJ := by
  refine Met.ofW (cc := prog_10_method_40_code) (maxL := 8) (ret := (Option.some Jvm.ClassFile.FieldType.int)) (by decide) rfl ?_
  intro p e s m args below meth c s₁ B hml hv
  obtain ⟨ha, hv⟩ := hv
  have hx := B.exec
  have hb := B.bytes
  have hr := B.returns
  have hts := atoms_spec (ws := .code y_M_ask prog_10_method_40_code 8 (Option.some Jvm.ClassFile.FieldType.int) :: ga_ws) B.pre
  have hown : s.vm.findClass "RankHouseModel" = some m.cls := findClass_of_methodNamed B.named
  have hlocks := B.notSynchronized
  have C : CallFix p m c prog_10_method_40_code 8 s args ga_ws "RankHouseModel" := ⟨hx, hb, hml, hown, fun w h => hts w (List.mem_cons_of_mem _ h)⟩
  have hw := ga_start hv
  have hl := lv_entry ([.ref p0, .int p1, .int p2, .int p3, .int p4]) (n := 8) (Nat.le_of_ble_eq_true rfl)
  rw [show entryFrame m args 8 = entryFrame m ([.ref p0, .int p1, .int p2, .int p3, .int p4] : List Value).toArray 8 by rw [ha], lg_entry_eq]
  generalize (lg_sl ([.ref p0, .int p1, .int p2, .int p3, .int p4]) ++ List.replicate (8 - (lg_sl ([.ref p0, .int p1, .int p2, .int p3, .int p4])).length) Slot.unset).toArray = ls at hl ⊢
  have hl : lv_has ls 8 [(0, .ref p0), (1, .int p1), (2, .int p2), (3, .int p3), (4, .int p4)] := hl
  have key : ∀ Q : State → Prop, (∀ (pc : Nat) (ls : Array Slot) (H : Heap) (locs : List Loc) (x : Int32) (I1 : gMI) (J1 : gMJ), (x, I1, J1) = (r, RI, RJ) → decode prog_10_method_40_code pc = .ok (.ireturn, 1) → ga_W D T z L S I1 J1 s H locs → W p l e rm_M_ask s m args below meth c H locs 0 0 Q (F0 m pc ls [.int x])) → W p l e rm_M_ask s m args below meth c s.heap [] 0 0 Q (F0 m 0 ls []) := by
    intro Q hret
    rw [f_M_ask] at hF
    refine lv_iload_n hx hb d_M_ask_0 rfl (lv_at hl 2 rfl) ?_
    by_cases h1 : p2 < 0
    · rw [if_pos h1] at hF
      refine lv_if_lt (tgt := 54) hx hb d_M_ask_1 (by decide) (fun _ => ?_) (fun hn => absurd h1 hn)
      exact m_M_ask_b54 hret C _ _ _ _ _ _ _ hF _ _ _ hl hw
    · rw [if_neg h1] at hF
      refine lv_if_lt (tgt := 54) hx hb d_M_ask_1 (by decide) (fun hp => absurd hp h1) (fun _ => ?_)
      refine lv_iload_n hx hb d_M_ask_4 rfl (lv_at hl 2 rfl) ?_
      refine lv_iconst (v := 4) hx hb d_M_ask_5 (by decide) ?_
      by_cases h2 : (4 : Int32) < p2
      · rw [if_pos h2] at hF
        refine lv_icmp_gt (tgt := 54) hx hb d_M_ask_6 (by decide) (fun _ => ?_) (fun hn => absurd h2 hn)
        exact m_M_ask_b54 hret C _ _ _ _ _ _ _ hF _ _ _ hl hw
      · rw [if_neg h2] at hF
        refine lv_icmp_gt (tgt := 54) hx hb d_M_ask_6 (by decide) (fun hp => absurd hp h2) (fun _ => ?_)
        refine lv_iload_n hx hb d_M_ask_9 rfl (lv_at hl 2 rfl) ?_
        by_cases h3 : p2 = 0
        · rw [if_pos h3] at hF
          refine lv_if_ne (tgt := 18) hx hb d_M_ask_10 (by decide) (fun hn => absurd h3 hn) (fun _ => ?_)
          refine lv_iload_n hx hb d_M_ask_13 rfl (lv_at hl 3 rfl) ?_
          refine lv_iconst (v := 1) hx hb d_M_ask_14 (by decide) ?_
          by_cases h4 : p3 < (1 : Int32)
          · rw [if_pos h4] at hF
            refine lv_icmp_lt (tgt := 54) hx hb d_M_ask_15 (by decide) (fun _ => ?_) (fun hn => absurd h4 hn)
            exact m_M_ask_b54 hret C _ _ _ _ _ _ _ hF _ _ _ hl hw
          · rw [if_neg h4] at hF
            refine lv_icmp_lt (tgt := 54) hx hb d_M_ask_15 (by decide) (fun hp => absurd hp h4) (fun _ => ?_)
            exact m_M_ask_b18 hret C _ _ _ _ _ _ _ hF _ _ _ hl hw
        · rw [if_neg h3] at hF
          refine lv_if_ne (tgt := 18) hx hb d_M_ask_10 (by decide) (fun _ => ?_) (fun hp => absurd hp h3)
          exact m_M_ask_b18 hret C _ _ _ _ _ _ _ hF _ _ _ hl hw
  refine key _ (fun pc ls H locs x I1 J1 he hd hw => ?_)
  · cases he
    exact W.iret hx hb hr (fun t ht _ => ⟨⟨_, (), rfl, rfl, ga_o hw ht⟩, hw.2.2.2.1.F ht⟩) hw.2.2.2.1.2.2 hd
set_option maxHeartbeats 4000000 in
set_option maxRecDepth 100000 in
theorem m_M_resend_b108 {zz : Int32 × gMI × gMJ} (hret : ∀ (pc : Nat) (ls : Array Slot) (H : Heap) (locs : List Loc) (x : Int32) (I1 : gMI) (J1 : gMJ), (x, I1, J1) = zz → decode prog_10_method_42_code pc = .ok (.ireturn, 1) → ga_W D T z L S I1 J1 s H locs → W p l e rm_M_resend s m args below meth c H locs 0 0 Q (F0 m pc ls [.int x])) (C : CallFix p m c prog_10_method_42_code 5 s args ga_ws "RankHouseModel") (k52 : gMI → gMJ → Nat → Int32 → Int32 → Int32 → Int32 → Option (Int32 × gMI × gMJ)) (hk52 : ∀ (I : gMI) (J : gMJ) (l0 : Nat) (l1 : Int32) (l2 : Int32) (l3 : Int32) (l4 : Int32), k52 I J l0 l1 l2 l3 l4 = some zz → ∀ (ls : Array Slot) (H : Heap) (locs : List Loc), lv_has ls 5 [(0, .ref l0), (1, .int l1), (2, .int l2), (3, .int l3), (4, .int l4)] → ga_W D T z L S I J s H locs → W p l e rm_M_resend s m args below meth c H locs 0 0 Q (F0 m 52 ls [])) : ∀ (I : gMI) (J : gMJ) (l0 : Nat) (l1 : Int32) (l2 : Int32) (l3 : Int32) (l4 : Int32), f_M_resend_b108 S k52 I J l0 l1 l2 l3 l4 = some zz → ∀ (ls : Array Slot) (H : Heap) (locs : List Loc), lv_has ls 5 [(0, .ref l0), (1, .int l1), (2, .int l2), (3, .int l3), (4, .int l4)] → ga_W D T z L S I J s H locs → W p l e rm_M_resend s m args below meth c H locs 0 0 Q (F0 m 108 ls []) := by
  intro I J l0 l1 l2 l3 l4 hF ls H locs hl hw
  have hx := C.1
  have hb := C.2.1
  rw [f_M_resend_b108] at hF
  obtain ⟨v1, ev1, hF⟩ := bnd_ex hF
  refine lv_iinc (k := 4) (v := v1) hx hb d_M_resend_108 hl rfl (by rw [ev1]; rfl) (by decide) rfl (fun ls hl => ?_)
  have hl : lv_has ls 5 [(4, .int v1), (0, .ref l0), (1, .int l1), (2, .int l2), (3, .int l3)] := hl
  refine lv_goto (tgt := 52) hx hb d_M_resend_111 (by decide) ?_
  exact hk52 _ _ _ _ _ _ _ hF _ _ _ (lv_sub hl [1, 2, 3, 4, 0] rfl) hw
set_option maxHeartbeats 4000000 in
set_option maxRecDepth 100000 in
theorem m_M_resend_b52 {zz : Int32 × gMI × gMJ} (hret : ∀ (pc : Nat) (ls : Array Slot) (H : Heap) (locs : List Loc) (x : Int32) (I1 : gMI) (J1 : gMJ), (x, I1, J1) = zz → decode prog_10_method_42_code pc = .ok (.ireturn, 1) → ga_W D T z L S I1 J1 s H locs → W p l e rm_M_resend s m args below meth c H locs 0 0 Q (F0 m pc ls [.int x])) (C : CallFix p m c prog_10_method_42_code 5 s args ga_ws "RankHouseModel") : ∀ (n : Nat) (I : gMI) (J : gMJ) (l0 : Nat) (l1 : Int32) (l2 : Int32) (l3 : Int32) (l4 : Int32), f_M_resend_b52 S n I J l0 l1 l2 l3 l4 = some zz → ∀ (ls : Array Slot) (H : Heap) (locs : List Loc), lv_has ls 5 [(0, .ref l0), (1, .int l1), (2, .int l2), (3, .int l3), (4, .int l4)] → ga_W D T z L S I J s H locs → W p l e rm_M_resend s m args below meth c H locs 0 0 Q (F0 m 52 ls []) := by
  intro n
  induction n with
  | zero =>
    intro I J l0 l1 l2 l3 l4 hF ls H locs hl hw
    rw [f_M_resend_b52] at hF
    cases hF
  | succ n ih =>
    intro I J l0 l1 l2 l3 l4 hF ls H locs hl hw
    have hx := C.1
    have hb := C.2.1
    rw [f_M_resend_b52] at hF
    refine lv_iload hx hb d_M_resend_52 (lv_at hl 4 rfl) ?_
    refine lv_bipush (v := 8) hx hb d_M_resend_54 (by decide) ?_
    by_cases h1 : (8 : Int32) ≤ l4
    · rw [if_pos h1] at hF
      refine lv_icmp_ge (tgt := 114) hx hb d_M_resend_56 (by decide) (fun _ => ?_) (fun hn => absurd h1 hn)
      refine lv_iload_n hx hb d_M_resend_114 rfl (lv_at hl 3 rfl) ?_
      exact hret _ _ _ _ _ _ _ (Option.some.inj hF) d_M_resend_115 hw
    · rw [if_neg h1] at hF
      refine lv_icmp_ge (tgt := 114) hx hb d_M_resend_56 (by decide) (fun hp => absurd hp h1) (fun _ => ?_)
      refine lv_aload_n hx hb d_M_resend_59 rfl (lv_at hl 0 rfl) ?_
      obtain ⟨t2, hF⟩ := gd_ex hF
      obtain ⟨r3, hr3, hF⟩ := ob_ex hF
      refine ga_getR C hw gf_M_87 t2 hr3 d_M_resend_60 ?_
      refine lv_bipush (v := 8) hx hb d_M_resend_63 (by decide) ?_
      refine lv_iload_n hx hb d_M_resend_65 rfl (lv_at hl 2 rfl) ?_
      refine lv_imul hx hb d_M_resend_66 ?_
      refine lv_iload hx hb d_M_resend_67 (lv_at hl 4 rfl) ?_
      refine lv_iadd hx hb d_M_resend_69 ?_
      obtain ⟨t4, hF⟩ := gd_ex hF
      obtain ⟨b5, hF⟩ := gd_ex hF
      refine ga_zald C hw t4 b5 d_M_resend_70 ?_
      by_cases h6 : (I r3 (((8 : Int32) * l2) + l4).toNatClampNeg) = 0
      · rw [if_pos h6] at hF
        refine lv_if_ne (tgt := 108) hx hb d_M_resend_71 (by decide) (fun hn => absurd h6 hn) (fun _ => ?_)
        refine lv_aload_n hx hb d_M_resend_74 rfl (lv_at hl 0 rfl) ?_
        refine lv_aload_n hx hb d_M_resend_75 rfl (lv_at hl 0 rfl) ?_
        obtain ⟨r7, hr7, hF⟩ := ob_ex hF
        refine ga_getR C hw gf_M_53 t2 hr7 d_M_resend_76 ?_
        refine lv_iload_n hx hb d_M_resend_79 rfl (lv_at hl 2 rfl) ?_
        obtain ⟨t8, hF⟩ := gd_ex hF
        obtain ⟨b9, hF⟩ := gd_ex hF
        refine ga_iald C hw t8 b9 d_M_resend_80 ?_
        refine lv_iload_n hx hb d_M_resend_81 rfl (lv_at hl 1 rfl) ?_
        refine lv_aload_n hx hb d_M_resend_82 rfl (lv_at hl 0 rfl) ?_
        obtain ⟨r10, hr10, hF⟩ := ob_ex hF
        refine ga_getR C hw gf_M_35 t2 hr10 d_M_resend_83 ?_
        refine lv_iload_n hx hb d_M_resend_86 rfl (lv_at hl 2 rfl) ?_
        obtain ⟨t11, hF⟩ := gd_ex hF
        obtain ⟨b12, hF⟩ := gd_ex hF
        refine ga_iald C hw t11 b12 d_M_resend_87 ?_
        refine lv_aload_n hx hb d_M_resend_88 rfl (lv_at hl 0 rfl) ?_
        obtain ⟨r13, hr13, hF⟩ := ob_ex hF
        refine ga_getR C hw gf_M_38 t2 hr13 d_M_resend_89 ?_
        refine lv_iload_n hx hb d_M_resend_92 rfl (lv_at hl 2 rfl) ?_
        obtain ⟨t14, hF⟩ := gd_ex hF
        obtain ⟨b15, hF⟩ := gd_ex hF
        refine ga_iald C hw t14 b15 d_M_resend_93 ?_
        refine lv_aload_n hx hb d_M_resend_94 rfl (lv_at hl 0 rfl) ?_
        obtain ⟨r16, hr16, hF⟩ := ob_ex hF
        refine ga_getR C hw gf_M_32 t2 hr16 d_M_resend_95 ?_
        refine lv_iload_n hx hb d_M_resend_98 rfl (lv_at hl 2 rfl) ?_
        obtain ⟨t17, hF⟩ := gd_ex hF
        obtain ⟨b18, hF⟩ := gd_ex hF
        refine ga_iald C hw t17 b18 d_M_resend_99 ?_
        refine lv_iload hx hb d_M_resend_100 (lv_at hl 4 rfl) ?_
        obtain ⟨I19, J20, c21, hF⟩ := bd2_ex hF
        refine ga_cVv (As := [.int (I r7 l2.toNatClampNeg), .int l1, .int (I r10 l2.toNatClampNeg), .int (I r13 l2.toNatClampNeg), .int (I r16 l2.toNatClampNeg), .int l4]) C hw (c_M_send l D T z L c21) gy_M_146 t2 rfl hl.1 ⟨Nat.le_of_ble_eq_true rfl, Nat.le_of_ble_eq_true rfl, rfl, rfl, Nat.le_of_ble_eq_true rfl, Nat.le_of_ble_eq_true rfl⟩ (Nat.le_of_ble_eq_true rfl) rfl d_M_resend_102 (fun H locs hw => ?_)
        obtain ⟨v22, ev22, hF⟩ := bnd_ex hF
        refine lv_iinc (k := 3) (v := v22) hx hb d_M_resend_105 hl rfl (by rw [ev22]; rfl) (by decide) rfl (fun ls hl => ?_)
        have hl : lv_has ls 5 [(3, .int v22), (0, .ref l0), (1, .int l1), (2, .int l2), (4, .int l4)] := hl
        exact m_M_resend_b108 hret C _ ih _ _ _ _ _ _ _ hF _ _ _ (lv_sub hl [1, 2, 3, 0, 4] rfl) hw
      · rw [if_neg h6] at hF
        refine lv_if_ne (tgt := 108) hx hb d_M_resend_71 (by decide) (fun _ => ?_) (fun hp => absurd hp h6)
        exact m_M_resend_b108 hret C _ ih _ _ _ _ _ _ _ hF _ _ _ hl hw
end WALK
