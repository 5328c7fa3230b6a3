section WALK
variable {p : Program} {l : Launch} {e : Env} {s : State} {m : MethodId} {args : Array Value} {below : List Frame} {meth : Method} {c : Code} {Q : State → Prop} {D : va_G} {T : Nat → ClassId} {z : Nat} {L : List Nat} {S : gS}
set_option maxHeartbeats 4000000 in
set_option maxRecDepth 100000 in
theorem m_Replies_clear_b2 {zz : gMI × gMJ} (hret : ∀ (pc : Nat) (ls : Array Slot) (H : Heap) (locs : List Loc) (I1 : gMI) (J1 : gMJ), (I1, J1) = zz → decode prog_6_method_2_code pc = .ok (.return_, 1) → ga_W D T z L S I1 J1 s H locs → W p l e rm_Replies_clear s m args below meth c H locs 0 0 Q (F0 m pc ls [])) (C : CallFix p m c prog_6_method_2_code 2 s args ga_ws "RankHouse$Replies") : ∀ (n : Nat) (I : gMI) (J : gMJ) (l0 : Nat) (l1 : Int32), f_Replies_clear_b2 S n I J l0 l1 = some zz → ∀ (ls : Array Slot) (H : Heap) (locs : List Loc), lv_has ls 2 [(0, .ref l0), (1, .int l1)] → ga_W D T z L S I J s H locs → W p l e rm_Replies_clear s m args below meth c H locs 0 0 Q (F0 m 2 ls []) := by
  intro n
  induction n with
  | zero =>
    intro I J l0 l1 hF ls H locs hl hw
    rw [f_Replies_clear_b2] at hF
    cases hF
  | succ n ih =>
    intro I J l0 l1 hF ls H locs hl hw
    have hx := C.1
    have hb := C.2.1
    rw [f_Replies_clear_b2] at hF
    refine lv_iload_n hx hb d_Replies_clear_2 rfl (lv_at hl 1 rfl) ?_
    refine lv_bipush (v := 8) hx hb d_Replies_clear_3 (by decide) ?_
    by_cases h1 : (8 : Int32) ≤ l1
    · rw [if_pos h1] at hF
      refine lv_icmp_ge (tgt := 21) hx hb d_Replies_clear_5 (by decide) (fun _ => ?_) (fun hn => absurd h1 hn)
      refine lv_aload_n hx hb d_Replies_clear_21 rfl (lv_at hl 0 rfl) ?_
      obtain ⟨t2, hF⟩ := gd_ex hF
      obtain ⟨r3, hr3, hF⟩ := ob_ex hF
      refine ga_getR C hw gf_Replies_25 t2 hr3 d_Replies_clear_22 ?_
      refine lv_iconst (v := 0) hx hb d_Replies_clear_25 (by decide) ?_
      obtain ⟨t4, hF⟩ := gd_ex hF
      obtain ⟨I5, eI5, hF⟩ := bnd_ex hF
      refine ga_putI C hw gp_Replies_29 t4 rfl rfl eI5 d_Replies_clear_26 (fun H locs hw => ?_)
      refine lv_aload_n hx hb d_Replies_clear_29 rfl (lv_at hl 0 rfl) ?_
      refine lv_lconst (v := 0) hx hb d_Replies_clear_30 (by decide) ?_
      obtain ⟨J6, eJ6, hF⟩ := bnd_ex hF
      refine ga_putJ C hw gp_Replies_33 t2 eJ6 d_Replies_clear_31 (fun H locs hw => ?_)
      refine lv_aload_n hx hb d_Replies_clear_34 rfl (lv_at hl 0 rfl) ?_
      refine lv_iconst (v := 0) hx hb d_Replies_clear_35 (by decide) ?_
      obtain ⟨I7, eI7, hF⟩ := bnd_ex hF
      refine ga_putI C hw gp_Replies_37 t2 rfl rfl eI7 d_Replies_clear_36 (fun H locs hw => ?_)
      exact hret _ _ _ _ _ _ (Option.some.inj hF) d_Replies_clear_39 hw
    · rw [if_neg h1] at hF
      refine lv_icmp_ge (tgt := 21) hx hb d_Replies_clear_5 (by decide) (fun hp => absurd hp h1) (fun _ => ?_)
      refine lv_aload_n hx hb d_Replies_clear_8 rfl (lv_at hl 0 rfl) ?_
      obtain ⟨t8, hF⟩ := gd_ex hF
      obtain ⟨r9, hr9, hF⟩ := ob_ex hF
      refine ga_getR C hw gf_Replies_9 t8 hr9 d_Replies_clear_9 ?_
      refine lv_iload_n hx hb d_Replies_clear_12 rfl (lv_at hl 1 rfl) ?_
      refine lv_iconst (v := 0) hx hb d_Replies_clear_13 (by decide) ?_
      obtain ⟨t10, hF⟩ := gd_ex hF
      obtain ⟨b11, hF⟩ := gd_ex hF
      obtain ⟨I12, eI12, hF⟩ := bnd_ex hF
      refine ga_zast C hw t10 b11 rfl eI12 d_Replies_clear_14 (fun H locs hw => ?_)
      obtain ⟨v13, ev13, hF⟩ := bnd_ex hF
      refine lv_iinc (k := 1) (v := v13) hx hb d_Replies_clear_15 hl rfl (by rw [ev13]; rfl) (by decide) rfl (fun ls hl => ?_)
      have hl : lv_has ls 2 [(1, .int v13), (0, .ref l0)] := hl
      refine lv_goto (tgt := 2) hx hb d_Replies_clear_18 (by decide) ?_
      exact ih _ _ _ _ hF _ _ _ (lv_sub hl [1, 0] rfl) hw
set_option maxHeartbeats 4000000 in
set_option maxRecDepth 100000 in
theorem c_Replies_clear (l : Launch) (D : va_G) (T : Nat → ClassId) (z : Nat) (L : List Nat) {S : gS} {I : gMI} {J : gMJ} {p0 : Nat} {RI : gMI} {RJ : gMJ} (hF : f_Replies_clear S I J p0 = some (RI, RJ)) : ga_Mv l y_Replies_clear prog_6_method_2_code 2 (Option.none : Option Jvm.ClassFile.FieldType) rm_Replies_clear [.ref p0] D T z L S I J RI RJ := by
  refine Met.ofW (cc := prog_6_method_2_code) (maxL := 2) (ret := (Option.none : Option Jvm.ClassFile.FieldType)) (by decide) rfl ?_
  intro p e s m args below meth c s₁ B hml hv
  obtain ⟨ha, hv⟩ := hv
  have hx := B.exec
  have hb := B.bytes
  have hr := B.returns
  have hts := atoms_spec (ws := .code y_Replies_clear prog_6_method_2_code 2 (Option.none : Option Jvm.ClassFile.FieldType) :: ga_ws) B.pre
  have hown : s.vm.findClass "RankHouse$Replies" = some m.cls := findClass_of_methodNamed B.named
  have hlocks := B.notSynchronized
  have C : CallFix p m c prog_6_method_2_code 2 s args ga_ws "RankHouse$Replies" := ⟨hx, hb, hml, hown, fun w h => hts w (List.mem_cons_of_mem _ h)⟩
  have hw := ga_start hv
  have hl := lv_entry ([.ref p0]) (n := 2) (Nat.le_of_ble_eq_true rfl)
  rw [show entryFrame m args 2 = entryFrame m ([.ref p0] : List Value).toArray 2 by rw [ha], lg_entry_eq]
  generalize (lg_sl ([.ref p0]) ++ List.replicate (2 - (lg_sl ([.ref p0])).length) Slot.unset).toArray = ls at hl ⊢
  have hl : lv_has ls 2 [(0, .ref p0)] := hl
  have key : ∀ Q : State → Prop, (∀ (pc : Nat) (ls : Array Slot) (H : Heap) (locs : List Loc) (I1 : gMI) (J1 : gMJ), (I1, J1) = (RI, RJ) → decode prog_6_method_2_code pc = .ok (.return_, 1) → ga_W D T z L S I1 J1 s H locs → W p l e rm_Replies_clear s m args below meth c H locs 0 0 Q (F0 m pc ls [])) → W p l e rm_Replies_clear s m args below meth c s.heap [] 0 0 Q (F0 m 0 ls []) := by
    intro Q hret
    rw [f_Replies_clear] at hF
    refine lv_iconst (v := 0) hx hb d_Replies_clear_0 (by decide) ?_
    refine lv_istore_n hx hb d_Replies_clear_1 rfl hl (by decide) rfl (fun ls hl => ?_)
    have hl : lv_has ls 2 [(1, .int (0 : Int32)), (0, .ref p0)] := hl
    exact m_Replies_clear_b2 hret C gFuel _ _ _ _ hF _ _ _ (lv_sub hl [1, 0] rfl) hw
  refine key _ (fun pc ls H locs I1 J1 he hd hw => ?_)
  · cases he
    exact W.vret hx hb hr (fun t ht _ => ⟨⟨(), rfl, trivial, ga_o hw ht⟩, hw.2.2.2.1.F ht⟩) hw.2.2.2.1.2.2 hd
set_option maxHeartbeats 4000000 in
set_option maxRecDepth 100000 in
theorem c_Post_at (l : Launch) (D : va_G) (T : Nat → ClassId) (z : Nat) (L : List Nat) {S : gS} {I : gMI} {J : gMJ} {p0 : Nat} {p1 : Int32} {r : Option Nat} (hF : f_Post_at S I J p0 p1 = some (r)) : ga_Mq l y_Post_at prog_4_method_2_code 2 (Option.some (Jvm.ClassFile.FieldType.object "RankHouse$Letter")) rm_Post_at [.ref p0, .int p1] D T z L S I J r I J := by
  refine Met.ofW (cc := prog_4_method_2_code) (maxL := 2) (ret := (Option.some (Jvm.ClassFile.FieldType.object "RankHouse$Letter"))) (by decide) rfl ?_
  intro p e s m args below meth c s₁ B hml hv
  obtain ⟨ha, hv⟩ := hv
  have hx := B.exec
  have hb := B.bytes
  have hr := B.returns
  have hts := atoms_spec (ws := .code y_Post_at prog_4_method_2_code 2 (Option.some (Jvm.ClassFile.FieldType.object "RankHouse$Letter")) :: ga_ws) B.pre
  have hown : s.vm.findClass "RankHouse$Post" = some m.cls := findClass_of_methodNamed B.named
  have hlocks := B.notSynchronized
  have C : CallFix p m c prog_4_method_2_code 2 s args ga_ws "RankHouse$Post" := ⟨hx, hb, hml, hown, fun w h => hts w (List.mem_cons_of_mem _ h)⟩
  have hw := ga_start hv
  have hl := lv_entry ([.ref p0, .int p1]) (n := 2) (Nat.le_of_ble_eq_true rfl)
  rw [show entryFrame m args 2 = entryFrame m ([.ref p0, .int p1] : List Value).toArray 2 by rw [ha], lg_entry_eq]
  generalize (lg_sl ([.ref p0, .int p1]) ++ List.replicate (2 - (lg_sl ([.ref p0, .int p1])).length) Slot.unset).toArray = ls at hl ⊢
  have hl : lv_has ls 2 [(0, .ref p0), (1, .int p1)] := hl
  have key : ∀ Q : State → Prop, (∀ (pc : Nat) (ls : Array Slot) (H : Heap) (locs : List Loc) (x : Option Nat), (x) = (r) → decode prog_4_method_2_code pc = .ok (.areturn, 1) → ga_W D T z L S I J s H locs → W p l e rm_Post_at s m args below meth c H locs 0 0 Q (F0 m pc ls [va_rf x])) → W p l e rm_Post_at s m args below meth c s.heap [] 0 0 Q (F0 m 0 ls []) := by
    intro Q hret
    rw [f_Post_at] at hF
    refine lv_aload_n hx hb d_Post_at_0 rfl (lv_at hl 0 rfl) ?_
    obtain ⟨t1, hF⟩ := gd_ex hF
    obtain ⟨r2, hr2, hF⟩ := ob_ex hF
    refine ga_getR C hw gf_Post_11 t1 hr2 d_Post_at_1 ?_
    refine lv_aload_n hx hb d_Post_at_4 rfl (lv_at hl 0 rfl) ?_
    obtain ⟨r3, hr3, hF⟩ := ob_ex hF
    refine ga_getR C hw gf_Post_17 t1 hr3 d_Post_at_5 ?_
    refine lv_iload_n hx hb d_Post_at_8 rfl (lv_at hl 1 rfl) ?_
    obtain ⟨t4, hF⟩ := gd_ex hF
    obtain ⟨b5, hF⟩ := gd_ex hF
    refine ga_iald C hw t4 b5 d_Post_at_9 ?_
    obtain ⟨t6, hF⟩ := gd_ex hF
    obtain ⟨b7, hF⟩ := gd_ex hF
    obtain ⟨r8, hr8, hF⟩ := ob_ex hF
    refine ga_rald C hw t6 (by decide) rfl rfl b7 hr8 d_Post_at_10 ?_
    exact hret _ _ _ _ _ (Option.some.inj hF) d_Post_at_11 hw
  refine key _ (fun pc ls H locs x he hd hw => ?_)
  · cases he
    exact W.aret (v := va_rf _) hx hb hr (Or.inl ⟨_, rfl⟩) (ga_rfq _) (fun t ht _ => ⟨⟨_, (), rfl, rfl, ga_o hw ht⟩, hw.2.2.2.1.F ht⟩) hw.2.2.2.1.2.2 hd
set_option maxHeartbeats 4000000 in
set_option maxRecDepth 100000 in
theorem c_Post_send (l : Launch) (D : va_G) (T : Nat → ClassId) (z : Nat) (L : List Nat) {S : gS} {I : gMI} {J : gMJ} {p0 : Nat} {r : Option Nat} {RI : gMI} (hF : f_Post_send S I J p0 = some (r, RI)) : ga_Mq l y_Post_send prog_4_method_3_code 1 (Option.some (Jvm.ClassFile.FieldType.object "RankHouse$Letter")) rm_Post_send [.ref p0] D T z L S I J r RI J := by
  refine Met.ofW (cc := prog_4_method_3_code) (maxL := 1) (ret := (Option.some (Jvm.ClassFile.FieldType.object "RankHouse$Letter"))) (by decide) rfl ?_
  intro p e s m args below meth c s₁ B hml hv
  obtain ⟨ha, hv⟩ := hv
  have hx := B.exec
  have hb := B.bytes
  have hr := B.returns
  have hts := atoms_spec (ws := .code y_Post_send prog_4_method_3_code 1 (Option.some (Jvm.ClassFile.FieldType.object "RankHouse$Letter")) :: ga_ws) B.pre
  have hown : s.vm.findClass "RankHouse$Post" = some m.cls := findClass_of_methodNamed B.named
  have hlocks := B.notSynchronized
  have C : CallFix p m c prog_4_method_3_code 1 s args ga_ws "RankHouse$Post" := ⟨hx, hb, hml, hown, fun w h => hts w (List.mem_cons_of_mem _ h)⟩
  have hw := ga_start hv
  have hl := lv_entry ([.ref p0]) (n := 1) (Nat.le_of_ble_eq_true rfl)
  rw [show entryFrame m args 1 = entryFrame m ([.ref p0] : List Value).toArray 1 by rw [ha], lg_entry_eq]
  generalize (lg_sl ([.ref p0]) ++ List.replicate (1 - (lg_sl ([.ref p0])).length) Slot.unset).toArray = ls at hl ⊢
  have hl : lv_has ls 1 [(0, .ref p0)] := hl
  have key : ∀ Q : State → Prop, (∀ (pc : Nat) (ls : Array Slot) (H : Heap) (locs : List Loc) (x : Option Nat) (I1 : gMI), (x, I1) = (r, RI) → decode prog_4_method_3_code pc = .ok (.areturn, 1) → ga_W D T z L S I1 J s H locs → W p l e rm_Post_send s m args below meth c H locs 0 0 Q (F0 m pc ls [va_rf x])) → W p l e rm_Post_send s m args below meth c s.heap [] 0 0 Q (F0 m 0 ls []) := by
    intro Q hret
    rw [f_Post_send] at hF
    refine lv_aload_n hx hb d_Post_send_0 rfl (lv_at hl 0 rfl) ?_
    obtain ⟨t1, hF⟩ := gd_ex hF
    refine ga_getI C hw gf_Post_22 t1 d_Post_send_1 ?_
    refine lv_bipush (v := 96) hx hb d_Post_send_4 (by decide) ?_
    by_cases h2 : (I p0 2) < (96 : Int32)
    · rw [if_pos h2] at hF
      refine lv_icmp_lt (tgt := 11) hx hb d_Post_send_6 (by decide) (fun _ => ?_) (fun hn => absurd h2 hn)
      refine lv_aload_n hx hb d_Post_send_11 rfl (lv_at hl 0 rfl) ?_
      refine lv_dup hx hb d_Post_send_12 rfl ?_
      refine ga_getI C hw gf_Post_22 t1 d_Post_send_13 ?_
      refine lv_iconst (v := 1) hx hb d_Post_send_16 (by decide) ?_
      refine lv_iadd hx hb d_Post_send_17 ?_
      obtain ⟨I3, eI3, hF⟩ := bnd_ex hF
      refine ga_putI C hw gp_Post_22 t1 rfl rfl eI3 d_Post_send_18 (fun H locs hw => ?_)
      refine lv_aload_n hx hb d_Post_send_21 rfl (lv_at hl 0 rfl) ?_
      refine lv_aload_n hx hb d_Post_send_22 rfl (lv_at hl 0 rfl) ?_
      refine ga_getI C hw gf_Post_22 t1 d_Post_send_23 ?_
      refine lv_iconst (v := 1) hx hb d_Post_send_26 (by decide) ?_
      refine lv_isub hx hb d_Post_send_27 ?_
      obtain ⟨q4, c5, hF⟩ := ob_ex hF
      refine ga_cVq (As := [.int ((I3 p0 2) - (1 : Int32))]) C hw (c_Post_at l D T z L c5) gy_Post_26 t1 rfl hl.1 ⟨Nat.le_of_ble_eq_true rfl, Nat.le_of_ble_eq_true rfl, rfl, rfl, Nat.le_of_ble_eq_true rfl, Nat.le_of_ble_eq_true rfl⟩ (Nat.le_of_ble_eq_true rfl) rfl d_Post_send_28 (fun H locs hw => ?_)
      obtain ⟨r6, h7, hG⟩ := ob_ex hF
      clear hF
      subst h7
      have hF := hG
      exact hret _ _ _ _ _ _ (Option.some.inj hF) d_Post_send_31 hw
    · rw [if_neg h2] at hF
      refine lv_icmp_lt (tgt := 11) hx hb d_Post_send_6 (by decide) (fun hp => absurd hp h2) (fun _ => ?_)
      refine lv_null hx hb d_Post_send_9 ?_
      exact hret _ _ _ _ _ _ (Option.some.inj hF) d_Post_send_10 hw
  refine key _ (fun pc ls H locs x I1 he hd hw => ?_)
  · cases he
    exact W.aret (v := va_rf _) hx hb hr (Or.inl ⟨_, rfl⟩) (ga_rfq _) (fun t ht _ => ⟨⟨_, (), rfl, rfl, ga_o hw ht⟩, hw.2.2.2.1.F ht⟩) hw.2.2.2.1.2.2 hd
set_option maxHeartbeats 4000000 in
set_option maxRecDepth 100000 in
theorem c_Post_takeOut (l : Launch) (D : va_G) (T : Nat → ClassId) (z : Nat) (L : List Nat) {S : gS} {I : gMI} {J : gMJ} {p0 : Nat} {p1 : Int32} {r : Option Nat} {RI : gMI} (hF : f_Post_takeOut S I J p0 p1 = some (r, RI)) : ga_Mq l y_Post_takeOut prog_4_method_4_code 3 (Option.some (Jvm.ClassFile.FieldType.object "RankHouse$Letter")) rm_Post_takeOut [.ref p0, .int p1] D T z L S I J r RI J := by
  refine Met.ofW (cc := prog_4_method_4_code) (maxL := 3) (ret := (Option.some (Jvm.ClassFile.FieldType.object "RankHouse$Letter"))) (by decide) rfl ?_
  intro p e s m args below meth c s₁ B hml hv
  obtain ⟨ha, hv⟩ := hv
  have hx := B.exec
  have hb := B.bytes
  have hr := B.returns
  have hts := atoms_spec (ws := .code y_Post_takeOut prog_4_method_4_code 3 (Option.some (Jvm.ClassFile.FieldType.object "RankHouse$Letter")) :: ga_ws) B.pre
  have hown : s.vm.findClass "RankHouse$Post" = some m.cls := findClass_of_methodNamed B.named
  have hlocks := B.notSynchronized
  have C : CallFix p m c prog_4_method_4_code 3 s args ga_ws "RankHouse$Post" := ⟨hx, hb, hml, hown, fun w h => hts w (List.mem_cons_of_mem _ h)⟩
  have hw := ga_start hv
  have hl := lv_entry ([.ref p0, .int p1]) (n := 3) (Nat.le_of_ble_eq_true rfl)
  rw [show entryFrame m args 3 = entryFrame m ([.ref p0, .int p1] : List Value).toArray 3 by rw [ha], lg_entry_eq]
  generalize (lg_sl ([.ref p0, .int p1]) ++ List.replicate (3 - (lg_sl ([.ref p0, .int p1])).length) Slot.unset).toArray = ls at hl ⊢
  have hl : lv_has ls 3 [(0, .ref p0), (1, .int p1)] := hl
  have key : ∀ Q : State → Prop, (∀ (pc : Nat) (ls : Array Slot) (H : Heap) (locs : List Loc) (x : Option Nat) (I1 : gMI), (x, I1) = (r, RI) → decode prog_4_method_4_code pc = .ok (.areturn, 1) → ga_W D T z L S I1 J s H locs → W p l e rm_Post_takeOut s m args below meth c H locs 0 0 Q (F0 m pc ls [va_rf x])) → W p l e rm_Post_takeOut s m args below meth c s.heap [] 0 0 Q (F0 m 0 ls []) := by
    intro Q hret
    rw [f_Post_takeOut] at hF
    refine lv_aload_n hx hb d_Post_takeOut_0 rfl (lv_at hl 0 rfl) ?_
    obtain ⟨t1, hF⟩ := gd_ex hF
    obtain ⟨r2, hr2, hF⟩ := ob_ex hF
    refine ga_getR C hw gf_Post_17 t1 hr2 d_Post_takeOut_1 ?_
    refine lv_iload_n hx hb d_Post_takeOut_4 rfl (lv_at hl 1 rfl) ?_
    obtain ⟨t3, hF⟩ := gd_ex hF
    obtain ⟨b4, hF⟩ := gd_ex hF
    refine ga_iald C hw t3 b4 d_Post_takeOut_5 ?_
    refine lv_topi (fun v5 ev5 => ?_)
    replace hF := bnd_at hF ev5
    refine lv_istore_n hx hb d_Post_takeOut_6 rfl hl (by decide) rfl (fun ls hl => ?_)
    have hl : lv_has ls 3 [(2, .int v5), (0, .ref p0), (1, .int p1)] := hl
    refine lv_aload_n hx hb d_Post_takeOut_7 rfl (lv_at hl 1 rfl) ?_
    refine ga_getR C hw gf_Post_17 t1 hr2 d_Post_takeOut_8 ?_
    refine lv_iload_n hx hb d_Post_takeOut_11 rfl (lv_at hl 2 rfl) ?_
    refine lv_iconst (v := 1) hx hb d_Post_takeOut_12 (by decide) ?_
    refine lv_iadd hx hb d_Post_takeOut_13 ?_
    refine lv_aload_n hx hb d_Post_takeOut_14 rfl (lv_at hl 1 rfl) ?_
    refine ga_getR C hw gf_Post_17 t1 hr2 d_Post_takeOut_15 ?_
    refine lv_iload_n hx hb d_Post_takeOut_18 rfl (lv_at hl 2 rfl) ?_
    refine lv_bipush (v := 96) hx hb d_Post_takeOut_19 (by decide) ?_
    refine lv_iload_n hx hb d_Post_takeOut_21 rfl (lv_at hl 2 rfl) ?_
    refine lv_isub hx hb d_Post_takeOut_22 ?_
    obtain ⟨b6, hF⟩ := gd_ex hF
    obtain ⟨I7, eI7, hF⟩ := bnd_ex hF
    refine ga_copy C hw hl.1 gj_Post_30 t3 t3 b6 eI7 (Nat.le_of_ble_eq_true rfl) (Nat.le_of_ble_eq_true rfl) d_Post_takeOut_23 (fun H locs hw => ?_)
    refine lv_aload_n hx hb d_Post_takeOut_26 rfl (lv_at hl 1 rfl) ?_
    refine ga_getR C hw gf_Post_17 t1 hr2 d_Post_takeOut_27 ?_
    refine lv_bipush (v := 96) hx hb d_Post_takeOut_30 (by decide) ?_
    refine lv_iload_n hx hb d_Post_takeOut_32 rfl (lv_at hl 0 rfl) ?_
    obtain ⟨b8, hF⟩ := gd_ex hF
    obtain ⟨I9, eI9, hF⟩ := bnd_ex hF
    refine ga_iast C hw t3 b8 eI9 d_Post_takeOut_33 (fun H locs hw => ?_)
    refine lv_aload_n hx hb d_Post_takeOut_34 rfl (lv_at hl 1 rfl) ?_
    refine lv_dup hx hb d_Post_takeOut_35 rfl ?_
    refine ga_getI C hw gf_Post_22 t1 d_Post_takeOut_36 ?_
    refine lv_iconst (v := 1) hx hb d_Post_takeOut_39 (by decide) ?_
    refine lv_isub hx hb d_Post_takeOut_40 ?_
    obtain ⟨I10, eI10, hF⟩ := bnd_ex hF
    refine ga_putI C hw gp_Post_22 t1 rfl rfl eI10 d_Post_takeOut_41 (fun H locs hw => ?_)
    refine lv_aload_n hx hb d_Post_takeOut_44 rfl (lv_at hl 1 rfl) ?_
    obtain ⟨r11, hr11, hF⟩ := ob_ex hF
    refine ga_getR C hw gf_Post_11 t1 hr11 d_Post_takeOut_45 ?_
    refine lv_iload_n hx hb d_Post_takeOut_48 rfl (lv_at hl 0 rfl) ?_
    obtain ⟨t12, hF⟩ := gd_ex hF
    obtain ⟨b13, hF⟩ := gd_ex hF
    obtain ⟨r14, hr14, hF⟩ := ob_ex hF
    refine ga_rald C hw t12 (by decide) rfl rfl b13 hr14 d_Post_takeOut_49 ?_
    exact hret _ _ _ _ _ _ (Option.some.inj hF) d_Post_takeOut_50 hw
  refine key _ (fun pc ls H locs x I1 he hd hw => ?_)
  · cases he
    exact W.aret (v := va_rf _) hx hb hr (Or.inl ⟨_, rfl⟩) (ga_rfq _) (fun t ht _ => ⟨⟨_, (), rfl, rfl, ga_o hw ht⟩, hw.2.2.2.1.F ht⟩) hw.2.2.2.1.2.2 hd
set_option maxHeartbeats 4000000 in
set_option maxRecDepth 100000 in
theorem m_Replies_hear_b99 {zz : gMI × gMJ} (hret : ∀ (pc : Nat) (ls : Array Slot) (H : Heap) (locs : List Loc) (I1 : gMI) (J1 : gMJ), (I1, J1) = zz → decode prog_6_method_3_code pc = .ok (.return_, 1) → ga_W D T z L S I1 J1 s H locs → W p l e rm_Replies_hear s m args below meth c H locs 0 0 Q (F0 m pc ls [])) (C : CallFix p m c prog_6_method_3_code 3 s args ga_ws "RankHouse$Replies") : ∀ (I : gMI) (J : gMJ), f_Replies_hear_b99 S I J = some zz → ∀ (ls : Array Slot) (H : Heap) (locs : List Loc), lv_has ls 3 [] → ga_W D T z L S I J s H locs → W p l e rm_Replies_hear s m args below meth c H locs 0 0 Q (F0 m 99 ls []) := by
  intro I J hF ls H locs hl hw
  have hx := C.1
  have hb := C.2.1
  rw [f_Replies_hear_b99] at hF
  exact hret _ _ _ _ _ _ (Option.some.inj hF) d_Replies_hear_99 hw
set_option maxHeartbeats 4000000 in
set_option maxRecDepth 100000 in
theorem m_Replies_hear_b73 {zz : gMI × gMJ} (hret : ∀ (pc : Nat) (ls : Array Slot) (H : Heap) (locs : List Loc) (I1 : gMI) (J1 : gMJ), (I1, J1) = zz → decode prog_6_method_3_code pc = .ok (.return_, 1) → ga_W D T z L S I1 J1 s H locs → W p l e rm_Replies_hear s m args below meth c H locs 0 0 Q (F0 m pc ls [])) (C : CallFix p m c prog_6_method_3_code 3 s args ga_ws "RankHouse$Replies") : ∀ (n : Nat) (I : gMI) (J : gMJ) (l0 : Nat) (l1 : Nat) (l2 : Int32), f_Replies_hear_b73 S n I J l0 l1 l2 = some zz → ∀ (ls : Array Slot) (H : Heap) (locs : List Loc), lv_has ls 3 [(0, .ref l0), (1, .ref l1), (2, .int l2)] → ga_W D T z L S I J s H locs → W p l e rm_Replies_hear s m args below meth c H locs 0 0 Q (F0 m 73 ls []) := by
  intro n
  induction n with
  | zero =>
    intro I J l0 l1 l2 hF ls H locs hl hw
    rw [f_Replies_hear_b73] at hF
    cases hF
  | succ n ih =>
    intro I J l0 l1 l2 hF ls H locs hl hw
    have hx := C.1
    have hb := C.2.1
    rw [f_Replies_hear_b73] at hF
    refine lv_iload_n hx hb d_Replies_hear_73 rfl (lv_at hl 2 rfl) ?_
    refine lv_aload_n hx hb d_Replies_hear_74 rfl (lv_at hl 1 rfl) ?_
    obtain ⟨t1, hF⟩ := gd_ex hF
    refine ga_getI C hw gf_Replies_53 t1 d_Replies_hear_75 ?_
    by_cases h2 : (I l1 1) ≤ l2
    · rw [if_pos h2] at hF
      refine lv_icmp_ge (tgt := 99) hx hb d_Replies_hear_78 (by decide) (fun _ => ?_) (fun hn => absurd h2 hn)
      exact m_Replies_hear_b99 hret C _ _ hF _ _ _ (lv_sub hl [] rfl) hw
    · rw [if_neg h2] at hF
      refine lv_icmp_ge (tgt := 99) hx hb d_Replies_hear_78 (by decide) (fun hp => absurd hp h2) (fun _ => ?_)
      refine lv_aload_n hx hb d_Replies_hear_81 rfl (lv_at hl 0 rfl) ?_
      obtain ⟨t3, hF⟩ := gd_ex hF
      obtain ⟨r4, hr4, hF⟩ := ob_ex hF
      refine ga_getR C hw gf_Replies_25 t3 hr4 d_Replies_hear_82 ?_
      refine lv_aload_n hx hb d_Replies_hear_85 rfl (lv_at hl 1 rfl) ?_
      refine lv_iload_n hx hb d_Replies_hear_86 rfl (lv_at hl 2 rfl) ?_
      obtain ⟨x5, c6, hF⟩ := ob_ex hF
      refine ga_cVi (As := [.int l2]) C hw (c_Letter_number l D T z L c6) gy_Replies_46 t1 rfl hl.1 ⟨Nat.le_of_ble_eq_true rfl, Nat.le_of_ble_eq_true rfl, rfl, rfl, Nat.le_of_ble_eq_true rfl, Nat.le_of_ble_eq_true rfl⟩ (Nat.le_of_ble_eq_true rfl) rfl d_Replies_hear_87 (fun H locs hw => ?_)
      obtain ⟨t7, hF⟩ := gd_ex hF
      obtain ⟨I8, c9, hF⟩ := ob_ex hF
      refine ga_cVv (As := [.int x5]) C hw (c_SortedRow_insert l D T z L c9) gy_Replies_56 t7 rfl hl.1 ⟨Nat.le_of_ble_eq_true rfl, Nat.le_of_ble_eq_true rfl, rfl, rfl, Nat.le_of_ble_eq_true rfl, Nat.le_of_ble_eq_true rfl⟩ (Nat.le_of_ble_eq_true rfl) rfl d_Replies_hear_90 (fun H locs hw => ?_)
      obtain ⟨v10, ev10, hF⟩ := bnd_ex hF
      refine lv_iinc (k := 2) (v := v10) hx hb d_Replies_hear_93 hl rfl (by rw [ev10]; rfl) (by decide) rfl (fun ls hl => ?_)
      have hl : lv_has ls 3 [(2, .int v10), (0, .ref l0), (1, .ref l1)] := hl
      refine lv_goto (tgt := 73) hx hb d_Replies_hear_96 (by decide) ?_
      exact ih _ _ _ _ _ hF _ _ _ (lv_sub hl [1, 2, 0] rfl) hw
set_option maxHeartbeats 4000000 in
set_option maxRecDepth 100000 in
theorem m_Replies_hear_b35 {zz : gMI × gMJ} (hret : ∀ (pc : Nat) (ls : Array Slot) (H : Heap) (locs : List Loc) (I1 : gMI) (J1 : gMJ), (I1, J1) = zz → decode prog_6_method_3_code pc = .ok (.return_, 1) → ga_W D T z L S I1 J1 s H locs → W p l e rm_Replies_hear s m args below meth c H locs 0 0 Q (F0 m pc ls [])) (C : CallFix p m c prog_6_method_3_code 3 s args ga_ws "RankHouse$Replies") : ∀ (n : Nat) (I : gMI) (J : gMJ) (l0 : Nat) (l1 : Nat) (l2 : Int32), f_Replies_hear_b35 S n I J l0 l1 l2 = some zz → ∀ (ls : Array Slot) (H : Heap) (locs : List Loc), lv_has ls 3 [(0, .ref l0), (1, .ref l1), (2, .int l2)] → ga_W D T z L S I J s H locs → W p l e rm_Replies_hear s m args below meth c H locs 0 0 Q (F0 m 35 ls []) := by
  intro n
  induction n with
  | zero =>
    intro I J l0 l1 l2 hF ls H locs hl hw
    rw [f_Replies_hear_b35] at hF
    cases hF
  | succ n ih =>
    intro I J l0 l1 l2 hF ls H locs hl hw
    have hx := C.1
    have hb := C.2.1
    rw [f_Replies_hear_b35] at hF
    refine lv_iload_n hx hb d_Replies_hear_35 rfl (lv_at hl 2 rfl) ?_
    refine lv_iconst (v := 3) hx hb d_Replies_hear_36 (by decide) ?_
    by_cases h1 : (3 : Int32) ≤ l2
    · rw [if_pos h1] at hF
      refine lv_icmp_ge (tgt := 62) hx hb d_Replies_hear_37 (by decide) (fun _ => ?_) (fun hn => absurd h1 hn)
      refine lv_aload_n hx hb d_Replies_hear_62 rfl (lv_at hl 1 rfl) ?_
      obtain ⟨t2, hF⟩ := gd_ex hF
      refine ga_getI C hw gf_Replies_50 t2 d_Replies_hear_63 ?_
      refine lv_bipush (v := 8) hx hb d_Replies_hear_66 (by decide) ?_
      by_cases h3 : (I l1 3) = (8 : Int32)
      · rw [if_pos h3] at hF
        refine lv_icmp_ne (tgt := 99) hx hb d_Replies_hear_68 (by decide) (fun hn => absurd h3 hn) (fun _ => ?_)
        refine lv_iconst (v := 0) hx hb d_Replies_hear_71 (by decide) ?_
        refine lv_istore_n hx hb d_Replies_hear_72 rfl hl (by decide) rfl (fun ls hl => ?_)
        have hl : lv_has ls 3 [(2, .int (0 : Int32)), (0, .ref l0), (1, .ref l1)] := hl
        exact m_Replies_hear_b73 hret C gFuel _ _ _ _ _ hF _ _ _ (lv_sub hl [1, 2, 0] rfl) hw
      · rw [if_neg h3] at hF
        refine lv_icmp_ne (tgt := 99) hx hb d_Replies_hear_68 (by decide) (fun _ => ?_) (fun hp => absurd hp h3)
        exact m_Replies_hear_b99 hret C _ _ hF _ _ _ (lv_sub hl [] rfl) hw
    · rw [if_neg h1] at hF
      refine lv_icmp_ge (tgt := 62) hx hb d_Replies_hear_37 (by decide) (fun hp => absurd hp h1) (fun _ => ?_)
      refine lv_aload_n hx hb d_Replies_hear_40 rfl (lv_at hl 0 rfl) ?_
      obtain ⟨t4, hF⟩ := gd_ex hF
      obtain ⟨r5, hr5, hF⟩ := ob_ex hF
      refine ga_getR C hw gf_Replies_17 t4 hr5 d_Replies_hear_41 ?_
      refine lv_aload_n hx hb d_Replies_hear_44 rfl (lv_at hl 1 rfl) ?_
      obtain ⟨t6, hF⟩ := gd_ex hF
      refine ga_getI C hw gf_Replies_40 t6 d_Replies_hear_45 ?_
      obtain ⟨t7, hF⟩ := gd_ex hF
      obtain ⟨b8, hF⟩ := gd_ex hF
      obtain ⟨r9, hr9, hF⟩ := ob_ex hF
      refine ga_rald C hw t7 (by decide) rfl rfl b8 hr9 d_Replies_hear_48 ?_
      refine lv_iload_n hx hb d_Replies_hear_49 rfl (lv_at hl 2 rfl) ?_
      refine lv_aload_n hx hb d_Replies_hear_50 rfl (lv_at hl 1 rfl) ?_
      refine lv_iload_n hx hb d_Replies_hear_51 rfl (lv_at hl 2 rfl) ?_
      obtain ⟨x10, c11, hF⟩ := ob_ex hF
      refine ga_cVi (As := [.int l2]) C hw (c_Letter_number l D T z L c11) gy_Replies_46 t6 rfl hl.1 ⟨Nat.le_of_ble_eq_true rfl, Nat.le_of_ble_eq_true rfl, rfl, rfl, Nat.le_of_ble_eq_true rfl, Nat.le_of_ble_eq_true rfl⟩ (Nat.le_of_ble_eq_true rfl) rfl d_Replies_hear_52 (fun H locs hw => ?_)
      obtain ⟨t12, hF⟩ := gd_ex hF
      obtain ⟨b13, hF⟩ := gd_ex hF
      obtain ⟨I14, eI14, hF⟩ := bnd_ex hF
      refine ga_iast C hw t12 b13 eI14 d_Replies_hear_55 (fun H locs hw => ?_)
      obtain ⟨v15, ev15, hF⟩ := bnd_ex hF
      refine lv_iinc (k := 2) (v := v15) hx hb d_Replies_hear_56 hl rfl (by rw [ev15]; rfl) (by decide) rfl (fun ls hl => ?_)
      have hl : lv_has ls 3 [(2, .int v15), (0, .ref l0), (1, .ref l1)] := hl
      refine lv_goto (tgt := 35) hx hb d_Replies_hear_59 (by decide) ?_
      exact ih _ _ _ _ _ hF _ _ _ (lv_sub hl [1, 2, 0] rfl) hw
set_option maxHeartbeats 4000000 in
set_option maxRecDepth 100000 in
theorem c_Replies_hear (l : Launch) (D : va_G) (T : Nat → ClassId) (z : Nat) (L : List Nat) {S : gS} {I : gMI} {J : gMJ} {p0 : Nat} {p1 : Nat} {RI : gMI} {RJ : gMJ} (hF : f_Replies_hear S I J p0 p1 = some (RI, RJ)) : ga_Mv l y_Replies_hear prog_6_method_3_code 3 (Option.none : Option Jvm.ClassFile.FieldType) rm_Replies_hear [.ref p0, .ref p1] D T z L S I J RI RJ := by
  refine Met.ofW (cc := prog_6_method_3_code) (maxL := 3) (ret := (Option.none : Option Jvm.ClassFile.FieldType)) (by decide) rfl ?_
  intro p e s m args below meth c s₁ B hml hv
  obtain ⟨ha, hv⟩ := hv
  have hx := B.exec
  have hb := B.bytes
  have hr := B.returns
  have hts := atoms_spec (ws := .code y_Replies_hear prog_6_method_3_code 3 (Option.none : Option Jvm.ClassFile.FieldType) :: ga_ws) B.pre
  have hown : s.vm.findClass "RankHouse$Replies" = some m.cls := findClass_of_methodNamed B.named
  have hlocks := B.notSynchronized
  have C : CallFix p m c prog_6_method_3_code 3 s args ga_ws "RankHouse$Replies" := ⟨hx, hb, hml, hown, fun w h => hts w (List.mem_cons_of_mem _ h)⟩
  have hw := ga_start hv
  have hl := lv_entry ([.ref p0, .ref p1]) (n := 3) (Nat.le_of_ble_eq_true rfl)
  rw [show entryFrame m args 3 = entryFrame m ([.ref p0, .ref p1] : List Value).toArray 3 by rw [ha], lg_entry_eq]
  generalize (lg_sl ([.ref p0, .ref p1]) ++ List.replicate (3 - (lg_sl ([.ref p0, .ref p1])).length) Slot.unset).toArray = ls at hl ⊢
  have hl : lv_has ls 3 [(0, .ref p0), (1, .ref p1)] := hl
  have key : ∀ Q : State → Prop, (∀ (pc : Nat) (ls : Array Slot) (H : Heap) (locs : List Loc) (I1 : gMI) (J1 : gMJ), (I1, J1) = (RI, RJ) → decode prog_6_method_3_code pc = .ok (.return_, 1) → ga_W D T z L S I1 J1 s H locs → W p l e rm_Replies_hear s m args below meth c H locs 0 0 Q (F0 m pc ls [])) → W p l e rm_Replies_hear s m args below meth c s.heap [] 0 0 Q (F0 m 0 ls []) := by
    intro Q hret
    rw [f_Replies_hear] at hF
    refine lv_aload_n hx hb d_Replies_hear_0 rfl (lv_at hl 0 rfl) ?_
    obtain ⟨t1, hF⟩ := gd_ex hF
    obtain ⟨r2, hr2, hF⟩ := ob_ex hF
    refine ga_getR C hw gf_Replies_9 t1 hr2 d_Replies_hear_1 ?_
    refine lv_aload_n hx hb d_Replies_hear_4 rfl (lv_at hl 1 rfl) ?_
    obtain ⟨t3, hF⟩ := gd_ex hF
    refine ga_getI C hw gf_Replies_40 t3 d_Replies_hear_5 ?_
    refine lv_iconst (v := 1) hx hb d_Replies_hear_8 (by decide) ?_
    obtain ⟨t4, hF⟩ := gd_ex hF
    obtain ⟨b5, hF⟩ := gd_ex hF
    obtain ⟨I6, eI6, hF⟩ := bnd_ex hF
    refine ga_zast C hw t4 b5 rfl eI6 d_Replies_hear_9 (fun H locs hw => ?_)
    refine lv_aload_n hx hb d_Replies_hear_10 rfl (lv_at hl 0 rfl) ?_
    refine lv_dup hx hb d_Replies_hear_11 rfl ?_
    refine ga_getI C hw gf_Replies_37 t1 d_Replies_hear_12 ?_
    refine lv_iconst (v := 1) hx hb d_Replies_hear_15 (by decide) ?_
    refine lv_iadd hx hb d_Replies_hear_16 ?_
    obtain ⟨I7, eI7, hF⟩ := bnd_ex hF
    refine ga_putI C hw gp_Replies_37 t1 rfl rfl eI7 d_Replies_hear_17 (fun H locs hw => ?_)
    refine lv_aload_n hx hb d_Replies_hear_20 rfl (lv_at hl 0 rfl) ?_
    refine lv_dup hx hb d_Replies_hear_21 rfl ?_
    refine ga_getJ C hw gf_Replies_33 t1 d_Replies_hear_22 ?_
    refine lv_aload_n hx hb d_Replies_hear_25 rfl (lv_at hl 1 rfl) ?_
    refine ga_getJ C hw gf_Replies_45 t3 d_Replies_hear_26 ?_
    refine lv_ladd hx hb d_Replies_hear_29 ?_
    obtain ⟨J8, eJ8, hF⟩ := bnd_ex hF
    refine ga_putJ C hw gp_Replies_33 t1 eJ8 d_Replies_hear_30 (fun H locs hw => ?_)
    refine lv_iconst (v := 0) hx hb d_Replies_hear_33 (by decide) ?_
    refine lv_istore_n hx hb d_Replies_hear_34 rfl hl (by decide) rfl (fun ls hl => ?_)
    have hl : lv_has ls 3 [(2, .int (0 : Int32)), (0, .ref p0), (1, .ref p1)] := hl
    exact m_Replies_hear_b35 hret C gFuel _ _ _ _ _ hF _ _ _ (lv_sub hl [1, 2, 0] rfl) hw
  refine key _ (fun pc ls H locs I1 J1 he hd hw => ?_)
  · cases he
    exact W.vret hx hb hr (fun t ht _ => ⟨⟨(), rfl, trivial, ga_o hw ht⟩, hw.2.2.2.1.F ht⟩) hw.2.2.2.1.2.2 hd
set_option maxHeartbeats 4000000 in
set_option maxRecDepth 100000 in
theorem m_Replies_total_b4 {I : gMI} {J : gMJ} {zz : Int32} (hret : ∀ (pc : Nat) (ls : Array Slot) (H : Heap) (locs : List Loc) (x : Int32), (x) = zz → decode prog_6_method_4_code pc = .ok (.ireturn, 1) → ga_W D T z L S I J s H locs → W p l e rm_Replies_total s m args below meth c H locs 0 0 Q (F0 m pc ls [.int x])) (C : CallFix p m c prog_6_method_4_code 4 s args ga_ws "RankHouse$Replies") : ∀ (n : Nat) (l0 : Nat) (l1 : Int32) (l2 : Int32) (l3 : Int32), f_Replies_total_b4 S I J n l0 l1 l2 l3 = some zz → ∀ (ls : Array Slot) (H : Heap) (locs : List Loc), lv_has ls 4 [(0, .ref l0), (1, .int l1), (2, .int l2), (3, .int l3)] → ga_W D T z L S I J s H locs → W p l e rm_Replies_total s m args below meth c H locs 0 0 Q (F0 m 4 ls []) := by
  intro n
  induction n with
  | zero =>
    intro l0 l1 l2 l3 hF ls H locs hl hw
    rw [f_Replies_total_b4] at hF
    cases hF
  | succ n ih =>
    intro l0 l1 l2 l3 hF ls H locs hl hw
    have hx := C.1
    have hb := C.2.1
    rw [f_Replies_total_b4] at hF
    refine lv_iload_n hx hb d_Replies_total_4 rfl (lv_at hl 3 rfl) ?_
    refine lv_bipush (v := 8) hx hb d_Replies_total_5 (by decide) ?_
    by_cases h1 : (8 : Int32) ≤ l3
    · rw [if_pos h1] at hF
      refine lv_icmp_ge (tgt := 27) hx hb d_Replies_total_7 (by decide) (fun _ => ?_) (fun hn => absurd h1 hn)
      refine lv_iload_n hx hb d_Replies_total_27 rfl (lv_at hl 2 rfl) ?_
      exact hret _ _ _ _ _ (Option.some.inj hF) d_Replies_total_28 hw
    · rw [if_neg h1] at hF
      refine lv_icmp_ge (tgt := 27) hx hb d_Replies_total_7 (by decide) (fun hp => absurd hp h1) (fun _ => ?_)
      refine lv_iload_n hx hb d_Replies_total_10 rfl (lv_at hl 2 rfl) ?_
      refine lv_aload_n hx hb d_Replies_total_11 rfl (lv_at hl 0 rfl) ?_
      obtain ⟨t2, hF⟩ := gd_ex hF
      obtain ⟨r3, hr3, hF⟩ := ob_ex hF
      refine ga_getR C hw gf_Replies_17 t2 hr3 d_Replies_total_12 ?_
      refine lv_iload_n hx hb d_Replies_total_15 rfl (lv_at hl 3 rfl) ?_
      obtain ⟨t4, hF⟩ := gd_ex hF
      obtain ⟨b5, hF⟩ := gd_ex hF
      obtain ⟨r6, hr6, hF⟩ := ob_ex hF
      refine ga_rald C hw t4 (by decide) rfl rfl b5 hr6 d_Replies_total_16 ?_
      refine lv_iload_n hx hb d_Replies_total_17 rfl (lv_at hl 1 rfl) ?_
      obtain ⟨t7, hF⟩ := gd_ex hF
      obtain ⟨b8, hF⟩ := gd_ex hF
      refine ga_iald C hw t7 b8 d_Replies_total_18 ?_
      refine lv_iadd hx hb d_Replies_total_19 ?_
      refine lv_topi (fun v9 ev9 => ?_)
      replace hF := bnd_at hF ev9
      refine lv_istore_n hx hb d_Replies_total_20 rfl hl (by decide) rfl (fun ls hl => ?_)
      have hl : lv_has ls 4 [(2, .int v9), (0, .ref l0), (1, .int l1), (3, .int l3)] := hl
      obtain ⟨v10, ev10, hF⟩ := bnd_ex hF
      refine lv_iinc (k := 3) (v := v10) hx hb d_Replies_total_21 hl rfl (by rw [ev10]; rfl) (by decide) rfl (fun ls hl => ?_)
      have hl : lv_has ls 4 [(3, .int v10), (2, .int v9), (0, .ref l0), (1, .int l1)] := hl
      refine lv_goto (tgt := 4) hx hb d_Replies_total_24 (by decide) ?_
      exact ih _ _ _ _ hF _ _ _ (lv_sub hl [2, 3, 1, 0] rfl) hw
set_option maxHeartbeats 4000000 in
set_option maxRecDepth 100000 in
theorem c_Replies_total (l : Launch) (D : va_G) (T : Nat → ClassId) (z : Nat) (L : List Nat) {S : gS} {I : gMI} {J : gMJ} {p0 : Nat} {p1 : Int32} {r : Int32} (hF : f_Replies_total S I J p0 p1 = some (r)) : ga_Mi l y_Replies_total prog_6_method_4_code 4 (Option.some Jvm.ClassFile.FieldType.int) rm_Replies_total [.ref p0, .int p1] D T z L S I J r I J := by
  refine Met.ofW (cc := prog_6_method_4_code) (maxL := 4) (ret := (Option.some Jvm.ClassFile.FieldType.int)) (by decide) rfl ?_
  intro p e s m args below meth c s₁ B hml hv
  obtain ⟨ha, hv⟩ := hv
  have hx := B.exec
  have hb := B.bytes
  have hr := B.returns
  have hts := atoms_spec (ws := .code y_Replies_total prog_6_method_4_code 4 (Option.some Jvm.ClassFile.FieldType.int) :: ga_ws) B.pre
  have hown : s.vm.findClass "RankHouse$Replies" = some m.cls := findClass_of_methodNamed B.named
  have hlocks := B.notSynchronized
  have C : CallFix p m c prog_6_method_4_code 4 s args ga_ws "RankHouse$Replies" := ⟨hx, hb, hml, hown, fun w h => hts w (List.mem_cons_of_mem _ h)⟩
  have hw := ga_start hv
  have hl := lv_entry ([.ref p0, .int p1]) (n := 4) (Nat.le_of_ble_eq_true rfl)
  rw [show entryFrame m args 4 = entryFrame m ([.ref p0, .int p1] : List Value).toArray 4 by rw [ha], lg_entry_eq]
  generalize (lg_sl ([.ref p0, .int p1]) ++ List.replicate (4 - (lg_sl ([.ref p0, .int p1])).length) Slot.unset).toArray = ls at hl ⊢
  have hl : lv_has ls 4 [(0, .ref p0), (1, .int p1)] := hl
  have key : ∀ Q : State → Prop, (∀ (pc : Nat) (ls : Array Slot) (H : Heap) (locs : List Loc) (x : Int32), (x) = (r) → decode prog_6_method_4_code pc = .ok (.ireturn, 1) → ga_W D T z L S I J s H locs → W p l e rm_Replies_total s m args below meth c H locs 0 0 Q (F0 m pc ls [.int x])) → W p l e rm_Replies_total s m args below meth c s.heap [] 0 0 Q (F0 m 0 ls []) := by
    intro Q hret
    rw [f_Replies_total] at hF
    refine lv_iconst (v := 0) hx hb d_Replies_total_0 (by decide) ?_
    refine lv_istore_n hx hb d_Replies_total_1 rfl hl (by decide) rfl (fun ls hl => ?_)
    have hl : lv_has ls 4 [(2, .int (0 : Int32)), (0, .ref p0), (1, .int p1)] := hl
    refine lv_iconst (v := 0) hx hb d_Replies_total_2 (by decide) ?_
    refine lv_istore_n hx hb d_Replies_total_3 rfl hl (by decide) rfl (fun ls hl => ?_)
    have hl : lv_has ls 4 [(3, .int (0 : Int32)), (2, .int (0 : Int32)), (0, .ref p0), (1, .int p1)] := hl
    exact m_Replies_total_b4 hret C gFuel _ _ _ _ hF _ _ _ (lv_sub hl [2, 3, 1, 0] rfl) hw
  refine key _ (fun pc ls H locs x he hd hw => ?_)
  · cases he
    exact W.iret hx hb hr (fun t ht _ => ⟨⟨_, (), rfl, rfl, ga_o hw ht⟩, hw.2.2.2.1.F ht⟩) hw.2.2.2.1.2.2 hd
set_option maxHeartbeats 4000000 in
set_option maxRecDepth 100000 in
theorem m_Replies_countUpTo_b33 {I : gMI} {J : gMJ} {zz : Int32} (hret : ∀ (pc : Nat) (ls : Array Slot) (H : Heap) (locs : List Loc) (x : Int32), (x) = zz → decode prog_6_method_6_code pc = .ok (.ireturn, 1) → ga_W D T z L S I J s H locs → W p l e rm_Replies_countUpTo s m args below meth c H locs 0 0 Q (F0 m pc ls [.int x])) (C : CallFix p m c prog_6_method_6_code 4 s args ga_ws "RankHouse$Replies") (k4 : Nat → Int32 → Int32 → Int32 → Option (Int32)) (hk4 : ∀ (l0 : Nat) (l1 : Int32) (l2 : Int32) (l3 : Int32), k4 l0 l1 l2 l3 = some zz → ∀ (ls : Array Slot) (H : Heap) (locs : List Loc), lv_has ls 4 [(0, .ref l0), (1, .int l1), (2, .int l2), (3, .int l3)] → ga_W D T z L S I J s H locs → W p l e rm_Replies_countUpTo s m args below meth c H locs 0 0 Q (F0 m 4 ls [])) : ∀ (l0 : Nat) (l1 : Int32) (l2 : Int32) (l3 : Int32), f_Replies_countUpTo_b33 S I J k4 l0 l1 l2 l3 = some zz → ∀ (ls : Array Slot) (H : Heap) (locs : List Loc), lv_has ls 4 [(0, .ref l0), (1, .int l1), (2, .int l2), (3, .int l3)] → ga_W D T z L S I J s H locs → W p l e rm_Replies_countUpTo s m args below meth c H locs 0 0 Q (F0 m 33 ls []) := by
  intro l0 l1 l2 l3 hF ls H locs hl hw
  have hx := C.1
  have hb := C.2.1
  rw [f_Replies_countUpTo_b33] at hF
  obtain ⟨v1, ev1, hF⟩ := bnd_ex hF
  refine lv_iinc (k := 3) (v := v1) hx hb d_Replies_countUpTo_33 hl rfl (by rw [ev1]; rfl) (by decide) rfl (fun ls hl => ?_)
  have hl : lv_has ls 4 [(3, .int v1), (0, .ref l0), (1, .int l1), (2, .int l2)] := hl
  refine lv_goto (tgt := 4) hx hb d_Replies_countUpTo_36 (by decide) ?_
  exact hk4 _ _ _ _ hF _ _ _ (lv_sub hl [1, 2, 3, 0] rfl) hw
set_option maxHeartbeats 4000000 in
set_option maxRecDepth 100000 in
theorem m_Replies_countUpTo_b4 {I : gMI} {J : gMJ} {zz : Int32} (hret : ∀ (pc : Nat) (ls : Array Slot) (H : Heap) (locs : List Loc) (x : Int32), (x) = zz → decode prog_6_method_6_code pc = .ok (.ireturn, 1) → ga_W D T z L S I J s H locs → W p l e rm_Replies_countUpTo s m args below meth c H locs 0 0 Q (F0 m pc ls [.int x])) (C : CallFix p m c prog_6_method_6_code 4 s args ga_ws "RankHouse$Replies") : ∀ (n : Nat) (l0 : Nat) (l1 : Int32) (l2 : Int32) (l3 : Int32), f_Replies_countUpTo_b4 S I J n l0 l1 l2 l3 = some zz → ∀ (ls : Array Slot) (H : Heap) (locs : List Loc), lv_has ls 4 [(0, .ref l0), (1, .int l1), (2, .int l2), (3, .int l3)] → ga_W D T z L S I J s H locs → W p l e rm_Replies_countUpTo s m args below meth c H locs 0 0 Q (F0 m 4 ls []) := by
  intro n
  induction n with
  | zero =>
    intro l0 l1 l2 l3 hF ls H locs hl hw
    rw [f_Replies_countUpTo_b4] at hF
    cases hF
  | succ n ih =>
    intro l0 l1 l2 l3 hF ls H locs hl hw
    have hx := C.1
    have hb := C.2.1
    rw [f_Replies_countUpTo_b4] at hF
    refine lv_iload_n hx hb d_Replies_countUpTo_4 rfl (lv_at hl 3 rfl) ?_
    refine lv_bipush (v := 8) hx hb d_Replies_countUpTo_5 (by decide) ?_
    by_cases h1 : (8 : Int32) ≤ l3
    · rw [if_pos h1] at hF
      refine lv_icmp_ge (tgt := 39) hx hb d_Replies_countUpTo_7 (by decide) (fun _ => ?_) (fun hn => absurd h1 hn)
      refine lv_iload_n hx hb d_Replies_countUpTo_39 rfl (lv_at hl 2 rfl) ?_
      exact hret _ _ _ _ _ (Option.some.inj hF) d_Replies_countUpTo_40 hw
    · rw [if_neg h1] at hF
      refine lv_icmp_ge (tgt := 39) hx hb d_Replies_countUpTo_7 (by decide) (fun hp => absurd hp h1) (fun _ => ?_)
      refine lv_aload_n hx hb d_Replies_countUpTo_10 rfl (lv_at hl 0 rfl) ?_
      obtain ⟨t2, hF⟩ := gd_ex hF
      obtain ⟨r3, hr3, hF⟩ := ob_ex hF
      refine ga_getR C hw gf_Replies_17 t2 hr3 d_Replies_countUpTo_11 ?_
      refine lv_iload_n hx hb d_Replies_countUpTo_14 rfl (lv_at hl 3 rfl) ?_
      obtain ⟨t4, hF⟩ := gd_ex hF
      obtain ⟨b5, hF⟩ := gd_ex hF
      obtain ⟨r6, hr6, hF⟩ := ob_ex hF
      refine ga_rald C hw t4 (by decide) rfl rfl b5 hr6 d_Replies_countUpTo_15 ?_
      refine lv_iconst (v := 1) hx hb d_Replies_countUpTo_16 (by decide) ?_
      obtain ⟨t7, hF⟩ := gd_ex hF
      obtain ⟨b8, hF⟩ := gd_ex hF
      refine ga_iald C hw t7 b8 d_Replies_countUpTo_17 ?_
      refine lv_iload_n hx hb d_Replies_countUpTo_18 rfl (lv_at hl 1 rfl) ?_
      by_cases h9 : l1 < (I r6 (1 : Int32).toNatClampNeg)
      · rw [if_pos h9] at hF
        refine lv_icmp_gt (tgt := 33) hx hb d_Replies_countUpTo_19 (by decide) (fun _ => ?_) (fun hn => absurd h9 hn)
        exact m_Replies_countUpTo_b33 hret C _ ih _ _ _ _ hF _ _ _ hl hw
      · rw [if_neg h9] at hF
        refine lv_icmp_gt (tgt := 33) hx hb d_Replies_countUpTo_19 (by decide) (fun hp => absurd hp h9) (fun _ => ?_)
        refine lv_iload_n hx hb d_Replies_countUpTo_22 rfl (lv_at hl 2 rfl) ?_
        refine lv_aload_n hx hb d_Replies_countUpTo_23 rfl (lv_at hl 0 rfl) ?_
        refine ga_getR C hw gf_Replies_17 t2 hr3 d_Replies_countUpTo_24 ?_
        refine lv_iload_n hx hb d_Replies_countUpTo_27 rfl (lv_at hl 3 rfl) ?_
        refine ga_rald C hw t4 (by decide) rfl rfl b5 hr6 d_Replies_countUpTo_28 ?_
        refine lv_iconst (v := 0) hx hb d_Replies_countUpTo_29 (by decide) ?_
        obtain ⟨b10, hF⟩ := gd_ex hF
        refine ga_iald C hw t7 b10 d_Replies_countUpTo_30 ?_
        refine lv_iadd hx hb d_Replies_countUpTo_31 ?_
        refine lv_topi (fun v11 ev11 => ?_)
        replace hF := bnd_at hF ev11
        refine lv_istore_n hx hb d_Replies_countUpTo_32 rfl hl (by decide) rfl (fun ls hl => ?_)
        have hl : lv_has ls 4 [(2, .int v11), (0, .ref l0), (1, .int l1), (3, .int l3)] := hl
        exact m_Replies_countUpTo_b33 hret C _ ih _ _ _ _ hF _ _ _ (lv_sub hl [1, 2, 0, 3] rfl) hw
set_option maxHeartbeats 4000000 in
set_option maxRecDepth 100000 in
theorem c_Replies_countUpTo (l : Launch) (D : va_G) (T : Nat → ClassId) (z : Nat) (L : List Nat) {S : gS} {I : gMI} {J : gMJ} {p0 : Nat} {p1 : Int32} {r : Int32} (hF : f_Replies_countUpTo S I J p0 p1 = some (r)) : ga_Mi l y_Replies_countUpTo prog_6_method_6_code 4 (Option.some Jvm.ClassFile.FieldType.int) rm_Replies_countUpTo [.ref p0, .int p1] D T z L S I J r I J := by
  refine Met.ofW (cc := prog_6_method_6_code) (maxL := 4) (ret := (Option.some Jvm.ClassFile.FieldType.int)) (by decide) rfl ?_
  intro p e s m args below meth c s₁ B hml hv
  obtain ⟨ha, hv⟩ := hv
  have hx := B.exec
  have hb := B.bytes
  have hr := B.returns
  have hts := atoms_spec (ws := .code y_Replies_countUpTo prog_6_method_6_code 4 (Option.some Jvm.ClassFile.FieldType.int) :: ga_ws) B.pre
  have hown : s.vm.findClass "RankHouse$Replies" = some m.cls := findClass_of_methodNamed B.named
  have hlocks := B.notSynchronized
  have C : CallFix p m c prog_6_method_6_code 4 s args ga_ws "RankHouse$Replies" := ⟨hx, hb, hml, hown, fun w h => hts w (List.mem_cons_of_mem _ h)⟩
  have hw := ga_start hv
  have hl := lv_entry ([.ref p0, .int p1]) (n := 4) (Nat.le_of_ble_eq_true rfl)
  rw [show entryFrame m args 4 = entryFrame m ([.ref p0, .int p1] : List Value).toArray 4 by rw [ha], lg_entry_eq]
  generalize (lg_sl ([.ref p0, .int p1]) ++ List.replicate (4 - (lg_sl ([.ref p0, .int p1])).length) Slot.unset).toArray = ls at hl ⊢
  have hl : lv_has ls 4 [(0, .ref p0), (1, .int p1)] := hl
  have key : ∀ Q : State → Prop, (∀ (pc : Nat) (ls : Array Slot) (H : Heap) (locs : List Loc) (x : Int32), (x) = (r) → decode prog_6_method_6_code pc = .ok (.ireturn, 1) → ga_W D T z L S I J s H locs → W p l e rm_Replies_countUpTo s m args below meth c H locs 0 0 Q (F0 m pc ls [.int x])) → W p l e rm_Replies_countUpTo s m args below meth c s.heap [] 0 0 Q (F0 m 0 ls []) := by
    intro Q hret
    rw [f_Replies_countUpTo] at hF
    refine lv_iconst (v := 0) hx hb d_Replies_countUpTo_0 (by decide) ?_
    refine lv_istore_n hx hb d_Replies_countUpTo_1 rfl hl (by decide) rfl (fun ls hl => ?_)
    have hl : lv_has ls 4 [(2, .int (0 : Int32)), (0, .ref p0), (1, .int p1)] := hl
    refine lv_iconst (v := 0) hx hb d_Replies_countUpTo_2 (by decide) ?_
    refine lv_istore_n hx hb d_Replies_countUpTo_3 rfl hl (by decide) rfl (fun ls hl => ?_)
    have hl : lv_has ls 4 [(3, .int (0 : Int32)), (2, .int (0 : Int32)), (0, .ref p0), (1, .int p1)] := hl
    exact m_Replies_countUpTo_b4 hret C gFuel _ _ _ _ hF _ _ _ (lv_sub hl [2, 3, 1, 0] rfl) hw
  refine key _ (fun pc ls H locs x he hd hw => ?_)
  · cases he
    exact W.iret hx hb hr (fun t ht _ => ⟨⟨_, (), rfl, rfl, ga_o hw ht⟩, hw.2.2.2.1.F ht⟩) hw.2.2.2.1.2.2 hd
set_option maxHeartbeats 4000000 in
set_option maxRecDepth 100000 in
theorem m_Replies_pivot_b50 {I : gMI} {J : gMJ} {zz : Int32} (hret : ∀ (pc : Nat) (ls : Array Slot) (H : Heap) (locs : List Loc) (x : Int32), (x) = zz → decode prog_6_method_5_code pc = .ok (.ireturn, 1) → ga_W D T z L S I J s H locs → W p l e rm_Replies_pivot s m args below meth c H locs 0 0 Q (F0 m pc ls [.int x])) (C : CallFix p m c prog_6_method_5_code 4 s args ga_ws "RankHouse$Replies") (k5 : Nat → Int32 → Int32 → Int32 → Option (Int32)) (hk5 : ∀ (l0 : Nat) (l1 : Int32) (l2 : Int32) (l3 : Int32), k5 l0 l1 l2 l3 = some zz → ∀ (ls : Array Slot) (H : Heap) (locs : List Loc), lv_has ls 4 [(0, .ref l0), (1, .int l1), (2, .int l2), (3, .int l3)] → ga_W D T z L S I J s H locs → W p l e rm_Replies_pivot s m args below meth c H locs 0 0 Q (F0 m 5 ls [])) : ∀ (l0 : Nat) (l1 : Int32) (l2 : Int32) (l3 : Int32), f_Replies_pivot_b50 S I J k5 l0 l1 l2 l3 = some zz → ∀ (ls : Array Slot) (H : Heap) (locs : List Loc), lv_has ls 4 [(0, .ref l0), (1, .int l1), (2, .int l2), (3, .int l3)] → ga_W D T z L S I J s H locs → W p l e rm_Replies_pivot s m args below meth c H locs 0 0 Q (F0 m 50 ls []) := by
  intro l0 l1 l2 l3 hF ls H locs hl hw
  have hx := C.1
  have hb := C.2.1
  rw [f_Replies_pivot_b50] at hF
  obtain ⟨v1, ev1, hF⟩ := bnd_ex hF
  refine lv_iinc (k := 3) (v := v1) hx hb d_Replies_pivot_50 hl rfl (by rw [ev1]; rfl) (by decide) rfl (fun ls hl => ?_)
  have hl : lv_has ls 4 [(3, .int v1), (0, .ref l0), (1, .int l1), (2, .int l2)] := hl
  refine lv_goto (tgt := 5) hx hb d_Replies_pivot_53 (by decide) ?_
  exact hk5 _ _ _ _ hF _ _ _ (lv_sub hl [1, 2, 3, 0] rfl) hw
set_option maxHeartbeats 4000000 in
set_option maxRecDepth 100000 in
theorem m_Replies_pivot_b5 {I : gMI} {J : gMJ} {zz : Int32} (hret : ∀ (pc : Nat) (ls : Array Slot) (H : Heap) (locs : List Loc) (x : Int32), (x) = zz → decode prog_6_method_5_code pc = .ok (.ireturn, 1) → ga_W D T z L S I J s H locs → W p l e rm_Replies_pivot s m args below meth c H locs 0 0 Q (F0 m pc ls [.int x])) (C : CallFix p m c prog_6_method_5_code 4 s args ga_ws "RankHouse$Replies") : ∀ (n : Nat) (l0 : Nat) (l1 : Int32) (l2 : Int32) (l3 : Int32), f_Replies_pivot_b5 S I J n l0 l1 l2 l3 = some zz → ∀ (ls : Array Slot) (H : Heap) (locs : List Loc), lv_has ls 4 [(0, .ref l0), (1, .int l1), (2, .int l2), (3, .int l3)] → ga_W D T z L S I J s H locs → W p l e rm_Replies_pivot s m args below meth c H locs 0 0 Q (F0 m 5 ls []) := by
  intro n
  induction n with
  | zero =>
    intro l0 l1 l2 l3 hF ls H locs hl hw
    rw [f_Replies_pivot_b5] at hF
    cases hF
  | succ n ih =>
    intro l0 l1 l2 l3 hF ls H locs hl hw
    have hx := C.1
    have hb := C.2.1
    rw [f_Replies_pivot_b5] at hF
    refine lv_iload_n hx hb d_Replies_pivot_5 rfl (lv_at hl 3 rfl) ?_
    refine lv_bipush (v := 8) hx hb d_Replies_pivot_6 (by decide) ?_
    by_cases h1 : (8 : Int32) ≤ l3
    · rw [if_pos h1] at hF
      refine lv_icmp_ge (tgt := 56) hx hb d_Replies_pivot_8 (by decide) (fun _ => ?_) (fun hn => absurd h1 hn)
      refine lv_iload_n hx hb d_Replies_pivot_56 rfl (lv_at hl 2 rfl) ?_
      exact hret _ _ _ _ _ (Option.some.inj hF) d_Replies_pivot_57 hw
    · rw [if_neg h1] at hF
      refine lv_icmp_ge (tgt := 56) hx hb d_Replies_pivot_8 (by decide) (fun hp => absurd hp h1) (fun _ => ?_)
      refine lv_aload_n hx hb d_Replies_pivot_11 rfl (lv_at hl 0 rfl) ?_
      obtain ⟨t2, hF⟩ := gd_ex hF
      obtain ⟨r3, hr3, hF⟩ := ob_ex hF
      refine ga_getR C hw gf_Replies_17 t2 hr3 d_Replies_pivot_12 ?_
      refine lv_iload_n hx hb d_Replies_pivot_15 rfl (lv_at hl 3 rfl) ?_
      obtain ⟨t4, hF⟩ := gd_ex hF
      obtain ⟨b5, hF⟩ := gd_ex hF
      obtain ⟨r6, hr6, hF⟩ := ob_ex hF
      refine ga_rald C hw t4 (by decide) rfl rfl b5 hr6 d_Replies_pivot_16 ?_
      refine lv_iconst (v := 1) hx hb d_Replies_pivot_17 (by decide) ?_
      obtain ⟨t7, hF⟩ := gd_ex hF
      obtain ⟨b8, hF⟩ := gd_ex hF
      refine ga_iald C hw t7 b8 d_Replies_pivot_18 ?_
      refine lv_iload_n hx hb d_Replies_pivot_19 rfl (lv_at hl 2 rfl) ?_
      by_cases h9 : l2 ≤ (I r6 (1 : Int32).toNatClampNeg)
      · rw [if_pos h9] at hF
        refine lv_icmp_ge (tgt := 50) hx hb d_Replies_pivot_20 (by decide) (fun _ => ?_) (fun hn => absurd h9 hn)
        exact m_Replies_pivot_b50 hret C _ ih _ _ _ _ hF _ _ _ hl hw
      · rw [if_neg h9] at hF
        refine lv_icmp_ge (tgt := 50) hx hb d_Replies_pivot_20 (by decide) (fun hp => absurd hp h9) (fun _ => ?_)
        refine lv_iconst (v := 2) hx hb d_Replies_pivot_23 (by decide) ?_
        refine lv_aload_n hx hb d_Replies_pivot_24 rfl (lv_at hl 0 rfl) ?_
        refine lv_aload_n hx hb d_Replies_pivot_25 rfl (lv_at hl 0 rfl) ?_
        refine ga_getR C hw gf_Replies_17 t2 hr3 d_Replies_pivot_26 ?_
        refine lv_iload_n hx hb d_Replies_pivot_29 rfl (lv_at hl 3 rfl) ?_
        refine ga_rald C hw t4 (by decide) rfl rfl b5 hr6 d_Replies_pivot_30 ?_
        refine lv_iconst (v := 1) hx hb d_Replies_pivot_31 (by decide) ?_
        refine ga_iald C hw t7 b8 d_Replies_pivot_32 ?_
        obtain ⟨x10, c11, hF⟩ := ob_ex hF
        refine ga_cVi (As := [.int (I r6 (1 : Int32).toNatClampNeg)]) C hw (c_Replies_countUpTo l D T z L c11) gy_Replies_62 t2 rfl hl.1 ⟨Nat.le_of_ble_eq_true rfl, Nat.le_of_ble_eq_true rfl, rfl, rfl, Nat.le_of_ble_eq_true rfl, Nat.le_of_ble_eq_true rfl⟩ (Nat.le_of_ble_eq_true rfl) rfl d_Replies_pivot_33 (fun H locs hw => ?_)
        refine lv_imul hx hb d_Replies_pivot_36 ?_
        refine lv_iload_n hx hb d_Replies_pivot_37 rfl (lv_at hl 1 rfl) ?_
        by_cases h12 : ((2 : Int32) * x10) < l1
        · rw [if_pos h12] at hF
          refine lv_icmp_lt (tgt := 50) hx hb d_Replies_pivot_38 (by decide) (fun _ => ?_) (fun hn => absurd h12 hn)
          exact m_Replies_pivot_b50 hret C _ ih _ _ _ _ hF _ _ _ hl hw
        · rw [if_neg h12] at hF
          refine lv_icmp_lt (tgt := 50) hx hb d_Replies_pivot_38 (by decide) (fun hp => absurd hp h12) (fun _ => ?_)
          refine lv_aload_n hx hb d_Replies_pivot_41 rfl (lv_at hl 0 rfl) ?_
          refine ga_getR C hw gf_Replies_17 t2 hr3 d_Replies_pivot_42 ?_
          refine lv_iload_n hx hb d_Replies_pivot_45 rfl (lv_at hl 3 rfl) ?_
          refine ga_rald C hw t4 (by decide) rfl rfl b5 hr6 d_Replies_pivot_46 ?_
          refine lv_iconst (v := 1) hx hb d_Replies_pivot_47 (by decide) ?_
          refine ga_iald C hw t7 b8 d_Replies_pivot_48 ?_
          refine lv_topi (fun v13 ev13 => ?_)
          replace hF := bnd_at hF ev13
          refine lv_istore_n hx hb d_Replies_pivot_49 rfl hl (by decide) rfl (fun ls hl => ?_)
          have hl : lv_has ls 4 [(2, .int v13), (0, .ref l0), (1, .int l1), (3, .int l3)] := hl
          exact m_Replies_pivot_b50 hret C _ ih _ _ _ _ hF _ _ _ (lv_sub hl [1, 2, 0, 3] rfl) hw
set_option maxHeartbeats 4000000 in
set_option maxRecDepth 100000 in
theorem c_Replies_pivot (l : Launch) (D : va_G) (T : Nat → ClassId) (z : Nat) (L : List Nat) {S : gS} {I : gMI} {J : gMJ} {p0 : Nat} {p1 : Int32} {r : Int32} (hF : f_Replies_pivot S I J p0 p1 = some (r)) : ga_Mi l y_Replies_pivot prog_6_method_5_code 4 (Option.some Jvm.ClassFile.FieldType.int) rm_Replies_pivot [.ref p0, .int p1] D T z L S I J r I J := by
  refine Met.ofW (cc := prog_6_method_5_code) (maxL := 4) (ret := (Option.some Jvm.ClassFile.FieldType.int)) (by decide) rfl ?_
  intro p e s m args below meth c s₁ B hml hv
  obtain ⟨ha, hv⟩ := hv
  have hx := B.exec
  have hb := B.bytes
  have hr := B.returns
  have hts := atoms_spec (ws := .code y_Replies_pivot prog_6_method_5_code 4 (Option.some Jvm.ClassFile.FieldType.int) :: ga_ws) B.pre
  have hown : s.vm.findClass "RankHouse$Replies" = some m.cls := findClass_of_methodNamed B.named
  have hlocks := B.notSynchronized
  have C : CallFix p m c prog_6_method_5_code 4 s args ga_ws "RankHouse$Replies" := ⟨hx, hb, hml, hown, fun w h => hts w (List.mem_cons_of_mem _ h)⟩
  have hw := ga_start hv
  have hl := lv_entry ([.ref p0, .int p1]) (n := 4) (Nat.le_of_ble_eq_true rfl)
  rw [show entryFrame m args 4 = entryFrame m ([.ref p0, .int p1] : List Value).toArray 4 by rw [ha], lg_entry_eq]
  generalize (lg_sl ([.ref p0, .int p1]) ++ List.replicate (4 - (lg_sl ([.ref p0, .int p1])).length) Slot.unset).toArray = ls at hl ⊢
  have hl : lv_has ls 4 [(0, .ref p0), (1, .int p1)] := hl
  have key : ∀ Q : State → Prop, (∀ (pc : Nat) (ls : Array Slot) (H : Heap) (locs : List Loc) (x : Int32), (x) = (r) → decode prog_6_method_5_code pc = .ok (.ireturn, 1) → ga_W D T z L S I J s H locs → W p l e rm_Replies_pivot s m args below meth c H locs 0 0 Q (F0 m pc ls [.int x])) → W p l e rm_Replies_pivot s m args below meth c s.heap [] 0 0 Q (F0 m 0 ls []) := by
    intro Q hret
    rw [f_Replies_pivot] at hF
    refine lv_ldc hx hb C.2.2.2.1 (C.2.2.2.2 _ gk_Replies_61) d_Replies_pivot_0 ?_
    refine lv_istore_n hx hb d_Replies_pivot_2 rfl hl (by decide) rfl (fun ls hl => ?_)
    have hl : lv_has ls 4 [(2, .int (2147483647 : Int32)), (0, .ref p0), (1, .int p1)] := hl
    refine lv_iconst (v := 0) hx hb d_Replies_pivot_3 (by decide) ?_
    refine lv_istore_n hx hb d_Replies_pivot_4 rfl hl (by decide) rfl (fun ls hl => ?_)
    have hl : lv_has ls 4 [(3, .int (0 : Int32)), (2, .int (2147483647 : Int32)), (0, .ref p0), (1, .int p1)] := hl
    exact m_Replies_pivot_b5 hret C gFuel _ _ _ _ hF _ _ _ (lv_sub hl [2, 3, 1, 0] rfl) hw
  refine key _ (fun pc ls H locs x he hd hw => ?_)
  · cases he
    exact W.iret hx hb hr (fun t ht _ => ⟨⟨_, (), rfl, rfl, ga_o hw ht⟩, hw.2.2.2.1.F ht⟩) hw.2.2.2.1.2.2 hd
set_option maxHeartbeats 4000000 in
set_option maxRecDepth 100000 in
theorem m_Post_loseAllOf_b29 {J : gMJ} {zz : gMI} (hret : ∀ (pc : Nat) (ls : Array Slot) (H : Heap) (locs : List Loc) (I1 : gMI), (I1) = zz → decode prog_4_method_5_code pc = .ok (.return_, 1) → ga_W D T z L S I1 J s H locs → W p l e rm_Post_loseAllOf s m args below meth c H locs 0 0 Q (F0 m pc ls [])) (C : CallFix p m c prog_4_method_5_code 3 s args ga_ws "RankHouse$Post") (k7 : gMI → Nat → Int32 → Int32 → Option (gMI)) (hk7 : ∀ (I : gMI) (l0 : Nat) (l1 : Int32) (l2 : Int32), k7 I l0 l1 l2 = some zz → ∀ (ls : Array Slot) (H : Heap) (locs : List Loc), lv_has ls 3 [(0, .ref l0), (1, .int l1), (2, .int l2)] → ga_W D T z L S I J s H locs → W p l e rm_Post_loseAllOf s m args below meth c H locs 0 0 Q (F0 m 7 ls [])) : ∀ (I : gMI) (l0 : Nat) (l1 : Int32) (l2 : Int32), f_Post_loseAllOf_b29 S J k7 I l0 l1 l2 = some zz → ∀ (ls : Array Slot) (H : Heap) (locs : List Loc), lv_has ls 3 [(0, .ref l0), (1, .int l1), (2, .int l2)] → ga_W D T z L S I J s H locs → W p l e rm_Post_loseAllOf s m args below meth c H locs 0 0 Q (F0 m 29 ls []) := by
  intro I l0 l1 l2 hF ls H locs hl hw
  have hx := C.1
  have hb := C.2.1
  rw [f_Post_loseAllOf_b29] at hF
  obtain ⟨v1, ev1, hF⟩ := bnd_ex hF
  refine lv_iinc (k := 2) (v := v1) hx hb d_Post_loseAllOf_29 hl rfl (by rw [ev1]; rfl) (by decide) rfl (fun ls hl => ?_)
  have hl : lv_has ls 3 [(2, .int v1), (0, .ref l0), (1, .int l1)] := hl
  refine lv_goto (tgt := 7) hx hb d_Post_loseAllOf_32 (by decide) ?_
  exact hk7 _ _ _ _ hF _ _ _ (lv_sub hl [1, 2, 0] rfl) hw
set_option maxHeartbeats 4000000 in
set_option maxRecDepth 100000 in
theorem m_Post_loseAllOf_b7 {J : gMJ} {zz : gMI} (hret : ∀ (pc : Nat) (ls : Array Slot) (H : Heap) (locs : List Loc) (I1 : gMI), (I1) = zz → decode prog_4_method_5_code pc = .ok (.return_, 1) → ga_W D T z L S I1 J s H locs → W p l e rm_Post_loseAllOf s m args below meth c H locs 0 0 Q (F0 m pc ls [])) (C : CallFix p m c prog_4_method_5_code 3 s args ga_ws "RankHouse$Post") : ∀ (n : Nat) (I : gMI) (l0 : Nat) (l1 : Int32) (l2 : Int32), f_Post_loseAllOf_b7 S J n I l0 l1 l2 = some zz → ∀ (ls : Array Slot) (H : Heap) (locs : List Loc), lv_has ls 3 [(0, .ref l0), (1, .int l1), (2, .int l2)] → ga_W D T z L S I J s H locs → W p l e rm_Post_loseAllOf s m args below meth c H locs 0 0 Q (F0 m 7 ls []) := by
  intro n
  induction n with
  | zero =>
    intro I l0 l1 l2 hF ls H locs hl hw
    rw [f_Post_loseAllOf_b7] at hF
    cases hF
  | succ n ih =>
    intro I l0 l1 l2 hF ls H locs hl hw
    have hx := C.1
    have hb := C.2.1
    rw [f_Post_loseAllOf_b7] at hF
    refine lv_iload_n hx hb d_Post_loseAllOf_7 rfl (lv_at hl 2 rfl) ?_
    by_cases h1 : l2 < 0
    · rw [if_pos h1] at hF
      refine lv_if_lt (tgt := 35) hx hb d_Post_loseAllOf_8 (by decide) (fun _ => ?_) (fun hn => absurd h1 hn)
      exact hret _ _ _ _ _ (Option.some.inj hF) d_Post_loseAllOf_35 hw
    · rw [if_neg h1] at hF
      refine lv_if_lt (tgt := 35) hx hb d_Post_loseAllOf_8 (by decide) (fun hp => absurd hp h1) (fun _ => ?_)
      refine lv_aload_n hx hb d_Post_loseAllOf_11 rfl (lv_at hl 0 rfl) ?_
      refine lv_iload_n hx hb d_Post_loseAllOf_12 rfl (lv_at hl 2 rfl) ?_
      obtain ⟨t2, hF⟩ := gd_ex hF
      obtain ⟨q3, c4, hF⟩ := ob_ex hF
      refine ga_cVq (As := [.int l2]) C hw (c_Post_at l D T z L c4) gy_Post_26 t2 rfl hl.1 ⟨Nat.le_of_ble_eq_true rfl, Nat.le_of_ble_eq_true rfl, rfl, rfl, Nat.le_of_ble_eq_true rfl, Nat.le_of_ble_eq_true rfl⟩ (Nat.le_of_ble_eq_true rfl) rfl d_Post_loseAllOf_13 (fun H locs hw => ?_)
      obtain ⟨r5, h6, hG⟩ := ob_ex hF
      clear hF
      subst h6
      have hF := hG
      obtain ⟨t7, hF⟩ := gd_ex hF
      refine ga_getI C hw gf_Post_36 t7 d_Post_loseAllOf_16 ?_
      refine lv_iload_n hx hb d_Post_loseAllOf_19 rfl (lv_at hl 1 rfl) ?_
      by_cases h8 : (I r5 4) = l1
      · rw [if_pos h8] at hF
        refine lv_icmp_ne (tgt := 29) hx hb d_Post_loseAllOf_20 (by decide) (fun hn => absurd h8 hn) (fun _ => ?_)
        refine lv_aload_n hx hb d_Post_loseAllOf_23 rfl (lv_at hl 0 rfl) ?_
        refine lv_iload_n hx hb d_Post_loseAllOf_24 rfl (lv_at hl 2 rfl) ?_
        obtain ⟨q9, I10, c11, hF⟩ := bd2_ex hF
        refine ga_cVq (As := [.int l2]) C hw (c_Post_takeOut l D T z L c11) gy_Post_39 t2 rfl hl.1 ⟨Nat.le_of_ble_eq_true rfl, Nat.le_of_ble_eq_true rfl, rfl, rfl, Nat.le_of_ble_eq_true rfl, Nat.le_of_ble_eq_true rfl⟩ (Nat.le_of_ble_eq_true rfl) rfl d_Post_loseAllOf_25 (fun H locs hw => ?_)
        obtain ⟨r12, h13, hG⟩ := ob_ex hF
        clear hF
        subst h13
        have hF := hG
        refine lv_pop hx hb d_Post_loseAllOf_28 rfl ?_
        exact m_Post_loseAllOf_b29 hret C _ ih _ _ _ _ hF _ _ _ hl hw
      · rw [if_neg h8] at hF
        refine lv_icmp_ne (tgt := 29) hx hb d_Post_loseAllOf_20 (by decide) (fun _ => ?_) (fun hp => absurd hp h8)
        exact m_Post_loseAllOf_b29 hret C _ ih _ _ _ _ hF _ _ _ hl hw
set_option maxHeartbeats 4000000 in
set_option maxRecDepth 100000 in
theorem c_Post_loseAllOf (l : Launch) (D : va_G) (T : Nat → ClassId) (z : Nat) (L : List Nat) {S : gS} {I : gMI} {J : gMJ} {p0 : Nat} {p1 : Int32} {RI : gMI} (hF : f_Post_loseAllOf S I J p0 p1 = some (RI)) : ga_Mv l y_Post_loseAllOf prog_4_method_5_code 3 (Option.none : Option Jvm.ClassFile.FieldType) rm_Post_loseAllOf [.ref p0, .int p1] D T z L S I J RI J := by
  refine Met.ofW (cc := prog_4_method_5_code) (maxL := 3) (ret := (Option.none : Option Jvm.ClassFile.FieldType)) (by decide) rfl ?_
  intro p e s m args below meth c s₁ B hml hv
  obtain ⟨ha, hv⟩ := hv
  have hx := B.exec
  have hb := B.bytes
  have hr := B.returns
  have hts := atoms_spec (ws := .code y_Post_loseAllOf prog_4_method_5_code 3 (Option.none : Option Jvm.ClassFile.FieldType) :: ga_ws) B.pre
  have hown : s.vm.findClass "RankHouse$Post" = some m.cls := findClass_of_methodNamed B.named
  have hlocks := B.notSynchronized
  have C : CallFix p m c prog_4_method_5_code 3 s args ga_ws "RankHouse$Post" := ⟨hx, hb, hml, hown, fun w h => hts w (List.mem_cons_of_mem _ h)⟩
  have hw := ga_start hv
  have hl := lv_entry ([.ref p0, .int p1]) (n := 3) (Nat.le_of_ble_eq_true rfl)
  rw [show entryFrame m args 3 = entryFrame m ([.ref p0, .int p1] : List Value).toArray 3 by rw [ha], lg_entry_eq]
  generalize (lg_sl ([.ref p0, .int p1]) ++ List.replicate (3 - (lg_sl ([.ref p0, .int p1])).length) Slot.unset).toArray = ls at hl ⊢
  have hl : lv_has ls 3 [(0, .ref p0), (1, .int p1)] := hl
  have key : ∀ Q : State → Prop, (∀ (pc : Nat) (ls : Array Slot) (H : Heap) (locs : List Loc) (I1 : gMI), (I1) = (RI) → decode prog_4_method_5_code pc = .ok (.return_, 1) → ga_W D T z L S I1 J s H locs → W p l e rm_Post_loseAllOf s m args below meth c H locs 0 0 Q (F0 m pc ls [])) → W p l e rm_Post_loseAllOf s m args below meth c s.heap [] 0 0 Q (F0 m 0 ls []) := by
    intro Q hret
    rw [f_Post_loseAllOf] at hF
    refine lv_aload_n hx hb d_Post_loseAllOf_0 rfl (lv_at hl 0 rfl) ?_
    obtain ⟨t1, hF⟩ := gd_ex hF
    refine ga_getI C hw gf_Post_22 t1 d_Post_loseAllOf_1 ?_
    refine lv_iconst (v := 1) hx hb d_Post_loseAllOf_4 (by decide) ?_
    refine lv_isub hx hb d_Post_loseAllOf_5 ?_
    refine lv_topi (fun v2 ev2 => ?_)
    replace hF := bnd_at hF ev2
    refine lv_istore_n hx hb d_Post_loseAllOf_6 rfl hl (by decide) rfl (fun ls hl => ?_)
    have hl : lv_has ls 3 [(2, .int v2), (0, .ref p0), (1, .int p1)] := hl
    exact m_Post_loseAllOf_b7 hret C gFuel _ _ _ _ hF _ _ _ (lv_sub hl [1, 2, 0] rfl) hw
  refine key _ (fun pc ls H locs I1 he hd hw => ?_)
  · cases he
    exact W.vret hx hb hr (fun t ht _ => ⟨⟨(), rfl, trivial, ga_o hw ht⟩, hw.2.2.2.1.F ht⟩) hw.2.2.2.1.2.2 hd
end WALK
