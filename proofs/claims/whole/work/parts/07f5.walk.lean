section WALK
variable {p : Program} {l : Launch} {e : Env} {s : State} {m : MethodId} {args : Array Value} {below : List Frame} {meth : Method} {c : Code} {Q : State → Prop} {D : va_G} {T : Nat → ClassId} {z : Nat} {L : List Nat} {S : gS}
set_option maxHeartbeats 4000000 in
set_option maxRecDepth 100000 in
theorem m_M_resend_b30 {zz : Int32 × gMI × gMJ} (hret : ∀ (pc : Nat) (ls : Array Slot) (H : Heap) (locs : List Loc) (x : Int32) (I1 : gMI) (J1 : gMJ), (x, I1, J1) = zz → decode prog_10_method_42_code pc = .ok (.ireturn, 1) → ga_W D T z L S I1 J1 s H locs → W p l e rm_M_resend s m args below meth c H locs 0 0 Q (F0 m pc ls [.int x])) (C : CallFix p m c prog_10_method_42_code 5 s args ga_ws "RankHouseModel") : ∀ (I : gMI) (J : gMJ) (s0 : Int32) (s1 : Nat) (l0 : Nat) (l1 : Int32) (l2 : Int32), f_M_resend_b30 S I J s0 s1 l0 l1 l2 = some zz → ∀ (ls : Array Slot) (H : Heap) (locs : List Loc), lv_has ls 5 [(0, .ref l0), (1, .int l1), (2, .int l2)] → ga_W D T z L S I J s H locs → W p l e rm_M_resend s m args below meth c H locs 0 0 Q (F0 m 30 ls [.int s0, .ref s1]) := by
  intro I J s0 s1 l0 l1 l2 hF ls H locs hl hw
  have hx := C.1
  have hb := C.2.1
  rw [f_M_resend_b30] at hF
  obtain ⟨t1, hF⟩ := gd_ex hF
  obtain ⟨I2, eI2, hF⟩ := bnd_ex hF
  refine ga_putI C hw gp_M_114 t1 rfl rfl eI2 d_M_resend_30 (fun H locs hw => ?_)
  refine lv_aload_n hx hb d_M_resend_33 rfl (lv_at hl 0 rfl) ?_
  obtain ⟨t3, hF⟩ := gd_ex hF
  refine ga_getI C hw gf_M_114 t3 d_M_resend_34 ?_
  by_cases h4 : (I2 l0 0) ≤ 0
  · rw [if_pos h4] at hF
    refine lv_if_le (tgt := 42) hx hb d_M_resend_37 (by decide) (fun _ => ?_) (fun hn => absurd h4 hn)
    refine lv_iconst (v := 0) hx hb d_M_resend_42 (by decide) ?_
    refine lv_istore_n hx hb d_M_resend_43 rfl hl (by decide) rfl (fun ls hl => ?_)
    have hl : lv_has ls 5 [(3, .int (0 : Int32)), (0, .ref l0), (1, .int l1), (2, .int l2)] := hl
    refine lv_aload_n hx hb d_M_resend_44 rfl (lv_at hl 1 rfl) ?_
    refine lv_iload_n hx hb d_M_resend_45 rfl (lv_at hl 3 rfl) ?_
    obtain ⟨I5, J6, c7, hF⟩ := bd2_ex hF
    refine ga_cVv (As := [.int l2]) C hw (c_M_readyAsk l D T z L c7) gy_M_142 t3 rfl hl.1 ⟨Nat.le_of_ble_eq_true rfl, Nat.le_of_ble_eq_true rfl, rfl, rfl, Nat.le_of_ble_eq_true rfl, Nat.le_of_ble_eq_true rfl⟩ (Nat.le_of_ble_eq_true rfl) rfl d_M_resend_46 (fun H locs hw => ?_)
    refine lv_iconst (v := 0) hx hb d_M_resend_49 (by decide) ?_
    refine lv_istore hx hb d_M_resend_50 hl (by decide) rfl (fun ls hl => ?_)
    have hl : lv_has ls 5 [(4, .int (0 : Int32)), (3, .int (0 : Int32)), (0, .ref l0), (1, .int l1), (2, .int l2)] := hl
    exact m_M_resend_b52 hret C gFuel _ _ _ _ _ _ _ hF _ _ _ (lv_sub hl [2, 3, 4, 1, 0] rfl) hw
  · rw [if_neg h4] at hF
    refine lv_if_le (tgt := 42) hx hb d_M_resend_37 (by decide) (fun hp => absurd hp h4) (fun _ => ?_)
    refine lv_iconst (v := 0) hx hb d_M_resend_40 (by decide) ?_
    exact hret _ _ _ _ _ _ _ (Option.some.inj hF) d_M_resend_41 hw
set_option maxHeartbeats 4000000 in
set_option maxRecDepth 100000 in
theorem c_M_resend (l : Launch) (D : va_G) (T : Nat → ClassId) (z : Nat) (L : List Nat) {S : gS} {I : gMI} {J : gMJ} {p0 : Nat} {p1 : Int32} {r : Int32} {RI : gMI} {RJ : gMJ} (hF : f_M_resend S I J p0 p1 = some (r, RI, RJ)) : ga_Mi l y_M_resend prog_10_method_42_code 5 (Option.some Jvm.ClassFile.FieldType.int) rm_M_resend [.ref p0, .int p1] D T z L S I J r RI RJ := by
  refine Met.ofW (cc := prog_10_method_42_code) (maxL := 5) (ret := (Option.some Jvm.ClassFile.FieldType.int)) (by decide) rfl ?_
  intro p e s m args below meth c s₁ B hml hv
  obtain ⟨ha, hv⟩ := hv
  have hx := B.exec
  have hb := B.bytes
  have hr := B.returns
  have hts := atoms_spec (ws := .code y_M_resend prog_10_method_42_code 5 (Option.some Jvm.ClassFile.FieldType.int) :: ga_ws) B.pre
  have hown : s.vm.findClass "RankHouseModel" = some m.cls := findClass_of_methodNamed B.named
  have hlocks := B.notSynchronized
  have C : CallFix p m c prog_10_method_42_code 5 s args ga_ws "RankHouseModel" := ⟨hx, hb, hml, hown, fun w h => hts w (List.mem_cons_of_mem _ h)⟩
  have hw := ga_start hv
  have hl := lv_entry ([.ref p0, .int p1]) (n := 5) (Nat.le_of_ble_eq_true rfl)
  rw [show entryFrame m args 5 = entryFrame m ([.ref p0, .int p1] : List Value).toArray 5 by rw [ha], lg_entry_eq]
  generalize (lg_sl ([.ref p0, .int p1]) ++ List.replicate (5 - (lg_sl ([.ref p0, .int p1])).length) Slot.unset).toArray = ls at hl ⊢
  have hl : lv_has ls 5 [(0, .ref p0), (1, .int p1)] := hl
  have key : ∀ Q : State → Prop, (∀ (pc : Nat) (ls : Array Slot) (H : Heap) (locs : List Loc) (x : Int32) (I1 : gMI) (J1 : gMJ), (x, I1, J1) = (r, RI, RJ) → decode prog_10_method_42_code pc = .ok (.ireturn, 1) → ga_W D T z L S I1 J1 s H locs → W p l e rm_M_resend s m args below meth c H locs 0 0 Q (F0 m pc ls [.int x])) → W p l e rm_M_resend s m args below meth c s.heap [] 0 0 Q (F0 m 0 ls []) := by
    intro Q hret
    rw [f_M_resend] at hF
    refine lv_aload_n hx hb d_M_resend_0 rfl (lv_at hl 0 rfl) ?_
    refine lv_iload_n hx hb d_M_resend_1 rfl (lv_at hl 1 rfl) ?_
    obtain ⟨t1, hF⟩ := gd_ex hF
    obtain ⟨x2, c3, hF⟩ := ob_ex hF
    refine ga_cVi (As := [.int p1]) C hw (c_M_placeOf l D T z L c3) gy_M_217 t1 rfl hl.1 ⟨Nat.le_of_ble_eq_true rfl, Nat.le_of_ble_eq_true rfl, rfl, rfl, Nat.le_of_ble_eq_true rfl, Nat.le_of_ble_eq_true rfl⟩ (Nat.le_of_ble_eq_true rfl) rfl d_M_resend_2 (fun H locs hw => ?_)
    refine lv_istore_n hx hb d_M_resend_5 rfl hl (by decide) rfl (fun ls hl => ?_)
    have hl : lv_has ls 5 [(2, .int x2), (0, .ref p0), (1, .int p1)] := hl
    refine lv_aload_n hx hb d_M_resend_6 rfl (lv_at hl 1 rfl) ?_
    refine lv_iload_n hx hb d_M_resend_7 rfl (lv_at hl 0 rfl) ?_
    refine lv_iconst (v := -1) hx hb d_M_resend_8 (by decide) ?_
    by_cases h4 : x2 = (-1 : Int32)
    · rw [if_pos h4] at hF
      refine lv_icmp_ne (tgt := 16) hx hb d_M_resend_9 (by decide) (fun hn => absurd h4 hn) (fun _ => ?_)
      refine lv_iconst (v := 1) hx hb d_M_resend_12 (by decide) ?_
      refine lv_goto (tgt := 30) hx hb d_M_resend_13 (by decide) ?_
      exact m_M_resend_b30 hret C _ _ _ _ _ _ _ hF _ _ _ (lv_sub hl [1, 2, 0] rfl) hw
    · rw [if_neg h4] at hF
      refine lv_icmp_ne (tgt := 16) hx hb d_M_resend_9 (by decide) (fun _ => ?_) (fun hp => absurd hp h4)
      refine lv_aload_n hx hb d_M_resend_16 rfl (lv_at hl 1 rfl) ?_
      obtain ⟨r5, hr5, hF⟩ := ob_ex hF
      refine ga_getR C hw gf_M_41 t1 hr5 d_M_resend_17 ?_
      refine lv_iload_n hx hb d_M_resend_20 rfl (lv_at hl 0 rfl) ?_
      obtain ⟨t6, hF⟩ := gd_ex hF
      obtain ⟨b7, hF⟩ := gd_ex hF
      refine ga_iald C hw t6 b7 d_M_resend_21 ?_
      by_cases h8 : (I r5 x2.toNatClampNeg) = 0
      · rw [if_pos h8] at hF
        refine lv_if_eq (tgt := 29) hx hb d_M_resend_22 (by decide) (fun _ => ?_) (fun hn => absurd h8 hn)
        refine lv_iconst (v := 0) hx hb d_M_resend_29 (by decide) ?_
        exact m_M_resend_b30 hret C _ _ _ _ _ _ _ hF _ _ _ (lv_sub hl [1, 2, 0] rfl) hw
      · rw [if_neg h8] at hF
        refine lv_if_eq (tgt := 29) hx hb d_M_resend_22 (by decide) (fun hp => absurd hp h8) (fun _ => ?_)
        refine lv_iconst (v := 2) hx hb d_M_resend_25 (by decide) ?_
        refine lv_goto (tgt := 30) hx hb d_M_resend_26 (by decide) ?_
        exact m_M_resend_b30 hret C _ _ _ _ _ _ _ hF _ _ _ (lv_sub hl [1, 2, 0] rfl) hw
  refine key _ (fun pc ls H locs x I1 J1 he hd hw => ?_)
  · cases he
    exact W.iret hx hb hr (fun t ht _ => ⟨⟨_, (), rfl, rfl, ga_o hw ht⟩, hw.2.2.2.1.F ht⟩) hw.2.2.2.1.2.2 hd
set_option maxHeartbeats 4000000 in
set_option maxRecDepth 100000 in
theorem m_M_takeOver_b56 {zz : Int32 × gMI × gMJ} (hret : ∀ (pc : Nat) (ls : Array Slot) (H : Heap) (locs : List Loc) (x : Int32) (I1 : gMI) (J1 : gMJ), (x, I1, J1) = zz → decode prog_10_method_43_code pc = .ok (.ireturn, 1) → ga_W D T z L S I1 J1 s H locs → W p l e rm_M_takeOver s m args below meth c H locs 0 0 Q (F0 m pc ls [.int x])) (C : CallFix p m c prog_10_method_43_code 4 s args ga_ws "RankHouseModel") : ∀ (I : gMI) (J : gMJ) (s0 : Int32) (s1 : Nat) (l0 : Nat) (l2 : Int32) (l3 : Int32), f_M_takeOver_b56 S I J s0 s1 l0 l2 l3 = some zz → ∀ (ls : Array Slot) (H : Heap) (locs : List Loc), lv_has ls 4 [(0, .ref l0), (2, .int l2), (3, .int l3)] → ga_W D T z L S I J s H locs → W p l e rm_M_takeOver s m args below meth c H locs 0 0 Q (F0 m 56 ls [.int s0, .ref s1]) := by
  intro I J s0 s1 l0 l2 l3 hF ls H locs hl hw
  have hx := C.1
  have hb := C.2.1
  rw [f_M_takeOver_b56] at hF
  obtain ⟨t1, hF⟩ := gd_ex hF
  obtain ⟨I2, eI2, hF⟩ := bnd_ex hF
  refine ga_putI C hw gp_M_114 t1 rfl rfl eI2 d_M_takeOver_56 (fun H locs hw => ?_)
  refine lv_aload_n hx hb d_M_takeOver_59 rfl (lv_at hl 0 rfl) ?_
  obtain ⟨t3, hF⟩ := gd_ex hF
  refine ga_getI C hw gf_M_114 t3 d_M_takeOver_60 ?_
  by_cases h4 : (I2 l0 0) ≤ 0
  · rw [if_pos h4] at hF
    refine lv_if_le (tgt := 68) hx hb d_M_takeOver_63 (by decide) (fun _ => ?_) (fun hn => absurd h4 hn)
    refine lv_aload_n hx hb d_M_takeOver_68 rfl (lv_at hl 0 rfl) ?_
    refine lv_iload_n hx hb d_M_takeOver_69 rfl (lv_at hl 2 rfl) ?_
    refine lv_iload_n hx hb d_M_takeOver_70 rfl (lv_at hl 1 rfl) ?_
    obtain ⟨I5, J6, c7, hF⟩ := bd2_ex hF
    refine ga_cVv (As := [.int l3, .int l2]) C hw (c_M_begin l D T z L c7) gy_M_236 t3 rfl hl.1 ⟨Nat.le_of_ble_eq_true rfl, Nat.le_of_ble_eq_true rfl, rfl, rfl, Nat.le_of_ble_eq_true rfl, Nat.le_of_ble_eq_true rfl⟩ (Nat.le_of_ble_eq_true rfl) rfl d_M_takeOver_71 (fun H locs hw => ?_)
    refine lv_aload_n hx hb d_M_takeOver_74 rfl (lv_at hl 0 rfl) ?_
    obtain ⟨r8, hr8, hF⟩ := ob_ex hF
    refine ga_getR C hw gf_M_35 t3 hr8 d_M_takeOver_75 ?_
    refine lv_iload_n hx hb d_M_takeOver_78 rfl (lv_at hl 2 rfl) ?_
    obtain ⟨t9, hF⟩ := gd_ex hF
    obtain ⟨b10, hF⟩ := gd_ex hF
    refine ga_iald C hw t9 b10 d_M_takeOver_79 ?_
    exact hret _ _ _ _ _ _ _ (Option.some.inj hF) d_M_takeOver_80 hw
  · rw [if_neg h4] at hF
    refine lv_if_le (tgt := 68) hx hb d_M_takeOver_63 (by decide) (fun hp => absurd hp h4) (fun _ => ?_)
    refine lv_iconst (v := 0) hx hb d_M_takeOver_66 (by decide) ?_
    exact hret _ _ _ _ _ _ _ (Option.some.inj hF) d_M_takeOver_67 hw
set_option maxHeartbeats 4000000 in
set_option maxRecDepth 100000 in
theorem m_M_takeOver_b19 {zz : Int32 × gMI × gMJ} (hret : ∀ (pc : Nat) (ls : Array Slot) (H : Heap) (locs : List Loc) (x : Int32) (I1 : gMI) (J1 : gMJ), (x, I1, J1) = zz → decode prog_10_method_43_code pc = .ok (.ireturn, 1) → ga_W D T z L S I1 J1 s H locs → W p l e rm_M_takeOver s m args below meth c H locs 0 0 Q (F0 m pc ls [.int x])) (C : CallFix p m c prog_10_method_43_code 4 s args ga_ws "RankHouseModel") : ∀ (I : gMI) (J : gMJ) (s0 : Nat) (l0 : Nat) (l2 : Int32) (l3 : Int32), f_M_takeOver_b19 S I J s0 l0 l2 l3 = some zz → ∀ (ls : Array Slot) (H : Heap) (locs : List Loc), lv_has ls 4 [(0, .ref l0), (2, .int l2), (3, .int l3)] → ga_W D T z L S I J s H locs → W p l e rm_M_takeOver s m args below meth c H locs 0 0 Q (F0 m 19 ls [.ref s0]) := by
  intro I J s0 l0 l2 l3 hF ls H locs hl hw
  have hx := C.1
  have hb := C.2.1
  rw [f_M_takeOver_b19] at hF
  refine lv_iconst (v := 1) hx hb d_M_takeOver_19 (by decide) ?_
  refine lv_goto (tgt := 56) hx hb d_M_takeOver_20 (by decide) ?_
  exact m_M_takeOver_b56 hret C _ _ _ _ _ _ _ hF _ _ _ hl hw
set_option maxHeartbeats 4000000 in
set_option maxRecDepth 100000 in
theorem m_M_takeOver_b51 {zz : Int32 × gMI × gMJ} (hret : ∀ (pc : Nat) (ls : Array Slot) (H : Heap) (locs : List Loc) (x : Int32) (I1 : gMI) (J1 : gMJ), (x, I1, J1) = zz → decode prog_10_method_43_code pc = .ok (.ireturn, 1) → ga_W D T z L S I1 J1 s H locs → W p l e rm_M_takeOver s m args below meth c H locs 0 0 Q (F0 m pc ls [.int x])) (C : CallFix p m c prog_10_method_43_code 4 s args ga_ws "RankHouseModel") : ∀ (I : gMI) (J : gMJ) (s0 : Nat) (l0 : Nat) (l2 : Int32) (l3 : Int32), f_M_takeOver_b51 S I J s0 l0 l2 l3 = some zz → ∀ (ls : Array Slot) (H : Heap) (locs : List Loc), lv_has ls 4 [(0, .ref l0), (2, .int l2), (3, .int l3)] → ga_W D T z L S I J s H locs → W p l e rm_M_takeOver s m args below meth c H locs 0 0 Q (F0 m 51 ls [.ref s0]) := by
  intro I J s0 l0 l2 l3 hF ls H locs hl hw
  have hx := C.1
  have hb := C.2.1
  rw [f_M_takeOver_b51] at hF
  refine lv_iconst (v := 2) hx hb d_M_takeOver_51 (by decide) ?_
  refine lv_goto (tgt := 56) hx hb d_M_takeOver_52 (by decide) ?_
  exact m_M_takeOver_b56 hret C _ _ _ _ _ _ _ hF _ _ _ hl hw
set_option maxHeartbeats 4000000 in
set_option maxRecDepth 100000 in
theorem m_M_takeOver_b55 {zz : Int32 × gMI × gMJ} (hret : ∀ (pc : Nat) (ls : Array Slot) (H : Heap) (locs : List Loc) (x : Int32) (I1 : gMI) (J1 : gMJ), (x, I1, J1) = zz → decode prog_10_method_43_code pc = .ok (.ireturn, 1) → ga_W D T z L S I1 J1 s H locs → W p l e rm_M_takeOver s m args below meth c H locs 0 0 Q (F0 m pc ls [.int x])) (C : CallFix p m c prog_10_method_43_code 4 s args ga_ws "RankHouseModel") : ∀ (I : gMI) (J : gMJ) (s0 : Nat) (l0 : Nat) (l2 : Int32) (l3 : Int32), f_M_takeOver_b55 S I J s0 l0 l2 l3 = some zz → ∀ (ls : Array Slot) (H : Heap) (locs : List Loc), lv_has ls 4 [(0, .ref l0), (2, .int l2), (3, .int l3)] → ga_W D T z L S I J s H locs → W p l e rm_M_takeOver s m args below meth c H locs 0 0 Q (F0 m 55 ls [.ref s0]) := by
  intro I J s0 l0 l2 l3 hF ls H locs hl hw
  have hx := C.1
  have hb := C.2.1
  rw [f_M_takeOver_b55] at hF
  refine lv_iconst (v := 0) hx hb d_M_takeOver_55 (by decide) ?_
  exact m_M_takeOver_b56 hret C _ _ _ _ _ _ _ hF _ _ _ hl hw
set_option maxHeartbeats 4000000 in
set_option maxRecDepth 100000 in
theorem c_M_takeOver (l : Launch) (D : va_G) (T : Nat → ClassId) (z : Nat) (L : List Nat) {S : gS} {I : gMI} {J : gMJ} {p0 : Nat} {p1 : Int32} {p2 : Int32} {r : Int32} {RI : gMI} {RJ : gMJ} (hF : f_M_takeOver S I J p0 p1 p2 = some (r, RI, RJ)) : ga_Mi l y_M_takeOver prog_10_method_43_code 4 (Option.some Jvm.ClassFile.FieldType.int) rm_M_takeOver [.ref p0, .int p1, .int p2] D T z L S I J r RI RJ := by
  refine Met.ofW (cc := prog_10_method_43_code) (maxL := 4) (ret := (Option.some Jvm.ClassFile.FieldType.int)) (by decide) rfl ?_
  intro p e s m args below meth c s₁ B hml hv
  obtain ⟨ha, hv⟩ := hv
  have hx := B.exec
  have hb := B.bytes
  have hr := B.returns
  have hts := atoms_spec (ws := .code y_M_takeOver prog_10_method_43_code 4 (Option.some Jvm.ClassFile.FieldType.int) :: ga_ws) B.pre
  have hown : s.vm.findClass "RankHouseModel" = some m.cls := findClass_of_methodNamed B.named
  have hlocks := B.notSynchronized
  have C : CallFix p m c prog_10_method_43_code 4 s args ga_ws "RankHouseModel" := ⟨hx, hb, hml, hown, fun w h => hts w (List.mem_cons_of_mem _ h)⟩
  have hw := ga_start hv
  have hl := lv_entry ([.ref p0, .int p1, .int p2]) (n := 4) (Nat.le_of_ble_eq_true rfl)
  rw [show entryFrame m args 4 = entryFrame m ([.ref p0, .int p1, .int p2] : List Value).toArray 4 by rw [ha], lg_entry_eq]
  generalize (lg_sl ([.ref p0, .int p1, .int p2]) ++ List.replicate (4 - (lg_sl ([.ref p0, .int p1, .int p2])).length) Slot.unset).toArray = ls at hl ⊢
  have hl : lv_has ls 4 [(0, .ref p0), (1, .int p1), (2, .int p2)] := hl
  have key : ∀ Q : State → Prop, (∀ (pc : Nat) (ls : Array Slot) (H : Heap) (locs : List Loc) (x : Int32) (I1 : gMI) (J1 : gMJ), (x, I1, J1) = (r, RI, RJ) → decode prog_10_method_43_code pc = .ok (.ireturn, 1) → ga_W D T z L S I1 J1 s H locs → W p l e rm_M_takeOver s m args below meth c H locs 0 0 Q (F0 m pc ls [.int x])) → W p l e rm_M_takeOver s m args below meth c s.heap [] 0 0 Q (F0 m 0 ls []) := by
    intro Q hret
    rw [f_M_takeOver] at hF
    refine lv_aload_n hx hb d_M_takeOver_0 rfl (lv_at hl 0 rfl) ?_
    refine lv_iload_n hx hb d_M_takeOver_1 rfl (lv_at hl 1 rfl) ?_
    obtain ⟨t1, hF⟩ := gd_ex hF
    obtain ⟨x2, c3, hF⟩ := ob_ex hF
    refine ga_cVi (As := [.int p1]) C hw (c_M_placeOf l D T z L c3) gy_M_217 t1 rfl hl.1 ⟨Nat.le_of_ble_eq_true rfl, Nat.le_of_ble_eq_true rfl, rfl, rfl, Nat.le_of_ble_eq_true rfl, Nat.le_of_ble_eq_true rfl⟩ (Nat.le_of_ble_eq_true rfl) rfl d_M_takeOver_2 (fun H locs hw => ?_)
    refine lv_istore_n hx hb d_M_takeOver_5 rfl hl (by decide) rfl (fun ls hl => ?_)
    have hl : lv_has ls 4 [(3, .int x2), (0, .ref p0), (1, .int p1), (2, .int p2)] := hl
    refine lv_aload_n hx hb d_M_takeOver_6 rfl (lv_at hl 1 rfl) ?_
    refine lv_iload_n hx hb d_M_takeOver_7 rfl (lv_at hl 0 rfl) ?_
    refine lv_iconst (v := -1) hx hb d_M_takeOver_8 (by decide) ?_
    by_cases h4 : x2 = (-1 : Int32)
    · rw [if_pos h4] at hF
      refine lv_icmp_eq (tgt := 19) hx hb d_M_takeOver_9 (by decide) (fun _ => ?_) (fun hn => absurd h4 hn)
      exact m_M_takeOver_b19 hret C _ _ _ _ _ _ hF _ _ _ (lv_sub hl [1, 3, 0] rfl) hw
    · rw [if_neg h4] at hF
      refine lv_icmp_eq (tgt := 19) hx hb d_M_takeOver_9 (by decide) (fun hp => absurd hp h4) (fun _ => ?_)
      refine lv_iload_n hx hb d_M_takeOver_12 rfl (lv_at hl 3 rfl) ?_
      obtain ⟨x5, c6, hF⟩ := ob_ex hF
      refine ga_cSi (As := [.int p2]) C hw (c_M_isLogger l D T z L c6) gs_M_118 rfl hl.1 ⟨Nat.le_of_ble_eq_true rfl, Nat.le_of_ble_eq_true rfl, rfl, rfl, Nat.le_of_ble_eq_true rfl, Nat.le_of_ble_eq_true rfl⟩ (Nat.le_of_ble_eq_true rfl) rfl d_M_takeOver_13 (fun H locs hw => ?_)
      by_cases h7 : x5 = 0
      · rw [if_pos h7] at hF
        refine lv_if_ne (tgt := 23) hx hb d_M_takeOver_16 (by decide) (fun hn => absurd h7 hn) (fun _ => ?_)
        exact m_M_takeOver_b19 hret C _ _ _ _ _ _ hF _ _ _ (lv_sub hl [1, 3, 0] rfl) hw
      · rw [if_neg h7] at hF
        refine lv_if_ne (tgt := 23) hx hb d_M_takeOver_16 (by decide) (fun _ => ?_) (fun hp => absurd hp h7)
        refine lv_aload_n hx hb d_M_takeOver_23 rfl (lv_at hl 1 rfl) ?_
        obtain ⟨r8, hr8, hF⟩ := ob_ex hF
        refine ga_getR C hw gf_M_7 t1 hr8 d_M_takeOver_24 ?_
        refine lv_iload_n hx hb d_M_takeOver_27 rfl (lv_at hl 3 rfl) ?_
        obtain ⟨t9, hF⟩ := gd_ex hF
        obtain ⟨b10, hF⟩ := gd_ex hF
        refine ga_zald C hw t9 b10 d_M_takeOver_28 ?_
        by_cases h11 : (I r8 p2.toNatClampNeg) = 0
        · rw [if_pos h11] at hF
          refine lv_if_ne (tgt := 51) hx hb d_M_takeOver_29 (by decide) (fun hn => absurd h11 hn) (fun _ => ?_)
          refine lv_aload_n hx hb d_M_takeOver_32 rfl (lv_at hl 1 rfl) ?_
          obtain ⟨r12, hr12, hF⟩ := ob_ex hF
          refine ga_getR C hw gf_M_41 t1 hr12 d_M_takeOver_33 ?_
          refine lv_iload_n hx hb d_M_takeOver_36 rfl (lv_at hl 0 rfl) ?_
          obtain ⟨t13, hF⟩ := gd_ex hF
          obtain ⟨b14, hF⟩ := gd_ex hF
          refine ga_iald C hw t13 b14 d_M_takeOver_37 ?_
          by_cases h15 : (I r12 x2.toNatClampNeg) = 0
          · rw [if_pos h15] at hF
            refine lv_if_eq (tgt := 55) hx hb d_M_takeOver_38 (by decide) (fun _ => ?_) (fun hn => absurd h15 hn)
            exact m_M_takeOver_b55 hret C _ _ _ _ _ _ hF _ _ _ (lv_sub hl [1, 3, 0] rfl) hw
          · rw [if_neg h15] at hF
            refine lv_if_eq (tgt := 55) hx hb d_M_takeOver_38 (by decide) (fun hp => absurd hp h15) (fun _ => ?_)
            refine lv_aload_n hx hb d_M_takeOver_41 rfl (lv_at hl 1 rfl) ?_
            refine ga_getR C hw gf_M_41 t1 hr12 d_M_takeOver_42 ?_
            refine lv_iload_n hx hb d_M_takeOver_45 rfl (lv_at hl 0 rfl) ?_
            refine ga_iald C hw t13 b14 d_M_takeOver_46 ?_
            refine lv_iconst (v := 3) hx hb d_M_takeOver_47 (by decide) ?_
            by_cases h16 : (I r12 x2.toNatClampNeg) = (3 : Int32)
            · rw [if_pos h16] at hF
              refine lv_icmp_eq (tgt := 55) hx hb d_M_takeOver_48 (by decide) (fun _ => ?_) (fun hn => absurd h16 hn)
              exact m_M_takeOver_b55 hret C _ _ _ _ _ _ hF _ _ _ (lv_sub hl [1, 3, 0] rfl) hw
            · rw [if_neg h16] at hF
              refine lv_icmp_eq (tgt := 55) hx hb d_M_takeOver_48 (by decide) (fun hp => absurd hp h16) (fun _ => ?_)
              exact m_M_takeOver_b51 hret C _ _ _ _ _ _ hF _ _ _ (lv_sub hl [1, 3, 0] rfl) hw
        · rw [if_neg h11] at hF
          refine lv_if_ne (tgt := 51) hx hb d_M_takeOver_29 (by decide) (fun _ => ?_) (fun hp => absurd hp h11)
          exact m_M_takeOver_b51 hret C _ _ _ _ _ _ hF _ _ _ (lv_sub hl [1, 3, 0] rfl) hw
  refine key _ (fun pc ls H locs x I1 J1 he hd hw => ?_)
  · cases he
    exact W.iret hx hb hr (fun t ht _ => ⟨⟨_, (), rfl, rfl, ga_o hw ht⟩, hw.2.2.2.1.F ht⟩) hw.2.2.2.1.2.2 hd
set_option maxHeartbeats 4000000 in
set_option maxRecDepth 100000 in
theorem m_M_crash_b80 {J : gMJ} {zz : Int32 × gMI} (hret : ∀ (pc : Nat) (ls : Array Slot) (H : Heap) (locs : List Loc) (x : Int32) (I1 : gMI), (x, I1) = zz → decode prog_10_method_44_code pc = .ok (.ireturn, 1) → ga_W D T z L S I1 J s H locs → W p l e rm_M_crash s m args below meth c H locs 0 0 Q (F0 m pc ls [.int x])) (C : CallFix p m c prog_10_method_44_code 4 s args ga_ws "RankHouseModel") (k36 : gMI → Nat → Int32 → Int32 → Int32 → Option (Int32 × gMI)) (hk36 : ∀ (I : gMI) (l0 : Nat) (l1 : Int32) (l2 : Int32) (l3 : Int32), k36 I l0 l1 l2 l3 = some zz → ∀ (ls : Array Slot) (H : Heap) (locs : List Loc), lv_has ls 4 [(0, .ref l0), (1, .int l1), (2, .int l2), (3, .int l3)] → ga_W D T z L S I J s H locs → W p l e rm_M_crash s m args below meth c H locs 0 0 Q (F0 m 36 ls [])) : ∀ (I : gMI) (l0 : Nat) (l1 : Int32) (l2 : Int32) (l3 : Int32), f_M_crash_b80 S J k36 I l0 l1 l2 l3 = some zz → ∀ (ls : Array Slot) (H : Heap) (locs : List Loc), lv_has ls 4 [(0, .ref l0), (1, .int l1), (2, .int l2), (3, .int l3)] → ga_W D T z L S I J s H locs → W p l e rm_M_crash s m args below meth c H locs 0 0 Q (F0 m 80 ls []) := by
  intro I l0 l1 l2 l3 hF ls H locs hl hw
  have hx := C.1
  have hb := C.2.1
  rw [f_M_crash_b80] at hF
  obtain ⟨v1, ev1, hF⟩ := bnd_ex hF
  refine lv_iinc (k := 3) (v := v1) hx hb d_M_crash_80 hl rfl (by rw [ev1]; rfl) (by decide) rfl (fun ls hl => ?_)
  have hl : lv_has ls 4 [(3, .int v1), (0, .ref l0), (1, .int l1), (2, .int l2)] := hl
  refine lv_goto (tgt := 36) hx hb d_M_crash_83 (by decide) ?_
  exact hk36 _ _ _ _ _ hF _ _ _ (lv_sub hl [1, 2, 3, 0] rfl) hw
set_option maxHeartbeats 4000000 in
set_option maxRecDepth 100000 in
theorem m_M_crash_b36 {J : gMJ} {zz : Int32 × gMI} (hret : ∀ (pc : Nat) (ls : Array Slot) (H : Heap) (locs : List Loc) (x : Int32) (I1 : gMI), (x, I1) = zz → decode prog_10_method_44_code pc = .ok (.ireturn, 1) → ga_W D T z L S I1 J s H locs → W p l e rm_M_crash s m args below meth c H locs 0 0 Q (F0 m pc ls [.int x])) (C : CallFix p m c prog_10_method_44_code 4 s args ga_ws "RankHouseModel") : ∀ (n : Nat) (I : gMI) (l0 : Nat) (l1 : Int32) (l2 : Int32) (l3 : Int32), f_M_crash_b36 S J n I l0 l1 l2 l3 = some zz → ∀ (ls : Array Slot) (H : Heap) (locs : List Loc), lv_has ls 4 [(0, .ref l0), (1, .int l1), (2, .int l2), (3, .int l3)] → ga_W D T z L S I J s H locs → W p l e rm_M_crash s m args below meth c H locs 0 0 Q (F0 m 36 ls []) := by
  intro n
  induction n with
  | zero =>
    intro I l0 l1 l2 l3 hF ls H locs hl hw
    rw [f_M_crash_b36] at hF
    cases hF
  | succ n ih =>
    intro I l0 l1 l2 l3 hF ls H locs hl hw
    have hx := C.1
    have hb := C.2.1
    rw [f_M_crash_b36] at hF
    refine lv_iload_n hx hb d_M_crash_36 rfl (lv_at hl 3 rfl) ?_
    refine lv_bipush (v := 8) hx hb d_M_crash_37 (by decide) ?_
    by_cases h1 : (8 : Int32) ≤ l3
    · rw [if_pos h1] at hF
      refine lv_icmp_ge (tgt := 86) hx hb d_M_crash_39 (by decide) (fun _ => ?_) (fun hn => absurd h1 hn)
      refine lv_iload_n hx hb d_M_crash_86 rfl (lv_at hl 2 rfl) ?_
      exact hret _ _ _ _ _ _ (Option.some.inj hF) d_M_crash_87 hw
    · rw [if_neg h1] at hF
      refine lv_icmp_ge (tgt := 86) hx hb d_M_crash_39 (by decide) (fun hp => absurd hp h1) (fun _ => ?_)
      refine lv_aload_n hx hb d_M_crash_42 rfl (lv_at hl 0 rfl) ?_
      obtain ⟨t2, hF⟩ := gd_ex hF
      obtain ⟨r3, hr3, hF⟩ := ob_ex hF
      refine ga_getR C hw gf_M_20 t2 hr3 d_M_crash_43 ?_
      refine lv_iload_n hx hb d_M_crash_46 rfl (lv_at hl 3 rfl) ?_
      obtain ⟨t4, hF⟩ := gd_ex hF
      obtain ⟨b5, hF⟩ := gd_ex hF
      refine ga_iald C hw t4 b5 d_M_crash_47 ?_
      by_cases h6 : (I r3 l3.toNatClampNeg) ≤ 0
      · rw [if_pos h6] at hF
        refine lv_if_le (tgt := 80) hx hb d_M_crash_48 (by decide) (fun _ => ?_) (fun hn => absurd h6 hn)
        exact m_M_crash_b80 hret C _ ih _ _ _ _ _ hF _ _ _ hl hw
      · rw [if_neg h6] at hF
        refine lv_if_le (tgt := 80) hx hb d_M_crash_48 (by decide) (fun hp => absurd hp h6) (fun _ => ?_)
        refine lv_aload_n hx hb d_M_crash_51 rfl (lv_at hl 0 rfl) ?_
        obtain ⟨r7, hr7, hF⟩ := ob_ex hF
        refine ga_getR C hw gf_M_32 t2 hr7 d_M_crash_52 ?_
        refine lv_iload_n hx hb d_M_crash_55 rfl (lv_at hl 3 rfl) ?_
        obtain ⟨t8, hF⟩ := gd_ex hF
        obtain ⟨b9, hF⟩ := gd_ex hF
        refine ga_iald C hw t8 b9 d_M_crash_56 ?_
        refine lv_iload_n hx hb d_M_crash_57 rfl (lv_at hl 1 rfl) ?_
        by_cases h10 : (I r7 l3.toNatClampNeg) = l1
        · rw [if_pos h10] at hF
          refine lv_icmp_ne (tgt := 80) hx hb d_M_crash_58 (by decide) (fun hn => absurd h10 hn) (fun _ => ?_)
          refine lv_aload_n hx hb d_M_crash_61 rfl (lv_at hl 0 rfl) ?_
          obtain ⟨r11, hr11, hF⟩ := ob_ex hF
          refine ga_getR C hw gf_M_41 t2 hr11 d_M_crash_62 ?_
          refine lv_iload_n hx hb d_M_crash_65 rfl (lv_at hl 3 rfl) ?_
          obtain ⟨t12, hF⟩ := gd_ex hF
          obtain ⟨b13, hF⟩ := gd_ex hF
          refine ga_iald C hw t12 b13 d_M_crash_66 ?_
          by_cases h14 : (I r11 l3.toNatClampNeg) = 0
          · rw [if_pos h14] at hF
            refine lv_if_ne (tgt := 80) hx hb d_M_crash_67 (by decide) (fun hn => absurd h14 hn) (fun _ => ?_)
            refine lv_aload_n hx hb d_M_crash_70 rfl (lv_at hl 0 rfl) ?_
            refine ga_getR C hw gf_M_41 t2 hr11 d_M_crash_71 ?_
            refine lv_iload_n hx hb d_M_crash_74 rfl (lv_at hl 3 rfl) ?_
            refine lv_iconst (v := 3) hx hb d_M_crash_75 (by decide) ?_
            obtain ⟨I15, eI15, hF⟩ := bnd_ex hF
            refine ga_iast C hw t12 b13 eI15 d_M_crash_76 (fun H locs hw => ?_)
            obtain ⟨v16, ev16, hF⟩ := bnd_ex hF
            refine lv_iinc (k := 2) (v := v16) hx hb d_M_crash_77 hl rfl (by rw [ev16]; rfl) (by decide) rfl (fun ls hl => ?_)
            have hl : lv_has ls 4 [(2, .int v16), (0, .ref l0), (1, .int l1), (3, .int l3)] := hl
            exact m_M_crash_b80 hret C _ ih _ _ _ _ _ hF _ _ _ (lv_sub hl [1, 2, 0, 3] rfl) hw
          · rw [if_neg h14] at hF
            refine lv_if_ne (tgt := 80) hx hb d_M_crash_67 (by decide) (fun _ => ?_) (fun hp => absurd hp h14)
            exact m_M_crash_b80 hret C _ ih _ _ _ _ _ hF _ _ _ hl hw
        · rw [if_neg h10] at hF
          refine lv_icmp_ne (tgt := 80) hx hb d_M_crash_58 (by decide) (fun _ => ?_) (fun hp => absurd hp h10)
          exact m_M_crash_b80 hret C _ ih _ _ _ _ _ hF _ _ _ hl hw
set_option maxHeartbeats 4000000 in
set_option maxRecDepth 100000 in
theorem m_M_crash_b13 {J : gMJ} {zz : Int32 × gMI} (hret : ∀ (pc : Nat) (ls : Array Slot) (H : Heap) (locs : List Loc) (x : Int32) (I1 : gMI), (x, I1) = zz → decode prog_10_method_44_code pc = .ok (.ireturn, 1) → ga_W D T z L S I1 J s H locs → W p l e rm_M_crash s m args below meth c H locs 0 0 Q (F0 m pc ls [.int x])) (C : CallFix p m c prog_10_method_44_code 4 s args ga_ws "RankHouseModel") : ∀ (I : gMI) (s0 : Int32) (s1 : Nat) (l0 : Nat) (l1 : Int32), f_M_crash_b13 S J I s0 s1 l0 l1 = some zz → ∀ (ls : Array Slot) (H : Heap) (locs : List Loc), lv_has ls 4 [(0, .ref l0), (1, .int l1)] → ga_W D T z L S I J s H locs → W p l e rm_M_crash s m args below meth c H locs 0 0 Q (F0 m 13 ls [.int s0, .ref s1]) := by
  intro I s0 s1 l0 l1 hF ls H locs hl hw
  have hx := C.1
  have hb := C.2.1
  rw [f_M_crash_b13] at hF
  obtain ⟨t1, hF⟩ := gd_ex hF
  obtain ⟨I2, eI2, hF⟩ := bnd_ex hF
  refine ga_putI C hw gp_M_114 t1 rfl rfl eI2 d_M_crash_13 (fun H locs hw => ?_)
  refine lv_aload_n hx hb d_M_crash_16 rfl (lv_at hl 0 rfl) ?_
  obtain ⟨t3, hF⟩ := gd_ex hF
  refine ga_getI C hw gf_M_114 t3 d_M_crash_17 ?_
  by_cases h4 : (I2 l0 0) ≤ 0
  · rw [if_pos h4] at hF
    refine lv_if_le (tgt := 25) hx hb d_M_crash_20 (by decide) (fun _ => ?_) (fun hn => absurd h4 hn)
    refine lv_aload_n hx hb d_M_crash_25 rfl (lv_at hl 0 rfl) ?_
    obtain ⟨r5, hr5, hF⟩ := ob_ex hF
    refine ga_getR C hw gf_M_7 t3 hr5 d_M_crash_26 ?_
    refine lv_iload_n hx hb d_M_crash_29 rfl (lv_at hl 1 rfl) ?_
    refine lv_iconst (v := 1) hx hb d_M_crash_30 (by decide) ?_
    obtain ⟨t6, hF⟩ := gd_ex hF
    obtain ⟨b7, hF⟩ := gd_ex hF
    obtain ⟨I8, eI8, hF⟩ := bnd_ex hF
    refine ga_zast C hw t6 b7 rfl eI8 d_M_crash_31 (fun H locs hw => ?_)
    refine lv_iconst (v := 0) hx hb d_M_crash_32 (by decide) ?_
    refine lv_istore_n hx hb d_M_crash_33 rfl hl (by decide) rfl (fun ls hl => ?_)
    have hl : lv_has ls 4 [(2, .int (0 : Int32)), (0, .ref l0), (1, .int l1)] := hl
    refine lv_iconst (v := 0) hx hb d_M_crash_34 (by decide) ?_
    refine lv_istore_n hx hb d_M_crash_35 rfl hl (by decide) rfl (fun ls hl => ?_)
    have hl : lv_has ls 4 [(3, .int (0 : Int32)), (2, .int (0 : Int32)), (0, .ref l0), (1, .int l1)] := hl
    exact m_M_crash_b36 hret C gFuel _ _ _ _ _ hF _ _ _ (lv_sub hl [2, 3, 1, 0] rfl) hw
  · rw [if_neg h4] at hF
    refine lv_if_le (tgt := 25) hx hb d_M_crash_20 (by decide) (fun hp => absurd hp h4) (fun _ => ?_)
    refine lv_iconst (v := 0) hx hb d_M_crash_23 (by decide) ?_
    exact hret _ _ _ _ _ _ (Option.some.inj hF) d_M_crash_24 hw
set_option maxHeartbeats 4000000 in
set_option maxRecDepth 100000 in
theorem c_M_crash (l : Launch) (D : va_G) (T : Nat → ClassId) (z : Nat) (L : List Nat) {S : gS} {I : gMI} {J : gMJ} {p0 : Nat} {p1 : Int32} {r : Int32} {RI : gMI} (hF : f_M_crash S I J p0 p1 = some (r, RI)) : ga_Mi l y_M_crash prog_10_method_44_code 4 (Option.some Jvm.ClassFile.FieldType.int) rm_M_crash [.ref p0, .int p1] D T z L S I J r RI J := by
  refine Met.ofW (cc := prog_10_method_44_code) (maxL := 4) (ret := (Option.some Jvm.ClassFile.FieldType.int)) (by decide) rfl ?_
  intro p e s m args below meth c s₁ B hml hv
  obtain ⟨ha, hv⟩ := hv
  have hx := B.exec
  have hb := B.bytes
  have hr := B.returns
  have hts := atoms_spec (ws := .code y_M_crash prog_10_method_44_code 4 (Option.some Jvm.ClassFile.FieldType.int) :: ga_ws) B.pre
  have hown : s.vm.findClass "RankHouseModel" = some m.cls := findClass_of_methodNamed B.named
  have hlocks := B.notSynchronized
  have C : CallFix p m c prog_10_method_44_code 4 s args ga_ws "RankHouseModel" := ⟨hx, hb, hml, hown, fun w h => hts w (List.mem_cons_of_mem _ h)⟩
  have hw := ga_start hv
  have hl := lv_entry ([.ref p0, .int p1]) (n := 4) (Nat.le_of_ble_eq_true rfl)
  rw [show entryFrame m args 4 = entryFrame m ([.ref p0, .int p1] : List Value).toArray 4 by rw [ha], lg_entry_eq]
  generalize (lg_sl ([.ref p0, .int p1]) ++ List.replicate (4 - (lg_sl ([.ref p0, .int p1])).length) Slot.unset).toArray = ls at hl ⊢
  have hl : lv_has ls 4 [(0, .ref p0), (1, .int p1)] := hl
  have key : ∀ Q : State → Prop, (∀ (pc : Nat) (ls : Array Slot) (H : Heap) (locs : List Loc) (x : Int32) (I1 : gMI), (x, I1) = (r, RI) → decode prog_10_method_44_code pc = .ok (.ireturn, 1) → ga_W D T z L S I1 J s H locs → W p l e rm_M_crash s m args below meth c H locs 0 0 Q (F0 m pc ls [.int x])) → W p l e rm_M_crash s m args below meth c s.heap [] 0 0 Q (F0 m 0 ls []) := by
    intro Q hret
    rw [f_M_crash] at hF
    refine lv_aload_n hx hb d_M_crash_0 rfl (lv_at hl 0 rfl) ?_
    refine lv_iload_n hx hb d_M_crash_1 rfl (lv_at hl 1 rfl) ?_
    obtain ⟨x1, c2, hF⟩ := ob_ex hF
    refine ga_cSi (As := [.int p1]) C hw (c_M_isLogger l D T z L c2) gs_M_118 rfl hl.1 ⟨Nat.le_of_ble_eq_true rfl, Nat.le_of_ble_eq_true rfl, rfl, rfl, Nat.le_of_ble_eq_true rfl, Nat.le_of_ble_eq_true rfl⟩ (Nat.le_of_ble_eq_true rfl) rfl d_M_crash_2 (fun H locs hw => ?_)
    by_cases h3 : x1 = 0
    · rw [if_pos h3] at hF
      refine lv_if_eq (tgt := 12) hx hb d_M_crash_5 (by decide) (fun _ => ?_) (fun hn => absurd h3 hn)
      refine lv_iconst (v := 1) hx hb d_M_crash_12 (by decide) ?_
      exact m_M_crash_b13 hret C _ _ _ _ _ hF _ _ _ hl hw
    · rw [if_neg h3] at hF
      refine lv_if_eq (tgt := 12) hx hb d_M_crash_5 (by decide) (fun hp => absurd hp h3) (fun _ => ?_)
      refine lv_iconst (v := 0) hx hb d_M_crash_8 (by decide) ?_
      refine lv_goto (tgt := 13) hx hb d_M_crash_9 (by decide) ?_
      exact m_M_crash_b13 hret C _ _ _ _ _ hF _ _ _ hl hw
  refine key _ (fun pc ls H locs x I1 he hd hw => ?_)
  · cases he
    exact W.iret hx hb hr (fun t ht _ => ⟨⟨_, (), rfl, rfl, ga_o hw ht⟩, hw.2.2.2.1.F ht⟩) hw.2.2.2.1.2.2 hd
set_option maxHeartbeats 4000000 in
set_option maxRecDepth 100000 in
theorem m_M_restart_b30 {J : gMJ} {zz : gMI} (hret : ∀ (pc : Nat) (ls : Array Slot) (H : Heap) (locs : List Loc) (I1 : gMI), (I1) = zz → decode prog_10_method_45_code pc = .ok (.return_, 1) → ga_W D T z L S I1 J s H locs → W p l e rm_M_restart s m args below meth c H locs 0 0 Q (F0 m pc ls [])) (C : CallFix p m c prog_10_method_45_code 2 s args ga_ws "RankHouseModel") : ∀ (I : gMI), f_M_restart_b30 S J I = some zz → ∀ (ls : Array Slot) (H : Heap) (locs : List Loc), lv_has ls 2 [] → ga_W D T z L S I J s H locs → W p l e rm_M_restart s m args below meth c H locs 0 0 Q (F0 m 30 ls []) := by
  intro I hF ls H locs hl hw
  have hx := C.1
  have hb := C.2.1
  rw [f_M_restart_b30] at hF
  exact hret _ _ _ _ _ (Option.some.inj hF) d_M_restart_30 hw
set_option maxHeartbeats 4000000 in
set_option maxRecDepth 100000 in
theorem m_M_restart_b13 {J : gMJ} {zz : gMI} (hret : ∀ (pc : Nat) (ls : Array Slot) (H : Heap) (locs : List Loc) (I1 : gMI), (I1) = zz → decode prog_10_method_45_code pc = .ok (.return_, 1) → ga_W D T z L S I1 J s H locs → W p l e rm_M_restart s m args below meth c H locs 0 0 Q (F0 m pc ls [])) (C : CallFix p m c prog_10_method_45_code 2 s args ga_ws "RankHouseModel") : ∀ (I : gMI) (s0 : Int32) (s1 : Nat) (l0 : Nat) (l1 : Int32), f_M_restart_b13 S J I s0 s1 l0 l1 = some zz → ∀ (ls : Array Slot) (H : Heap) (locs : List Loc), lv_has ls 2 [(0, .ref l0), (1, .int l1)] → ga_W D T z L S I J s H locs → W p l e rm_M_restart s m args below meth c H locs 0 0 Q (F0 m 13 ls [.int s0, .ref s1]) := by
  intro I s0 s1 l0 l1 hF ls H locs hl hw
  have hx := C.1
  have hb := C.2.1
  rw [f_M_restart_b13] at hF
  obtain ⟨t1, hF⟩ := gd_ex hF
  obtain ⟨I2, eI2, hF⟩ := bnd_ex hF
  refine ga_putI C hw gp_M_114 t1 rfl rfl eI2 d_M_restart_13 (fun H locs hw => ?_)
  refine lv_aload_n hx hb d_M_restart_16 rfl (lv_at hl 0 rfl) ?_
  obtain ⟨t3, hF⟩ := gd_ex hF
  refine ga_getI C hw gf_M_114 t3 d_M_restart_17 ?_
  by_cases h4 : (I2 l0 0) = 0
  · rw [if_pos h4] at hF
    refine lv_if_ne (tgt := 30) hx hb d_M_restart_20 (by decide) (fun hn => absurd h4 hn) (fun _ => ?_)
    refine lv_aload_n hx hb d_M_restart_23 rfl (lv_at hl 0 rfl) ?_
    obtain ⟨r5, hr5, hF⟩ := ob_ex hF
    refine ga_getR C hw gf_M_7 t3 hr5 d_M_restart_24 ?_
    refine lv_iload_n hx hb d_M_restart_27 rfl (lv_at hl 1 rfl) ?_
    refine lv_iconst (v := 0) hx hb d_M_restart_28 (by decide) ?_
    obtain ⟨t6, hF⟩ := gd_ex hF
    obtain ⟨b7, hF⟩ := gd_ex hF
    obtain ⟨I8, eI8, hF⟩ := bnd_ex hF
    refine ga_zast C hw t6 b7 rfl eI8 d_M_restart_29 (fun H locs hw => ?_)
    exact m_M_restart_b30 hret C _ hF _ _ _ (lv_sub hl [] rfl) hw
  · rw [if_neg h4] at hF
    refine lv_if_ne (tgt := 30) hx hb d_M_restart_20 (by decide) (fun _ => ?_) (fun hp => absurd hp h4)
    exact m_M_restart_b30 hret C _ hF _ _ _ (lv_sub hl [] rfl) hw
set_option maxHeartbeats 4000000 in
set_option maxRecDepth 100000 in
theorem c_M_restart (l : Launch) (D : va_G) (T : Nat → ClassId) (z : Nat) (L : List Nat) {S : gS} {I : gMI} {J : gMJ} {p0 : Nat} {p1 : Int32} {RI : gMI} (hF : f_M_restart S I J p0 p1 = some (RI)) : ga_Mv l y_M_restart prog_10_method_45_code 2 (Option.none : Option Jvm.ClassFile.FieldType) rm_M_restart [.ref p0, .int p1] D T z L S I J RI J := by
  refine Met.ofW (cc := prog_10_method_45_code) (maxL := 2) (ret := (Option.none : Option Jvm.ClassFile.FieldType)) (by decide) rfl ?_
  intro p e s m args below meth c s₁ B hml hv
  obtain ⟨ha, hv⟩ := hv
  have hx := B.exec
  have hb := B.bytes
  have hr := B.returns
  have hts := atoms_spec (ws := .code y_M_restart prog_10_method_45_code 2 (Option.none : Option Jvm.ClassFile.FieldType) :: ga_ws) B.pre
  have hown : s.vm.findClass "RankHouseModel" = some m.cls := findClass_of_methodNamed B.named
  have hlocks := B.notSynchronized
  have C : CallFix p m c prog_10_method_45_code 2 s args ga_ws "RankHouseModel" := ⟨hx, hb, hml, hown, fun w h => hts w (List.mem_cons_of_mem _ h)⟩
  have hw := ga_start hv
  have hl := lv_entry ([.ref p0, .int p1]) (n := 2) (Nat.le_of_ble_eq_true rfl)
  rw [show entryFrame m args 2 = entryFrame m ([.ref p0, .int p1] : List Value).toArray 2 by rw [ha], lg_entry_eq]
  generalize (lg_sl ([.ref p0, .int p1]) ++ List.replicate (2 - (lg_sl ([.ref p0, .int p1])).length) Slot.unset).toArray = ls at hl ⊢
  have hl : lv_has ls 2 [(0, .ref p0), (1, .int p1)] := hl
  have key : ∀ Q : State → Prop, (∀ (pc : Nat) (ls : Array Slot) (H : Heap) (locs : List Loc) (I1 : gMI), (I1) = (RI) → decode prog_10_method_45_code pc = .ok (.return_, 1) → ga_W D T z L S I1 J s H locs → W p l e rm_M_restart s m args below meth c H locs 0 0 Q (F0 m pc ls [])) → W p l e rm_M_restart s m args below meth c s.heap [] 0 0 Q (F0 m 0 ls []) := by
    intro Q hret
    rw [f_M_restart] at hF
    refine lv_aload_n hx hb d_M_restart_0 rfl (lv_at hl 0 rfl) ?_
    refine lv_iload_n hx hb d_M_restart_1 rfl (lv_at hl 1 rfl) ?_
    obtain ⟨x1, c2, hF⟩ := ob_ex hF
    refine ga_cSi (As := [.int p1]) C hw (c_M_isLogger l D T z L c2) gs_M_118 rfl hl.1 ⟨Nat.le_of_ble_eq_true rfl, Nat.le_of_ble_eq_true rfl, rfl, rfl, Nat.le_of_ble_eq_true rfl, Nat.le_of_ble_eq_true rfl⟩ (Nat.le_of_ble_eq_true rfl) rfl d_M_restart_2 (fun H locs hw => ?_)
    by_cases h3 : x1 = 0
    · rw [if_pos h3] at hF
      refine lv_if_eq (tgt := 12) hx hb d_M_restart_5 (by decide) (fun _ => ?_) (fun hn => absurd h3 hn)
      refine lv_iconst (v := 1) hx hb d_M_restart_12 (by decide) ?_
      exact m_M_restart_b13 hret C _ _ _ _ _ hF _ _ _ hl hw
    · rw [if_neg h3] at hF
      refine lv_if_eq (tgt := 12) hx hb d_M_restart_5 (by decide) (fun hp => absurd hp h3) (fun _ => ?_)
      refine lv_iconst (v := 0) hx hb d_M_restart_8 (by decide) ?_
      refine lv_goto (tgt := 13) hx hb d_M_restart_9 (by decide) ?_
      exact m_M_restart_b13 hret C _ _ _ _ _ hF _ _ _ hl hw
  refine key _ (fun pc ls H locs I1 he hd hw => ?_)
  · cases he
    exact W.vret hx hb hr (fun t ht _ => ⟨⟨(), rfl, trivial, ga_o hw ht⟩, hw.2.2.2.1.F ht⟩) hw.2.2.2.1.2.2 hd
set_option maxHeartbeats 4000000 in
set_option maxRecDepth 100000 in
theorem m_M_state_b37 {J : gMJ} {zz : Int32 × gMI} (hret : ∀ (pc : Nat) (ls : Array Slot) (H : Heap) (locs : List Loc) (x : Int32) (I1 : gMI), (x, I1) = zz → decode prog_10_method_46_code pc = .ok (.ireturn, 1) → ga_W D T z L S I1 J s H locs → W p l e rm_M_state s m args below meth c H locs 0 0 Q (F0 m pc ls [.int x])) (C : CallFix p m c prog_10_method_46_code 3 s args ga_ws "RankHouseModel") : ∀ (I : gMI) (s0 : Int32), f_M_state_b37 S J I s0 = some zz → ∀ (ls : Array Slot) (H : Heap) (locs : List Loc), lv_has ls 3 [] → ga_W D T z L S I J s H locs → W p l e rm_M_state s m args below meth c H locs 0 0 Q (F0 m 37 ls [.int s0]) := by
  intro I s0 hF ls H locs hl hw
  have hx := C.1
  have hb := C.2.1
  rw [f_M_state_b37] at hF
  exact hret _ _ _ _ _ _ (Option.some.inj hF) d_M_state_37 hw
set_option maxHeartbeats 4000000 in
set_option maxRecDepth 100000 in
theorem m_M_state_b17 {J : gMJ} {zz : Int32 × gMI} (hret : ∀ (pc : Nat) (ls : Array Slot) (H : Heap) (locs : List Loc) (x : Int32) (I1 : gMI), (x, I1) = zz → decode prog_10_method_46_code pc = .ok (.ireturn, 1) → ga_W D T z L S I1 J s H locs → W p l e rm_M_state s m args below meth c H locs 0 0 Q (F0 m pc ls [.int x])) (C : CallFix p m c prog_10_method_46_code 3 s args ga_ws "RankHouseModel") : ∀ (I : gMI) (s0 : Int32) (s1 : Nat) (l0 : Nat) (l2 : Int32), f_M_state_b17 S J I s0 s1 l0 l2 = some zz → ∀ (ls : Array Slot) (H : Heap) (locs : List Loc), lv_has ls 3 [(0, .ref l0), (2, .int l2)] → ga_W D T z L S I J s H locs → W p l e rm_M_state s m args below meth c H locs 0 0 Q (F0 m 17 ls [.int s0, .ref s1]) := by
  intro I s0 s1 l0 l2 hF ls H locs hl hw
  have hx := C.1
  have hb := C.2.1
  rw [f_M_state_b17] at hF
  obtain ⟨t1, hF⟩ := gd_ex hF
  obtain ⟨I2, eI2, hF⟩ := bnd_ex hF
  refine ga_putI C hw gp_M_114 t1 rfl rfl eI2 d_M_state_17 (fun H locs hw => ?_)
  refine lv_aload_n hx hb d_M_state_20 rfl (lv_at hl 0 rfl) ?_
  obtain ⟨t3, hF⟩ := gd_ex hF
  refine ga_getI C hw gf_M_114 t3 d_M_state_21 ?_
  by_cases h4 : (I2 l0 0) ≤ 0
  · rw [if_pos h4] at hF
    refine lv_if_le (tgt := 31) hx hb d_M_state_24 (by decide) (fun _ => ?_) (fun hn => absurd h4 hn)
    refine lv_aload_n hx hb d_M_state_31 rfl (lv_at hl 0 rfl) ?_
    obtain ⟨r5, hr5, hF⟩ := ob_ex hF
    refine ga_getR C hw gf_M_41 t3 hr5 d_M_state_32 ?_
    refine lv_iload_n hx hb d_M_state_35 rfl (lv_at hl 1 rfl) ?_
    obtain ⟨t6, hF⟩ := gd_ex hF
    obtain ⟨b7, hF⟩ := gd_ex hF
    refine ga_iald C hw t6 b7 d_M_state_36 ?_
    exact m_M_state_b37 hret C _ _ hF _ _ _ (lv_sub hl [] rfl) hw
  · rw [if_neg h4] at hF
    refine lv_if_le (tgt := 31) hx hb d_M_state_24 (by decide) (fun hp => absurd hp h4) (fun _ => ?_)
    refine lv_iconst (v := 0) hx hb d_M_state_27 (by decide) ?_
    refine lv_goto (tgt := 37) hx hb d_M_state_28 (by decide) ?_
    exact m_M_state_b37 hret C _ _ hF _ _ _ (lv_sub hl [] rfl) hw
set_option maxHeartbeats 4000000 in
set_option maxRecDepth 100000 in
theorem c_M_state (l : Launch) (D : va_G) (T : Nat → ClassId) (z : Nat) (L : List Nat) {S : gS} {I : gMI} {J : gMJ} {p0 : Nat} {p1 : Int32} {r : Int32} {RI : gMI} (hF : f_M_state S I J p0 p1 = some (r, RI)) : ga_Mi l y_M_state prog_10_method_46_code 3 (Option.some Jvm.ClassFile.FieldType.int) rm_M_state [.ref p0, .int p1] D T z L S I J r RI J := by
  refine Met.ofW (cc := prog_10_method_46_code) (maxL := 3) (ret := (Option.some Jvm.ClassFile.FieldType.int)) (by decide) rfl ?_
  intro p e s m args below meth c s₁ B hml hv
  obtain ⟨ha, hv⟩ := hv
  have hx := B.exec
  have hb := B.bytes
  have hr := B.returns
  have hts := atoms_spec (ws := .code y_M_state prog_10_method_46_code 3 (Option.some Jvm.ClassFile.FieldType.int) :: ga_ws) B.pre
  have hown : s.vm.findClass "RankHouseModel" = some m.cls := findClass_of_methodNamed B.named
  have hlocks := B.notSynchronized
  have C : CallFix p m c prog_10_method_46_code 3 s args ga_ws "RankHouseModel" := ⟨hx, hb, hml, hown, fun w h => hts w (List.mem_cons_of_mem _ h)⟩
  have hw := ga_start hv
  have hl := lv_entry ([.ref p0, .int p1]) (n := 3) (Nat.le_of_ble_eq_true rfl)
  rw [show entryFrame m args 3 = entryFrame m ([.ref p0, .int p1] : List Value).toArray 3 by rw [ha], lg_entry_eq]
  generalize (lg_sl ([.ref p0, .int p1]) ++ List.replicate (3 - (lg_sl ([.ref p0, .int p1])).length) Slot.unset).toArray = ls at hl ⊢
  have hl : lv_has ls 3 [(0, .ref p0), (1, .int p1)] := hl
  have key : ∀ Q : State → Prop, (∀ (pc : Nat) (ls : Array Slot) (H : Heap) (locs : List Loc) (x : Int32) (I1 : gMI), (x, I1) = (r, RI) → decode prog_10_method_46_code pc = .ok (.ireturn, 1) → ga_W D T z L S I1 J s H locs → W p l e rm_M_state s m args below meth c H locs 0 0 Q (F0 m pc ls [.int x])) → W p l e rm_M_state s m args below meth c s.heap [] 0 0 Q (F0 m 0 ls []) := by
    intro Q hret
    rw [f_M_state] at hF
    refine lv_aload_n hx hb d_M_state_0 rfl (lv_at hl 0 rfl) ?_
    refine lv_iload_n hx hb d_M_state_1 rfl (lv_at hl 1 rfl) ?_
    obtain ⟨t1, hF⟩ := gd_ex hF
    obtain ⟨x2, c3, hF⟩ := ob_ex hF
    refine ga_cVi (As := [.int p1]) C hw (c_M_placeOf l D T z L c3) gy_M_217 t1 rfl hl.1 ⟨Nat.le_of_ble_eq_true rfl, Nat.le_of_ble_eq_true rfl, rfl, rfl, Nat.le_of_ble_eq_true rfl, Nat.le_of_ble_eq_true rfl⟩ (Nat.le_of_ble_eq_true rfl) rfl d_M_state_2 (fun H locs hw => ?_)
    refine lv_istore_n hx hb d_M_state_5 rfl hl (by decide) rfl (fun ls hl => ?_)
    have hl : lv_has ls 3 [(2, .int x2), (0, .ref p0), (1, .int p1)] := hl
    refine lv_aload_n hx hb d_M_state_6 rfl (lv_at hl 1 rfl) ?_
    refine lv_iload_n hx hb d_M_state_7 rfl (lv_at hl 0 rfl) ?_
    refine lv_iconst (v := -1) hx hb d_M_state_8 (by decide) ?_
    by_cases h4 : x2 = (-1 : Int32)
    · rw [if_pos h4] at hF
      refine lv_icmp_ne (tgt := 16) hx hb d_M_state_9 (by decide) (fun hn => absurd h4 hn) (fun _ => ?_)
      refine lv_iconst (v := 1) hx hb d_M_state_12 (by decide) ?_
      refine lv_goto (tgt := 17) hx hb d_M_state_13 (by decide) ?_
      exact m_M_state_b17 hret C _ _ _ _ _ hF _ _ _ (lv_sub hl [1, 0] rfl) hw
    · rw [if_neg h4] at hF
      refine lv_icmp_ne (tgt := 16) hx hb d_M_state_9 (by decide) (fun _ => ?_) (fun hp => absurd hp h4)
      refine lv_iconst (v := 0) hx hb d_M_state_16 (by decide) ?_
      exact m_M_state_b17 hret C _ _ _ _ _ hF _ _ _ (lv_sub hl [1, 0] rfl) hw
  refine key _ (fun pc ls H locs x I1 he hd hw => ?_)
  · cases he
    exact W.iret hx hb hr (fun t ht _ => ⟨⟨_, (), rfl, rfl, ga_o hw ht⟩, hw.2.2.2.1.F ht⟩) hw.2.2.2.1.2.2 hd
set_option maxHeartbeats 4000000 in
set_option maxRecDepth 100000 in
theorem m_M_answer_b51 {J : gMJ} {zz : Int64 × gMI} (hret : ∀ (pc : Nat) (ls : Array Slot) (H : Heap) (locs : List Loc) (x : Int64) (I1 : gMI), (x, I1) = zz → decode prog_10_method_47_code pc = .ok (.lreturn, 1) → ga_W D T z L S I1 J s H locs → W p l e rm_M_answer s m args below meth c H locs 0 0 Q (F0 m pc ls [.long x])) (C : CallFix p m c prog_10_method_47_code 3 s args ga_ws "RankHouseModel") : ∀ (I : gMI) (s0 : Int64), f_M_answer_b51 S J I s0 = some zz → ∀ (ls : Array Slot) (H : Heap) (locs : List Loc), lv_has ls 3 [] → ga_W D T z L S I J s H locs → W p l e rm_M_answer s m args below meth c H locs 0 0 Q (F0 m 51 ls [.long s0]) := by
  intro I s0 hF ls H locs hl hw
  have hx := C.1
  have hb := C.2.1
  rw [f_M_answer_b51] at hF
  exact hret _ _ _ _ _ _ (Option.some.inj hF) d_M_answer_51 hw
set_option maxHeartbeats 4000000 in
set_option maxRecDepth 100000 in
theorem m_M_answer_b31 {J : gMJ} {zz : Int64 × gMI} (hret : ∀ (pc : Nat) (ls : Array Slot) (H : Heap) (locs : List Loc) (x : Int64) (I1 : gMI), (x, I1) = zz → decode prog_10_method_47_code pc = .ok (.lreturn, 1) → ga_W D T z L S I1 J s H locs → W p l e rm_M_answer s m args below meth c H locs 0 0 Q (F0 m pc ls [.long x])) (C : CallFix p m c prog_10_method_47_code 3 s args ga_ws "RankHouseModel") : ∀ (I : gMI) (s0 : Int32) (s1 : Nat) (l0 : Nat) (l2 : Int32), f_M_answer_b31 S J I s0 s1 l0 l2 = some zz → ∀ (ls : Array Slot) (H : Heap) (locs : List Loc), lv_has ls 3 [(0, .ref l0), (2, .int l2)] → ga_W D T z L S I J s H locs → W p l e rm_M_answer s m args below meth c H locs 0 0 Q (F0 m 31 ls [.int s0, .ref s1]) := by
  intro I s0 s1 l0 l2 hF ls H locs hl hw
  have hx := C.1
  have hb := C.2.1
  rw [f_M_answer_b31] at hF
  obtain ⟨t1, hF⟩ := gd_ex hF
  obtain ⟨I2, eI2, hF⟩ := bnd_ex hF
  refine ga_putI C hw gp_M_114 t1 rfl rfl eI2 d_M_answer_31 (fun H locs hw => ?_)
  refine lv_aload_n hx hb d_M_answer_34 rfl (lv_at hl 0 rfl) ?_
  obtain ⟨t3, hF⟩ := gd_ex hF
  refine ga_getI C hw gf_M_114 t3 d_M_answer_35 ?_
  by_cases h4 : (I2 l0 0) ≤ 0
  · rw [if_pos h4] at hF
    refine lv_if_le (tgt := 45) hx hb d_M_answer_38 (by decide) (fun _ => ?_) (fun hn => absurd h4 hn)
    refine lv_aload_n hx hb d_M_answer_45 rfl (lv_at hl 0 rfl) ?_
    obtain ⟨r5, hr5, hF⟩ := ob_ex hF
    refine ga_getR C hw gf_M_83 t3 hr5 d_M_answer_46 ?_
    refine lv_iload_n hx hb d_M_answer_49 rfl (lv_at hl 1 rfl) ?_
    obtain ⟨t6, hF⟩ := gd_ex hF
    obtain ⟨b7, hF⟩ := gd_ex hF
    refine ga_lald C hw t6 b7 d_M_answer_50 ?_
    exact m_M_answer_b51 hret C _ _ hF _ _ _ (lv_sub hl [] rfl) hw
  · rw [if_neg h4] at hF
    refine lv_if_le (tgt := 45) hx hb d_M_answer_38 (by decide) (fun hp => absurd hp h4) (fun _ => ?_)
    refine lv_lconst (v := 0) hx hb d_M_answer_41 (by decide) ?_
    refine lv_goto (tgt := 51) hx hb d_M_answer_42 (by decide) ?_
    exact m_M_answer_b51 hret C _ _ hF _ _ _ (lv_sub hl [] rfl) hw
set_option maxHeartbeats 4000000 in
set_option maxRecDepth 100000 in
theorem c_M_answer (l : Launch) (D : va_G) (T : Nat → ClassId) (z : Nat) (L : List Nat) {S : gS} {I : gMI} {J : gMJ} {p0 : Nat} {p1 : Int32} {r : Int64} {RI : gMI} (hF : f_M_answer S I J p0 p1 = some (r, RI)) : ga_Ml l y_M_answer prog_10_method_47_code 3 (Option.some Jvm.ClassFile.FieldType.long) rm_M_answer [.ref p0, .int p1] D T z L S I J r RI J := by
  refine Met.ofW (cc := prog_10_method_47_code) (maxL := 3) (ret := (Option.some Jvm.ClassFile.FieldType.long)) (by decide) rfl ?_
  intro p e s m args below meth c s₁ B hml hv
  obtain ⟨ha, hv⟩ := hv
  have hx := B.exec
  have hb := B.bytes
  have hr := B.returns
  have hts := atoms_spec (ws := .code y_M_answer prog_10_method_47_code 3 (Option.some Jvm.ClassFile.FieldType.long) :: ga_ws) B.pre
  have hown : s.vm.findClass "RankHouseModel" = some m.cls := findClass_of_methodNamed B.named
  have hlocks := B.notSynchronized
  have C : CallFix p m c prog_10_method_47_code 3 s args ga_ws "RankHouseModel" := ⟨hx, hb, hml, hown, fun w h => hts w (List.mem_cons_of_mem _ h)⟩
  have hw := ga_start hv
  have hl := lv_entry ([.ref p0, .int p1]) (n := 3) (Nat.le_of_ble_eq_true rfl)
  rw [show entryFrame m args 3 = entryFrame m ([.ref p0, .int p1] : List Value).toArray 3 by rw [ha], lg_entry_eq]
  generalize (lg_sl ([.ref p0, .int p1]) ++ List.replicate (3 - (lg_sl ([.ref p0, .int p1])).length) Slot.unset).toArray = ls at hl ⊢
  have hl : lv_has ls 3 [(0, .ref p0), (1, .int p1)] := hl
  have key : ∀ Q : State → Prop, (∀ (pc : Nat) (ls : Array Slot) (H : Heap) (locs : List Loc) (x : Int64) (I1 : gMI), (x, I1) = (r, RI) → decode prog_10_method_47_code pc = .ok (.lreturn, 1) → ga_W D T z L S I1 J s H locs → W p l e rm_M_answer s m args below meth c H locs 0 0 Q (F0 m pc ls [.long x])) → W p l e rm_M_answer s m args below meth c s.heap [] 0 0 Q (F0 m 0 ls []) := by
    intro Q hret
    rw [f_M_answer] at hF
    refine lv_aload_n hx hb d_M_answer_0 rfl (lv_at hl 0 rfl) ?_
    refine lv_iload_n hx hb d_M_answer_1 rfl (lv_at hl 1 rfl) ?_
    obtain ⟨t1, hF⟩ := gd_ex hF
    obtain ⟨x2, c3, hF⟩ := ob_ex hF
    refine ga_cVi (As := [.int p1]) C hw (c_M_placeOf l D T z L c3) gy_M_217 t1 rfl hl.1 ⟨Nat.le_of_ble_eq_true rfl, Nat.le_of_ble_eq_true rfl, rfl, rfl, Nat.le_of_ble_eq_true rfl, Nat.le_of_ble_eq_true rfl⟩ (Nat.le_of_ble_eq_true rfl) rfl d_M_answer_2 (fun H locs hw => ?_)
    refine lv_istore_n hx hb d_M_answer_5 rfl hl (by decide) rfl (fun ls hl => ?_)
    have hl : lv_has ls 3 [(2, .int x2), (0, .ref p0), (1, .int p1)] := hl
    refine lv_aload_n hx hb d_M_answer_6 rfl (lv_at hl 1 rfl) ?_
    refine lv_iload_n hx hb d_M_answer_7 rfl (lv_at hl 0 rfl) ?_
    refine lv_iconst (v := -1) hx hb d_M_answer_8 (by decide) ?_
    by_cases h4 : x2 = (-1 : Int32)
    · rw [if_pos h4] at hF
      refine lv_icmp_ne (tgt := 16) hx hb d_M_answer_9 (by decide) (fun hn => absurd h4 hn) (fun _ => ?_)
      refine lv_iconst (v := 1) hx hb d_M_answer_12 (by decide) ?_
      refine lv_goto (tgt := 31) hx hb d_M_answer_13 (by decide) ?_
      exact m_M_answer_b31 hret C _ _ _ _ _ hF _ _ _ (lv_sub hl [1, 0] rfl) hw
    · rw [if_neg h4] at hF
      refine lv_icmp_ne (tgt := 16) hx hb d_M_answer_9 (by decide) (fun _ => ?_) (fun hp => absurd hp h4)
      refine lv_aload_n hx hb d_M_answer_16 rfl (lv_at hl 1 rfl) ?_
      obtain ⟨r5, hr5, hF⟩ := ob_ex hF
      refine ga_getR C hw gf_M_41 t1 hr5 d_M_answer_17 ?_
      refine lv_iload_n hx hb d_M_answer_20 rfl (lv_at hl 0 rfl) ?_
      obtain ⟨t6, hF⟩ := gd_ex hF
      obtain ⟨b7, hF⟩ := gd_ex hF
      refine ga_iald C hw t6 b7 d_M_answer_21 ?_
      refine lv_iconst (v := 1) hx hb d_M_answer_22 (by decide) ?_
      by_cases h8 : (I r5 x2.toNatClampNeg) = (1 : Int32)
      · rw [if_pos h8] at hF
        refine lv_icmp_eq (tgt := 30) hx hb d_M_answer_23 (by decide) (fun _ => ?_) (fun hn => absurd h8 hn)
        refine lv_iconst (v := 0) hx hb d_M_answer_30 (by decide) ?_
        exact m_M_answer_b31 hret C _ _ _ _ _ hF _ _ _ (lv_sub hl [1, 0] rfl) hw
      · rw [if_neg h8] at hF
        refine lv_icmp_eq (tgt := 30) hx hb d_M_answer_23 (by decide) (fun hp => absurd hp h8) (fun _ => ?_)
        refine lv_iconst (v := 2) hx hb d_M_answer_26 (by decide) ?_
        refine lv_goto (tgt := 31) hx hb d_M_answer_27 (by decide) ?_
        exact m_M_answer_b31 hret C _ _ _ _ _ hF _ _ _ (lv_sub hl [1, 0] rfl) hw
  refine key _ (fun pc ls H locs x I1 he hd hw => ?_)
  · cases he
    exact W.lret hx hb hr (fun t ht _ => ⟨⟨_, (), rfl, rfl, ga_o hw ht⟩, hw.2.2.2.1.F ht⟩) hw.2.2.2.1.2.2 hd
set_option maxHeartbeats 4000000 in
set_option maxRecDepth 100000 in
theorem m_M_found_b84 {J : gMJ} {zz : Int32 × gMI} (hret : ∀ (pc : Nat) (ls : Array Slot) (H : Heap) (locs : List Loc) (x : Int32) (I1 : gMI), (x, I1) = zz → decode prog_10_method_48_code pc = .ok (.ireturn, 1) → ga_W D T z L S I1 J s H locs → W p l e rm_M_found s m args below meth c H locs 0 0 Q (F0 m pc ls [.int x])) (C : CallFix p m c prog_10_method_48_code 4 s args ga_ws "RankHouseModel") : ∀ (I : gMI) (s0 : Int32), f_M_found_b84 S J I s0 = some zz → ∀ (ls : Array Slot) (H : Heap) (locs : List Loc), lv_has ls 4 [] → ga_W D T z L S I J s H locs → W p l e rm_M_found s m args below meth c H locs 0 0 Q (F0 m 84 ls [.int s0]) := by
  intro I s0 hF ls H locs hl hw
  have hx := C.1
  have hb := C.2.1
  rw [f_M_found_b84] at hF
  exact hret _ _ _ _ _ _ (Option.some.inj hF) d_M_found_84 hw
set_option maxHeartbeats 4000000 in
set_option maxRecDepth 100000 in
theorem m_M_found_b51 {J : gMJ} {zz : Int32 × gMI} (hret : ∀ (pc : Nat) (ls : Array Slot) (H : Heap) (locs : List Loc) (x : Int32) (I1 : gMI), (x, I1) = zz → decode prog_10_method_48_code pc = .ok (.ireturn, 1) → ga_W D T z L S I1 J s H locs → W p l e rm_M_found s m args below meth c H locs 0 0 Q (F0 m pc ls [.int x])) (C : CallFix p m c prog_10_method_48_code 4 s args ga_ws "RankHouseModel") : ∀ (I : gMI) (s0 : Int32) (s1 : Nat) (l0 : Nat) (l2 : Int32) (l3 : Int32), f_M_found_b51 S J I s0 s1 l0 l2 l3 = some zz → ∀ (ls : Array Slot) (H : Heap) (locs : List Loc), lv_has ls 4 [(0, .ref l0), (2, .int l2), (3, .int l3)] → ga_W D T z L S I J s H locs → W p l e rm_M_found s m args below meth c H locs 0 0 Q (F0 m 51 ls [.int s0, .ref s1]) := by
  intro I s0 s1 l0 l2 l3 hF ls H locs hl hw
  have hx := C.1
  have hb := C.2.1
  rw [f_M_found_b51] at hF
  obtain ⟨t1, hF⟩ := gd_ex hF
  obtain ⟨I2, eI2, hF⟩ := bnd_ex hF
  refine ga_putI C hw gp_M_114 t1 rfl rfl eI2 d_M_found_51 (fun H locs hw => ?_)
  refine lv_aload_n hx hb d_M_found_54 rfl (lv_at hl 0 rfl) ?_
  obtain ⟨t3, hF⟩ := gd_ex hF
  refine ga_getI C hw gf_M_114 t3 d_M_found_55 ?_
  by_cases h4 : (I2 l0 0) ≤ 0
  · rw [if_pos h4] at hF
    refine lv_if_le (tgt := 65) hx hb d_M_found_58 (by decide) (fun _ => ?_) (fun hn => absurd h4 hn)
    refine lv_iload_n hx hb d_M_found_65 rfl (lv_at hl 1 rfl) ?_
    by_cases h5 : l2 = 0
    · rw [if_pos h5] at hF
      refine lv_if_eq (tgt := 78) hx hb d_M_found_66 (by decide) (fun _ => ?_) (fun hn => absurd h5 hn)
      refine lv_aload_n hx hb d_M_found_78 rfl (lv_at hl 0 rfl) ?_
      obtain ⟨r6, hr6, hF⟩ := ob_ex hF
      refine ga_getR C hw gf_M_77 t3 hr6 d_M_found_79 ?_
      refine lv_iload_n hx hb d_M_found_82 rfl (lv_at hl 2 rfl) ?_
      obtain ⟨t7, hF⟩ := gd_ex hF
      obtain ⟨b8, hF⟩ := gd_ex hF
      refine ga_iald C hw t7 b8 d_M_found_83 ?_
      exact m_M_found_b84 hret C _ _ hF _ _ _ (lv_sub hl [] rfl) hw
    · rw [if_neg h5] at hF
      refine lv_if_eq (tgt := 78) hx hb d_M_found_66 (by decide) (fun hp => absurd hp h5) (fun _ => ?_)
      refine lv_aload_n hx hb d_M_found_69 rfl (lv_at hl 0 rfl) ?_
      obtain ⟨r9, hr9, hF⟩ := ob_ex hF
      refine ga_getR C hw gf_M_80 t3 hr9 d_M_found_70 ?_
      refine lv_iload_n hx hb d_M_found_73 rfl (lv_at hl 2 rfl) ?_
      obtain ⟨t10, hF⟩ := gd_ex hF
      obtain ⟨b11, hF⟩ := gd_ex hF
      refine ga_iald C hw t10 b11 d_M_found_74 ?_
      refine lv_goto (tgt := 84) hx hb d_M_found_75 (by decide) ?_
      exact m_M_found_b84 hret C _ _ hF _ _ _ (lv_sub hl [] rfl) hw
  · rw [if_neg h4] at hF
    refine lv_if_le (tgt := 65) hx hb d_M_found_58 (by decide) (fun hp => absurd hp h4) (fun _ => ?_)
    refine lv_iconst (v := 0) hx hb d_M_found_61 (by decide) ?_
    refine lv_goto (tgt := 84) hx hb d_M_found_62 (by decide) ?_
    exact m_M_found_b84 hret C _ _ hF _ _ _ (lv_sub hl [] rfl) hw
set_option maxHeartbeats 4000000 in
set_option maxRecDepth 100000 in
theorem m_M_found_b46 {J : gMJ} {zz : Int32 × gMI} (hret : ∀ (pc : Nat) (ls : Array Slot) (H : Heap) (locs : List Loc) (x : Int32) (I1 : gMI), (x, I1) = zz → decode prog_10_method_48_code pc = .ok (.ireturn, 1) → ga_W D T z L S I1 J s H locs → W p l e rm_M_found s m args below meth c H locs 0 0 Q (F0 m pc ls [.int x])) (C : CallFix p m c prog_10_method_48_code 4 s args ga_ws "RankHouseModel") : ∀ (I : gMI) (s0 : Nat) (l0 : Nat) (l2 : Int32) (l3 : Int32), f_M_found_b46 S J I s0 l0 l2 l3 = some zz → ∀ (ls : Array Slot) (H : Heap) (locs : List Loc), lv_has ls 4 [(0, .ref l0), (2, .int l2), (3, .int l3)] → ga_W D T z L S I J s H locs → W p l e rm_M_found s m args below meth c H locs 0 0 Q (F0 m 46 ls [.ref s0]) := by
  intro I s0 l0 l2 l3 hF ls H locs hl hw
  have hx := C.1
  have hb := C.2.1
  rw [f_M_found_b46] at hF
  refine lv_iconst (v := 2) hx hb d_M_found_46 (by decide) ?_
  refine lv_goto (tgt := 51) hx hb d_M_found_47 (by decide) ?_
  exact m_M_found_b51 hret C _ _ _ _ _ _ hF _ _ _ hl hw
set_option maxHeartbeats 4000000 in
set_option maxRecDepth 100000 in
theorem m_M_found_b50 {J : gMJ} {zz : Int32 × gMI} (hret : ∀ (pc : Nat) (ls : Array Slot) (H : Heap) (locs : List Loc) (x : Int32) (I1 : gMI), (x, I1) = zz → decode prog_10_method_48_code pc = .ok (.ireturn, 1) → ga_W D T z L S I1 J s H locs → W p l e rm_M_found s m args below meth c H locs 0 0 Q (F0 m pc ls [.int x])) (C : CallFix p m c prog_10_method_48_code 4 s args ga_ws "RankHouseModel") : ∀ (I : gMI) (s0 : Nat) (l0 : Nat) (l2 : Int32) (l3 : Int32), f_M_found_b50 S J I s0 l0 l2 l3 = some zz → ∀ (ls : Array Slot) (H : Heap) (locs : List Loc), lv_has ls 4 [(0, .ref l0), (2, .int l2), (3, .int l3)] → ga_W D T z L S I J s H locs → W p l e rm_M_found s m args below meth c H locs 0 0 Q (F0 m 50 ls [.ref s0]) := by
  intro I s0 l0 l2 l3 hF ls H locs hl hw
  have hx := C.1
  have hb := C.2.1
  rw [f_M_found_b50] at hF
  refine lv_iconst (v := 0) hx hb d_M_found_50 (by decide) ?_
  exact m_M_found_b51 hret C _ _ _ _ _ _ hF _ _ _ hl hw
set_option maxHeartbeats 4000000 in
set_option maxRecDepth 100000 in
theorem c_M_found (l : Launch) (D : va_G) (T : Nat → ClassId) (z : Nat) (L : List Nat) {S : gS} {I : gMI} {J : gMJ} {p0 : Nat} {p1 : Int32} {p2 : Int32} {r : Int32} {RI : gMI} (hF : f_M_found S I J p0 p1 p2 = some (r, RI)) : ga_Mi l y_M_found prog_10_method_48_code 4 (Option.some Jvm.ClassFile.FieldType.int) rm_M_found [.ref p0, .int p1, .int p2] D T z L S I J r RI J := by
  refine Met.ofW (cc := prog_10_method_48_code) (maxL := 4) (ret := (Option.some Jvm.ClassFile.FieldType.int)) (by decide) rfl ?_
  intro p e s m args below meth c s₁ B hml hv
  obtain ⟨ha, hv⟩ := hv
  have hx := B.exec
  have hb := B.bytes
  have hr := B.returns
  have hts := atoms_spec (ws := .code y_M_found prog_10_method_48_code 4 (Option.some Jvm.ClassFile.FieldType.int) :: ga_ws) B.pre
  have hown : s.vm.findClass "RankHouseModel" = some m.cls := findClass_of_methodNamed B.named
  have hlocks := B.notSynchronized
  have C : CallFix p m c prog_10_method_48_code 4 s args ga_ws "RankHouseModel" := ⟨hx, hb, hml, hown, fun w h => hts w (List.mem_cons_of_mem _ h)⟩
  have hw := ga_start hv
  have hl := lv_entry ([.ref p0, .int p1, .int p2]) (n := 4) (Nat.le_of_ble_eq_true rfl)
  rw [show entryFrame m args 4 = entryFrame m ([.ref p0, .int p1, .int p2] : List Value).toArray 4 by rw [ha], lg_entry_eq]
  generalize (lg_sl ([.ref p0, .int p1, .int p2]) ++ List.replicate (4 - (lg_sl ([.ref p0, .int p1, .int p2])).length) Slot.unset).toArray = ls at hl ⊢
  have hl : lv_has ls 4 [(0, .ref p0), (1, .int p1), (2, .int p2)] := hl
  have key : ∀ Q : State → Prop, (∀ (pc : Nat) (ls : Array Slot) (H : Heap) (locs : List Loc) (x : Int32) (I1 : gMI), (x, I1) = (r, RI) → decode prog_10_method_48_code pc = .ok (.ireturn, 1) → ga_W D T z L S I1 J s H locs → W p l e rm_M_found s m args below meth c H locs 0 0 Q (F0 m pc ls [.int x])) → W p l e rm_M_found s m args below meth c s.heap [] 0 0 Q (F0 m 0 ls []) := by
    intro Q hret
    rw [f_M_found] at hF
    refine lv_aload_n hx hb d_M_found_0 rfl (lv_at hl 0 rfl) ?_
    refine lv_iload_n hx hb d_M_found_1 rfl (lv_at hl 1 rfl) ?_
    obtain ⟨t1, hF⟩ := gd_ex hF
    obtain ⟨x2, c3, hF⟩ := ob_ex hF
    refine ga_cVi (As := [.int p1]) C hw (c_M_placeOf l D T z L c3) gy_M_217 t1 rfl hl.1 ⟨Nat.le_of_ble_eq_true rfl, Nat.le_of_ble_eq_true rfl, rfl, rfl, Nat.le_of_ble_eq_true rfl, Nat.le_of_ble_eq_true rfl⟩ (Nat.le_of_ble_eq_true rfl) rfl d_M_found_2 (fun H locs hw => ?_)
    refine lv_istore_n hx hb d_M_found_5 rfl hl (by decide) rfl (fun ls hl => ?_)
    have hl : lv_has ls 4 [(3, .int x2), (0, .ref p0), (1, .int p1), (2, .int p2)] := hl
    refine lv_aload_n hx hb d_M_found_6 rfl (lv_at hl 1 rfl) ?_
    refine lv_iload_n hx hb d_M_found_7 rfl (lv_at hl 0 rfl) ?_
    refine lv_iconst (v := -1) hx hb d_M_found_8 (by decide) ?_
    by_cases h4 : x2 = (-1 : Int32)
    · rw [if_pos h4] at hF
      refine lv_icmp_ne (tgt := 16) hx hb d_M_found_9 (by decide) (fun hn => absurd h4 hn) (fun _ => ?_)
      refine lv_iconst (v := 1) hx hb d_M_found_12 (by decide) ?_
      refine lv_goto (tgt := 51) hx hb d_M_found_13 (by decide) ?_
      exact m_M_found_b51 hret C _ _ _ _ _ _ hF _ _ _ (lv_sub hl [1, 3, 0] rfl) hw
    · rw [if_neg h4] at hF
      refine lv_icmp_ne (tgt := 16) hx hb d_M_found_9 (by decide) (fun _ => ?_) (fun hp => absurd hp h4)
      refine lv_aload_n hx hb d_M_found_16 rfl (lv_at hl 1 rfl) ?_
      obtain ⟨r5, hr5, hF⟩ := ob_ex hF
      refine ga_getR C hw gf_M_41 t1 hr5 d_M_found_17 ?_
      refine lv_iload_n hx hb d_M_found_20 rfl (lv_at hl 0 rfl) ?_
      obtain ⟨t6, hF⟩ := gd_ex hF
      obtain ⟨b7, hF⟩ := gd_ex hF
      refine ga_iald C hw t6 b7 d_M_found_21 ?_
      refine lv_iconst (v := 1) hx hb d_M_found_22 (by decide) ?_
      by_cases h8 : (I r5 x2.toNatClampNeg) = (1 : Int32)
      · rw [if_pos h8] at hF
        refine lv_icmp_ne (tgt := 46) hx hb d_M_found_23 (by decide) (fun hn => absurd h8 hn) (fun _ => ?_)
        refine lv_aload_n hx hb d_M_found_26 rfl (lv_at hl 1 rfl) ?_
        obtain ⟨r9, hr9, hF⟩ := ob_ex hF
        refine ga_getR C hw gf_M_23 t1 hr9 d_M_found_27 ?_
        refine lv_iload_n hx hb d_M_found_30 rfl (lv_at hl 0 rfl) ?_
        obtain ⟨t10, hF⟩ := gd_ex hF
        obtain ⟨b11, hF⟩ := gd_ex hF
        refine ga_iald C hw t10 b11 d_M_found_31 ?_
        refine lv_iconst (v := 2) hx hb d_M_found_32 (by decide) ?_
        by_cases h12 : (I r9 x2.toNatClampNeg) = (2 : Int32)
        · rw [if_pos h12] at hF
          refine lv_icmp_eq (tgt := 50) hx hb d_M_found_33 (by decide) (fun _ => ?_) (fun hn => absurd h12 hn)
          exact m_M_found_b50 hret C _ _ _ _ _ hF _ _ _ (lv_sub hl [1, 3, 0] rfl) hw
        · rw [if_neg h12] at hF
          refine lv_icmp_eq (tgt := 50) hx hb d_M_found_33 (by decide) (fun hp => absurd hp h12) (fun _ => ?_)
          refine lv_aload_n hx hb d_M_found_36 rfl (lv_at hl 1 rfl) ?_
          refine ga_getR C hw gf_M_23 t1 hr9 d_M_found_37 ?_
          refine lv_iload_n hx hb d_M_found_40 rfl (lv_at hl 0 rfl) ?_
          refine ga_iald C hw t10 b11 d_M_found_41 ?_
          refine lv_iconst (v := 4) hx hb d_M_found_42 (by decide) ?_
          by_cases h13 : (I r9 x2.toNatClampNeg) = (4 : Int32)
          · rw [if_pos h13] at hF
            refine lv_icmp_eq (tgt := 50) hx hb d_M_found_43 (by decide) (fun _ => ?_) (fun hn => absurd h13 hn)
            exact m_M_found_b50 hret C _ _ _ _ _ hF _ _ _ (lv_sub hl [1, 3, 0] rfl) hw
          · rw [if_neg h13] at hF
            refine lv_icmp_eq (tgt := 50) hx hb d_M_found_43 (by decide) (fun hp => absurd hp h13) (fun _ => ?_)
            exact m_M_found_b46 hret C _ _ _ _ _ hF _ _ _ (lv_sub hl [1, 3, 0] rfl) hw
      · rw [if_neg h8] at hF
        refine lv_icmp_ne (tgt := 46) hx hb d_M_found_23 (by decide) (fun _ => ?_) (fun hp => absurd hp h8)
        exact m_M_found_b46 hret C _ _ _ _ _ hF _ _ _ (lv_sub hl [1, 3, 0] rfl) hw
  refine key _ (fun pc ls H locs x I1 he hd hw => ?_)
  · cases he
    exact W.iret hx hb hr (fun t ht _ => ⟨⟨_, (), rfl, rfl, ga_o hw ht⟩, hw.2.2.2.1.F ht⟩) hw.2.2.2.1.2.2 hd
set_option maxHeartbeats 4000000 in
set_option maxRecDepth 100000 in
theorem m_M_about_b95 {J : gMJ} {zz : Int32 × gMI} (hret : ∀ (pc : Nat) (ls : Array Slot) (H : Heap) (locs : List Loc) (x : Int32) (I1 : gMI), (x, I1) = zz → decode prog_10_method_49_code pc = .ok (.ireturn, 1) → ga_W D T z L S I1 J s H locs → W p l e rm_M_about s m args below meth c H locs 0 0 Q (F0 m pc ls [.int x])) (C : CallFix p m c prog_10_method_49_code 6 s args ga_ws "RankHouseModel") : ∀ (I : gMI) (s0 : Int32), f_M_about_b95 S J I s0 = some zz → ∀ (ls : Array Slot) (H : Heap) (locs : List Loc), lv_has ls 6 [] → ga_W D T z L S I J s H locs → W p l e rm_M_about s m args below meth c H locs 0 0 Q (F0 m 95 ls [.int s0]) := by
  intro I s0 hF ls H locs hl hw
  have hx := C.1
  have hb := C.2.1
  rw [f_M_about_b95] at hF
  exact hret _ _ _ _ _ _ (Option.some.inj hF) d_M_about_95 hw
set_option maxHeartbeats 4000000 in
set_option maxRecDepth 100000 in
theorem m_M_about_b122 {J : gMJ} {zz : Int32 × gMI} (hret : ∀ (pc : Nat) (ls : Array Slot) (H : Heap) (locs : List Loc) (x : Int32) (I1 : gMI), (x, I1) = zz → decode prog_10_method_49_code pc = .ok (.ireturn, 1) → ga_W D T z L S I1 J s H locs → W p l e rm_M_about s m args below meth c H locs 0 0 Q (F0 m pc ls [.int x])) (C : CallFix p m c prog_10_method_49_code 6 s args ga_ws "RankHouseModel") : ∀ (I : gMI) (s0 : Int32), f_M_about_b122 S J I s0 = some zz → ∀ (ls : Array Slot) (H : Heap) (locs : List Loc), lv_has ls 6 [] → ga_W D T z L S I J s H locs → W p l e rm_M_about s m args below meth c H locs 0 0 Q (F0 m 122 ls [.int s0]) := by
  intro I s0 hF ls H locs hl hw
  have hx := C.1
  have hb := C.2.1
  rw [f_M_about_b122] at hF
  exact hret _ _ _ _ _ _ (Option.some.inj hF) d_M_about_122 hw
set_option maxHeartbeats 4000000 in
set_option maxRecDepth 100000 in
theorem m_M_about_b158 {J : gMJ} {zz : Int32 × gMI} (hret : ∀ (pc : Nat) (ls : Array Slot) (H : Heap) (locs : List Loc) (x : Int32) (I1 : gMI), (x, I1) = zz → decode prog_10_method_49_code pc = .ok (.ireturn, 1) → ga_W D T z L S I1 J s H locs → W p l e rm_M_about s m args below meth c H locs 0 0 Q (F0 m pc ls [.int x])) (C : CallFix p m c prog_10_method_49_code 6 s args ga_ws "RankHouseModel") (k129 : gMI → Nat → Int32 → Int32 → Int32 → Int32 → Option (Int32 × gMI)) (hk129 : ∀ (I : gMI) (l0 : Nat) (l2 : Int32) (l3 : Int32) (l4 : Int32) (l5 : Int32), k129 I l0 l2 l3 l4 l5 = some zz → ∀ (ls : Array Slot) (H : Heap) (locs : List Loc), lv_has ls 6 [(0, .ref l0), (2, .int l2), (3, .int l3), (4, .int l4), (5, .int l5)] → ga_W D T z L S I J s H locs → W p l e rm_M_about s m args below meth c H locs 0 0 Q (F0 m 129 ls [])) : ∀ (I : gMI) (s0 : Int32) (s1 : Int32) (l0 : Nat) (l2 : Int32) (l3 : Int32) (l5 : Int32), f_M_about_b158 S J k129 I s0 s1 l0 l2 l3 l5 = some zz → ∀ (ls : Array Slot) (H : Heap) (locs : List Loc), lv_has ls 6 [(0, .ref l0), (2, .int l2), (3, .int l3), (5, .int l5)] → ga_W D T z L S I J s H locs → W p l e rm_M_about s m args below meth c H locs 0 0 Q (F0 m 158 ls [.int s0, .int s1]) := by
  intro I s0 s1 l0 l2 l3 l5 hF ls H locs hl hw
  have hx := C.1
  have hb := C.2.1
  rw [f_M_about_b158] at hF
  refine lv_iadd hx hb d_M_about_158 ?_
  refine lv_topi (fun v1 ev1 => ?_)
  replace hF := bnd_at hF ev1
  refine lv_istore hx hb d_M_about_159 hl (by decide) rfl (fun ls hl => ?_)
  have hl : lv_has ls 6 [(4, .int v1), (0, .ref l0), (2, .int l2), (3, .int l3), (5, .int l5)] := hl
  obtain ⟨v2, ev2, hF⟩ := bnd_ex hF
  refine lv_iinc (k := 4) (v := v2) hx hb d_M_about_161 hl rfl (by rw [ev2]; rfl) (by decide) rfl (fun ls hl => ?_)
  have hl : lv_has ls 6 [(5, .int v2), (4, .int v1), (0, .ref l0), (2, .int l2), (3, .int l3)] := hl
  refine lv_goto (tgt := 129) hx hb d_M_about_164 (by decide) ?_
  exact hk129 _ _ _ _ _ _ hF _ _ _ (lv_sub hl [2, 3, 4, 1, 0] rfl) hw
set_option maxHeartbeats 4000000 in
set_option maxRecDepth 100000 in
theorem m_M_about_b197 {J : gMJ} {zz : Int32 × gMI} (hret : ∀ (pc : Nat) (ls : Array Slot) (H : Heap) (locs : List Loc) (x : Int32) (I1 : gMI), (x, I1) = zz → decode prog_10_method_49_code pc = .ok (.ireturn, 1) → ga_W D T z L S I1 J s H locs → W p l e rm_M_about s m args below meth c H locs 0 0 Q (F0 m pc ls [.int x])) (C : CallFix p m c prog_10_method_49_code 6 s args ga_ws "RankHouseModel") : ∀ (I : gMI) (s0 : Int32), f_M_about_b197 S J I s0 = some zz → ∀ (ls : Array Slot) (H : Heap) (locs : List Loc), lv_has ls 6 [] → ga_W D T z L S I J s H locs → W p l e rm_M_about s m args below meth c H locs 0 0 Q (F0 m 197 ls [.int s0]) := by
  intro I s0 hF ls H locs hl hw
  have hx := C.1
  have hb := C.2.1
  rw [f_M_about_b197] at hF
  exact hret _ _ _ _ _ _ (Option.some.inj hF) d_M_about_197 hw
set_option maxHeartbeats 4000000 in
set_option maxRecDepth 100000 in
theorem m_M_about_b129 {J : gMJ} {zz : Int32 × gMI} (hret : ∀ (pc : Nat) (ls : Array Slot) (H : Heap) (locs : List Loc) (x : Int32) (I1 : gMI), (x, I1) = zz → decode prog_10_method_49_code pc = .ok (.ireturn, 1) → ga_W D T z L S I1 J s H locs → W p l e rm_M_about s m args below meth c H locs 0 0 Q (F0 m pc ls [.int x])) (C : CallFix p m c prog_10_method_49_code 6 s args ga_ws "RankHouseModel") : ∀ (n : Nat) (I : gMI) (l0 : Nat) (l2 : Int32) (l3 : Int32) (l4 : Int32) (l5 : Int32), f_M_about_b129 S J n I l0 l2 l3 l4 l5 = some zz → ∀ (ls : Array Slot) (H : Heap) (locs : List Loc), lv_has ls 6 [(0, .ref l0), (2, .int l2), (3, .int l3), (4, .int l4), (5, .int l5)] → ga_W D T z L S I J s H locs → W p l e rm_M_about s m args below meth c H locs 0 0 Q (F0 m 129 ls []) := by
  intro n
  induction n with
  | zero =>
    intro I l0 l2 l3 l4 l5 hF ls H locs hl hw
    rw [f_M_about_b129] at hF
    cases hF
  | succ n ih =>
    intro I l0 l2 l3 l4 l5 hF ls H locs hl hw
    have hx := C.1
    have hb := C.2.1
    rw [f_M_about_b129] at hF
    refine lv_iload hx hb d_M_about_129 (lv_at hl 4 rfl) ?_
    refine lv_bipush (v := 8) hx hb d_M_about_131 (by decide) ?_
    by_cases h1 : (8 : Int32) ≤ l5
    · rw [if_pos h1] at hF
      refine lv_icmp_ge (tgt := 167) hx hb d_M_about_133 (by decide) (fun _ => ?_) (fun hn => absurd h1 hn)
      refine lv_aload_n hx hb d_M_about_167 rfl (lv_at hl 0 rfl) ?_
      obtain ⟨t2, hF⟩ := gd_ex hF
      obtain ⟨r3, hr3, hF⟩ := ob_ex hF
      refine ga_getR C hw gf_M_41 t2 hr3 d_M_about_168 ?_
      refine lv_iload_n hx hb d_M_about_171 rfl (lv_at hl 2 rfl) ?_
      obtain ⟨t4, hF⟩ := gd_ex hF
      obtain ⟨b5, hF⟩ := gd_ex hF
      refine ga_iald C hw t4 b5 d_M_about_172 ?_
      by_cases h6 : (I r3 l3.toNatClampNeg) = 0
      · rw [if_pos h6] at hF
        refine lv_if_eq (tgt := 180) hx hb d_M_about_173 (by decide) (fun _ => ?_) (fun hn => absurd h6 hn)
        refine lv_iload_n hx hb d_M_about_180 rfl (lv_at hl 1 rfl) ?_
        refine lv_bipush (v := 6) hx hb d_M_about_181 (by decide) ?_
        by_cases h7 : l2 = (6 : Int32)
        · rw [if_pos h7] at hF
          refine lv_icmp_ne (tgt := 195) hx hb d_M_about_183 (by decide) (fun hn => absurd h7 hn) (fun _ => ?_)
          refine lv_aload_n hx hb d_M_about_186 rfl (lv_at hl 0 rfl) ?_
          obtain ⟨r8, hr8, hF⟩ := ob_ex hF
          refine ga_getR C hw gf_M_53 t2 hr8 d_M_about_187 ?_
          refine lv_iload_n hx hb d_M_about_190 rfl (lv_at hl 2 rfl) ?_
          obtain ⟨t9, hF⟩ := gd_ex hF
          obtain ⟨b10, hF⟩ := gd_ex hF
          refine ga_iald C hw t9 b10 d_M_about_191 ?_
          refine lv_goto (tgt := 197) hx hb d_M_about_192 (by decide) ?_
          exact m_M_about_b197 hret C _ _ hF _ _ _ (lv_sub hl [] rfl) hw
        · rw [if_neg h7] at hF
          refine lv_icmp_ne (tgt := 195) hx hb d_M_about_183 (by decide) (fun _ => ?_) (fun hp => absurd hp h7)
          refine lv_iload hx hb d_M_about_195 (lv_at hl 3 rfl) ?_
          exact m_M_about_b197 hret C _ _ hF _ _ _ (lv_sub hl [] rfl) hw
      · rw [if_neg h6] at hF
        refine lv_if_eq (tgt := 180) hx hb d_M_about_173 (by decide) (fun hp => absurd hp h6) (fun _ => ?_)
        refine lv_iconst (v := 0) hx hb d_M_about_176 (by decide) ?_
        refine lv_goto (tgt := 197) hx hb d_M_about_177 (by decide) ?_
        exact m_M_about_b197 hret C _ _ hF _ _ _ (lv_sub hl [] rfl) hw
    · rw [if_neg h1] at hF
      refine lv_icmp_ge (tgt := 167) hx hb d_M_about_133 (by decide) (fun hp => absurd hp h1) (fun _ => ?_)
      refine lv_iload hx hb d_M_about_136 (lv_at hl 3 rfl) ?_
      refine lv_aload_n hx hb d_M_about_138 rfl (lv_at hl 0 rfl) ?_
      obtain ⟨t11, hF⟩ := gd_ex hF
      obtain ⟨r12, hr12, hF⟩ := ob_ex hF
      refine ga_getR C hw gf_M_87 t11 hr12 d_M_about_139 ?_
      refine lv_bipush (v := 8) hx hb d_M_about_142 (by decide) ?_
      refine lv_iload_n hx hb d_M_about_144 rfl (lv_at hl 2 rfl) ?_
      refine lv_imul hx hb d_M_about_145 ?_
      refine lv_iload hx hb d_M_about_146 (lv_at hl 4 rfl) ?_
      refine lv_iadd hx hb d_M_about_148 ?_
      obtain ⟨t13, hF⟩ := gd_ex hF
      obtain ⟨b14, hF⟩ := gd_ex hF
      refine ga_zald C hw t13 b14 d_M_about_149 ?_
      by_cases h15 : (I r12 (((8 : Int32) * l3) + l5).toNatClampNeg) = 0
      · rw [if_pos h15] at hF
        refine lv_if_eq (tgt := 157) hx hb d_M_about_150 (by decide) (fun _ => ?_) (fun hn => absurd h15 hn)
        refine lv_iconst (v := 0) hx hb d_M_about_157 (by decide) ?_
        exact m_M_about_b158 hret C _ ih _ _ _ _ _ _ _ hF _ _ _ (lv_sub hl [0, 1, 2, 4] rfl) hw
      · rw [if_neg h15] at hF
        refine lv_if_eq (tgt := 157) hx hb d_M_about_150 (by decide) (fun hp => absurd hp h15) (fun _ => ?_)
        refine lv_iconst (v := 1) hx hb d_M_about_153 (by decide) ?_
        refine lv_goto (tgt := 158) hx hb d_M_about_154 (by decide) ?_
        exact m_M_about_b158 hret C _ ih _ _ _ _ _ _ _ hF _ _ _ (lv_sub hl [0, 1, 2, 4] rfl) hw
set_option maxHeartbeats 4000000 in
set_option maxRecDepth 100000 in
theorem m_M_about_b31 {J : gMJ} {zz : Int32 × gMI} (hret : ∀ (pc : Nat) (ls : Array Slot) (H : Heap) (locs : List Loc) (x : Int32) (I1 : gMI), (x, I1) = zz → decode prog_10_method_49_code pc = .ok (.ireturn, 1) → ga_W D T z L S I1 J s H locs → W p l e rm_M_about s m args below meth c H locs 0 0 Q (F0 m pc ls [.int x])) (C : CallFix p m c prog_10_method_49_code 6 s args ga_ws "RankHouseModel") : ∀ (I : gMI) (s0 : Int32) (s1 : Nat) (l0 : Nat) (l2 : Int32) (l3 : Int32), f_M_about_b31 S J I s0 s1 l0 l2 l3 = some zz → ∀ (ls : Array Slot) (H : Heap) (locs : List Loc), lv_has ls 6 [(0, .ref l0), (2, .int l2), (3, .int l3)] → ga_W D T z L S I J s H locs → W p l e rm_M_about s m args below meth c H locs 0 0 Q (F0 m 31 ls [.int s0, .ref s1]) := by
  intro I s0 s1 l0 l2 l3 hF ls H locs hl hw
  have hx := C.1
  have hb := C.2.1
  rw [f_M_about_b31] at hF
  obtain ⟨t1, hF⟩ := gd_ex hF
  obtain ⟨I2, eI2, hF⟩ := bnd_ex hF
  refine ga_putI C hw gp_M_114 t1 rfl rfl eI2 d_M_about_31 (fun H locs hw => ?_)
  refine lv_aload_n hx hb d_M_about_34 rfl (lv_at hl 0 rfl) ?_
  obtain ⟨t3, hF⟩ := gd_ex hF
  refine ga_getI C hw gf_M_114 t3 d_M_about_35 ?_
  by_cases h4 : (I2 l0 0) ≤ 0
  · rw [if_pos h4] at hF
    refine lv_if_le (tgt := 43) hx hb d_M_about_38 (by decide) (fun _ => ?_) (fun hn => absurd h4 hn)
    refine lv_iload_n hx hb d_M_about_43 rfl (lv_at hl 1 rfl) ?_
    refine lv_iconst (v := 4) hx hb d_M_about_44 (by decide) ?_
    by_cases h5 : (4 : Int32) ≤ l2
    · rw [if_pos h5] at hF
      refine lv_icmp_ge (tgt := 96) hx hb d_M_about_45 (by decide) (fun _ => ?_) (fun hn => absurd h5 hn)
      refine lv_iload_n hx hb d_M_about_96 rfl (lv_at hl 1 rfl) ?_
      refine lv_bipush (v := 6) hx hb d_M_about_97 (by decide) ?_
      by_cases h6 : (6 : Int32) ≤ l2
      · rw [if_pos h6] at hF
        refine lv_icmp_ge (tgt := 123) hx hb d_M_about_99 (by decide) (fun _ => ?_) (fun hn => absurd h6 hn)
        refine lv_iconst (v := 0) hx hb d_M_about_123 (by decide) ?_
        refine lv_istore hx hb d_M_about_124 hl (by decide) rfl (fun ls hl => ?_)
        have hl : lv_has ls 6 [(4, .int (0 : Int32)), (0, .ref l0), (2, .int l2), (3, .int l3)] := hl
        refine lv_iconst (v := 0) hx hb d_M_about_126 (by decide) ?_
        refine lv_istore hx hb d_M_about_127 hl (by decide) rfl (fun ls hl => ?_)
        have hl : lv_has ls 6 [(5, .int (0 : Int32)), (4, .int (0 : Int32)), (0, .ref l0), (2, .int l2), (3, .int l3)] := hl
        exact m_M_about_b129 hret C gFuel _ _ _ _ _ _ hF _ _ _ (lv_sub hl [2, 3, 4, 1, 0] rfl) hw
      · rw [if_neg h6] at hF
        refine lv_icmp_ge (tgt := 123) hx hb d_M_about_99 (by decide) (fun hp => absurd hp h6) (fun _ => ?_)
        refine lv_iload_n hx hb d_M_about_102 rfl (lv_at hl 1 rfl) ?_
        refine lv_iconst (v := 4) hx hb d_M_about_103 (by decide) ?_
        by_cases h7 : l2 = (4 : Int32)
        · rw [if_pos h7] at hF
          refine lv_icmp_ne (tgt := 116) hx hb d_M_about_104 (by decide) (fun hn => absurd h7 hn) (fun _ => ?_)
          refine lv_aload_n hx hb d_M_about_107 rfl (lv_at hl 0 rfl) ?_
          obtain ⟨r11, hr11, hF⟩ := ob_ex hF
          refine ga_getR C hw gf_M_47 t3 hr11 d_M_about_108 ?_
          refine lv_iload_n hx hb d_M_about_111 rfl (lv_at hl 2 rfl) ?_
          obtain ⟨t12, hF⟩ := gd_ex hF
          obtain ⟨b13, hF⟩ := gd_ex hF
          refine ga_iald C hw t12 b13 d_M_about_112 ?_
          refine lv_goto (tgt := 122) hx hb d_M_about_113 (by decide) ?_
          exact m_M_about_b122 hret C _ _ hF _ _ _ (lv_sub hl [] rfl) hw
        · rw [if_neg h7] at hF
          refine lv_icmp_ne (tgt := 116) hx hb d_M_about_104 (by decide) (fun _ => ?_) (fun hp => absurd hp h7)
          refine lv_aload_n hx hb d_M_about_116 rfl (lv_at hl 0 rfl) ?_
          obtain ⟨r8, hr8, hF⟩ := ob_ex hF
          refine ga_getR C hw gf_M_50 t3 hr8 d_M_about_117 ?_
          refine lv_iload_n hx hb d_M_about_120 rfl (lv_at hl 2 rfl) ?_
          obtain ⟨t9, hF⟩ := gd_ex hF
          obtain ⟨b10, hF⟩ := gd_ex hF
          refine ga_iald C hw t9 b10 d_M_about_121 ?_
          exact m_M_about_b122 hret C _ _ hF _ _ _ (lv_sub hl [] rfl) hw
    · rw [if_neg h5] at hF
      refine lv_icmp_ge (tgt := 96) hx hb d_M_about_45 (by decide) (fun hp => absurd hp h5) (fun _ => ?_)
      refine lv_iload_n hx hb d_M_about_48 rfl (lv_at hl 1 rfl) ?_
      by_cases h14 : l2 = 0
      · rw [if_pos h14] at hF
        refine lv_if_ne (tgt := 61) hx hb d_M_about_49 (by decide) (fun hn => absurd h14 hn) (fun _ => ?_)
        refine lv_aload_n hx hb d_M_about_52 rfl (lv_at hl 0 rfl) ?_
        obtain ⟨r26, hr26, hF⟩ := ob_ex hF
        refine ga_getR C hw gf_M_32 t3 hr26 d_M_about_53 ?_
        refine lv_iload_n hx hb d_M_about_56 rfl (lv_at hl 2 rfl) ?_
        obtain ⟨t27, hF⟩ := gd_ex hF
        obtain ⟨b28, hF⟩ := gd_ex hF
        refine ga_iald C hw t27 b28 d_M_about_57 ?_
        refine lv_goto (tgt := 95) hx hb d_M_about_58 (by decide) ?_
        exact m_M_about_b95 hret C _ _ hF _ _ _ (lv_sub hl [] rfl) hw
      · rw [if_neg h14] at hF
        refine lv_if_ne (tgt := 61) hx hb d_M_about_49 (by decide) (fun _ => ?_) (fun hp => absurd hp h14)
        refine lv_iload_n hx hb d_M_about_61 rfl (lv_at hl 1 rfl) ?_
        refine lv_iconst (v := 1) hx hb d_M_about_62 (by decide) ?_
        by_cases h15 : l2 = (1 : Int32)
        · rw [if_pos h15] at hF
          refine lv_icmp_ne (tgt := 75) hx hb d_M_about_63 (by decide) (fun hn => absurd h15 hn) (fun _ => ?_)
          refine lv_aload_n hx hb d_M_about_66 rfl (lv_at hl 0 rfl) ?_
          obtain ⟨r23, hr23, hF⟩ := ob_ex hF
          refine ga_getR C hw gf_M_35 t3 hr23 d_M_about_67 ?_
          refine lv_iload_n hx hb d_M_about_70 rfl (lv_at hl 2 rfl) ?_
          obtain ⟨t24, hF⟩ := gd_ex hF
          obtain ⟨b25, hF⟩ := gd_ex hF
          refine ga_iald C hw t24 b25 d_M_about_71 ?_
          refine lv_goto (tgt := 95) hx hb d_M_about_72 (by decide) ?_
          exact m_M_about_b95 hret C _ _ hF _ _ _ (lv_sub hl [] rfl) hw
        · rw [if_neg h15] at hF
          refine lv_icmp_ne (tgt := 75) hx hb d_M_about_63 (by decide) (fun _ => ?_) (fun hp => absurd hp h15)
          refine lv_iload_n hx hb d_M_about_75 rfl (lv_at hl 1 rfl) ?_
          refine lv_iconst (v := 2) hx hb d_M_about_76 (by decide) ?_
          by_cases h16 : l2 = (2 : Int32)
          · rw [if_pos h16] at hF
            refine lv_icmp_ne (tgt := 89) hx hb d_M_about_77 (by decide) (fun hn => absurd h16 hn) (fun _ => ?_)
            refine lv_aload_n hx hb d_M_about_80 rfl (lv_at hl 0 rfl) ?_
            obtain ⟨r20, hr20, hF⟩ := ob_ex hF
            refine ga_getR C hw gf_M_38 t3 hr20 d_M_about_81 ?_
            refine lv_iload_n hx hb d_M_about_84 rfl (lv_at hl 2 rfl) ?_
            obtain ⟨t21, hF⟩ := gd_ex hF
            obtain ⟨b22, hF⟩ := gd_ex hF
            refine ga_iald C hw t21 b22 d_M_about_85 ?_
            refine lv_goto (tgt := 95) hx hb d_M_about_86 (by decide) ?_
            exact m_M_about_b95 hret C _ _ hF _ _ _ (lv_sub hl [] rfl) hw
          · rw [if_neg h16] at hF
            refine lv_icmp_ne (tgt := 89) hx hb d_M_about_77 (by decide) (fun _ => ?_) (fun hp => absurd hp h16)
            refine lv_aload_n hx hb d_M_about_89 rfl (lv_at hl 0 rfl) ?_
            obtain ⟨r17, hr17, hF⟩ := ob_ex hF
            refine ga_getR C hw gf_M_44 t3 hr17 d_M_about_90 ?_
            refine lv_iload_n hx hb d_M_about_93 rfl (lv_at hl 2 rfl) ?_
            obtain ⟨t18, hF⟩ := gd_ex hF
            obtain ⟨b19, hF⟩ := gd_ex hF
            refine ga_iald C hw t18 b19 d_M_about_94 ?_
            exact m_M_about_b95 hret C _ _ hF _ _ _ (lv_sub hl [] rfl) hw
  · rw [if_neg h4] at hF
    refine lv_if_le (tgt := 43) hx hb d_M_about_38 (by decide) (fun hp => absurd hp h4) (fun _ => ?_)
    refine lv_iconst (v := 0) hx hb d_M_about_41 (by decide) ?_
    exact hret _ _ _ _ _ _ (Option.some.inj hF) d_M_about_42 hw
set_option maxHeartbeats 4000000 in
set_option maxRecDepth 100000 in
theorem m_M_about_b26 {J : gMJ} {zz : Int32 × gMI} (hret : ∀ (pc : Nat) (ls : Array Slot) (H : Heap) (locs : List Loc) (x : Int32) (I1 : gMI), (x, I1) = zz → decode prog_10_method_49_code pc = .ok (.ireturn, 1) → ga_W D T z L S I1 J s H locs → W p l e rm_M_about s m args below meth c H locs 0 0 Q (F0 m pc ls [.int x])) (C : CallFix p m c prog_10_method_49_code 6 s args ga_ws "RankHouseModel") : ∀ (I : gMI) (s0 : Nat) (l0 : Nat) (l2 : Int32) (l3 : Int32), f_M_about_b26 S J I s0 l0 l2 l3 = some zz → ∀ (ls : Array Slot) (H : Heap) (locs : List Loc), lv_has ls 6 [(0, .ref l0), (2, .int l2), (3, .int l3)] → ga_W D T z L S I J s H locs → W p l e rm_M_about s m args below meth c H locs 0 0 Q (F0 m 26 ls [.ref s0]) := by
  intro I s0 l0 l2 l3 hF ls H locs hl hw
  have hx := C.1
  have hb := C.2.1
  rw [f_M_about_b26] at hF
  refine lv_iconst (v := 2) hx hb d_M_about_26 (by decide) ?_
  refine lv_goto (tgt := 31) hx hb d_M_about_27 (by decide) ?_
  exact m_M_about_b31 hret C _ _ _ _ _ _ hF _ _ _ hl hw
set_option maxHeartbeats 4000000 in
set_option maxRecDepth 100000 in
theorem c_M_about (l : Launch) (D : va_G) (T : Nat → ClassId) (z : Nat) (L : List Nat) {S : gS} {I : gMI} {J : gMJ} {p0 : Nat} {p1 : Int32} {p2 : Int32} {r : Int32} {RI : gMI} (hF : f_M_about S I J p0 p1 p2 = some (r, RI)) : ga_Mi l y_M_about prog_10_method_49_code 6 (Option.some Jvm.ClassFile.FieldType.int) rm_M_about [.ref p0, .int p1, .int p2] D T z L S I J r RI J := by
  refine Met.ofW (cc := prog_10_method_49_code) (maxL := 6) (ret := (Option.some Jvm.ClassFile.FieldType.int)) (by decide) rfl ?_
  intro p e s m args below meth c s₁ B hml hv
  obtain ⟨ha, hv⟩ := hv
  have hx := B.exec
  have hb := B.bytes
  have hr := B.returns
  have hts := atoms_spec (ws := .code y_M_about prog_10_method_49_code 6 (Option.some Jvm.ClassFile.FieldType.int) :: ga_ws) B.pre
  have hown : s.vm.findClass "RankHouseModel" = some m.cls := findClass_of_methodNamed B.named
  have hlocks := B.notSynchronized
  have C : CallFix p m c prog_10_method_49_code 6 s args ga_ws "RankHouseModel" := ⟨hx, hb, hml, hown, fun w h => hts w (List.mem_cons_of_mem _ h)⟩
  have hw := ga_start hv
  have hl := lv_entry ([.ref p0, .int p1, .int p2]) (n := 6) (Nat.le_of_ble_eq_true rfl)
  rw [show entryFrame m args 6 = entryFrame m ([.ref p0, .int p1, .int p2] : List Value).toArray 6 by rw [ha], lg_entry_eq]
  generalize (lg_sl ([.ref p0, .int p1, .int p2]) ++ List.replicate (6 - (lg_sl ([.ref p0, .int p1, .int p2])).length) Slot.unset).toArray = ls at hl ⊢
  have hl : lv_has ls 6 [(0, .ref p0), (1, .int p1), (2, .int p2)] := hl
  have key : ∀ Q : State → Prop, (∀ (pc : Nat) (ls : Array Slot) (H : Heap) (locs : List Loc) (x : Int32) (I1 : gMI), (x, I1) = (r, RI) → decode prog_10_method_49_code pc = .ok (.ireturn, 1) → ga_W D T z L S I1 J s H locs → W p l e rm_M_about s m args below meth c H locs 0 0 Q (F0 m pc ls [.int x])) → W p l e rm_M_about s m args below meth c s.heap [] 0 0 Q (F0 m 0 ls []) := by
    intro Q hret
    rw [f_M_about] at hF
    refine lv_aload_n hx hb d_M_about_0 rfl (lv_at hl 0 rfl) ?_
    refine lv_iload_n hx hb d_M_about_1 rfl (lv_at hl 1 rfl) ?_
    obtain ⟨t1, hF⟩ := gd_ex hF
    obtain ⟨x2, c3, hF⟩ := ob_ex hF
    refine ga_cVi (As := [.int p1]) C hw (c_M_placeOf l D T z L c3) gy_M_217 t1 rfl hl.1 ⟨Nat.le_of_ble_eq_true rfl, Nat.le_of_ble_eq_true rfl, rfl, rfl, Nat.le_of_ble_eq_true rfl, Nat.le_of_ble_eq_true rfl⟩ (Nat.le_of_ble_eq_true rfl) rfl d_M_about_2 (fun H locs hw => ?_)
    refine lv_istore_n hx hb d_M_about_5 rfl hl (by decide) rfl (fun ls hl => ?_)
    have hl : lv_has ls 6 [(3, .int x2), (0, .ref p0), (1, .int p1), (2, .int p2)] := hl
    refine lv_aload_n hx hb d_M_about_6 rfl (lv_at hl 1 rfl) ?_
    refine lv_iload_n hx hb d_M_about_7 rfl (lv_at hl 0 rfl) ?_
    refine lv_iconst (v := -1) hx hb d_M_about_8 (by decide) ?_
    by_cases h4 : x2 = (-1 : Int32)
    · rw [if_pos h4] at hF
      refine lv_icmp_ne (tgt := 16) hx hb d_M_about_9 (by decide) (fun hn => absurd h4 hn) (fun _ => ?_)
      refine lv_iconst (v := 1) hx hb d_M_about_12 (by decide) ?_
      refine lv_goto (tgt := 31) hx hb d_M_about_13 (by decide) ?_
      exact m_M_about_b31 hret C _ _ _ _ _ _ hF _ _ _ (lv_sub hl [1, 3, 0] rfl) hw
    · rw [if_neg h4] at hF
      refine lv_icmp_ne (tgt := 16) hx hb d_M_about_9 (by decide) (fun _ => ?_) (fun hp => absurd hp h4)
      refine lv_iload_n hx hb d_M_about_16 rfl (lv_at hl 3 rfl) ?_
      by_cases h5 : p2 < 0
      · rw [if_pos h5] at hF
        refine lv_if_lt (tgt := 26) hx hb d_M_about_17 (by decide) (fun _ => ?_) (fun hn => absurd h5 hn)
        exact m_M_about_b26 hret C _ _ _ _ _ hF _ _ _ (lv_sub hl [1, 3, 0] rfl) hw
      · rw [if_neg h5] at hF
        refine lv_if_lt (tgt := 26) hx hb d_M_about_17 (by decide) (fun hp => absurd hp h5) (fun _ => ?_)
        refine lv_iload_n hx hb d_M_about_20 rfl (lv_at hl 3 rfl) ?_
        refine lv_bipush (v := 7) hx hb d_M_about_21 (by decide) ?_
        by_cases h6 : p2 ≤ (7 : Int32)
        · rw [if_pos h6] at hF
          refine lv_icmp_le (tgt := 30) hx hb d_M_about_23 (by decide) (fun _ => ?_) (fun hn => absurd h6 hn)
          refine lv_iconst (v := 0) hx hb d_M_about_30 (by decide) ?_
          exact m_M_about_b31 hret C _ _ _ _ _ _ hF _ _ _ (lv_sub hl [1, 3, 0] rfl) hw
        · rw [if_neg h6] at hF
          refine lv_icmp_le (tgt := 30) hx hb d_M_about_23 (by decide) (fun hp => absurd hp h6) (fun _ => ?_)
          exact m_M_about_b26 hret C _ _ _ _ _ hF _ _ _ (lv_sub hl [1, 3, 0] rfl) hw
  refine key _ (fun pc ls H locs x I1 he hd hw => ?_)
  · cases he
    exact W.iret hx hb hr (fun t ht _ => ⟨⟨_, (), rfl, rfl, ga_o hw ht⟩, hw.2.2.2.1.F ht⟩) hw.2.2.2.1.2.2 hd
set_option maxHeartbeats 4000000 in
set_option maxRecDepth 100000 in
theorem m_M_mark_b49 {J : gMJ} {zz : Int32 × gMI} (hret : ∀ (pc : Nat) (ls : Array Slot) (H : Heap) (locs : List Loc) (x : Int32) (I1 : gMI), (x, I1) = zz → decode prog_10_method_50_code pc = .ok (.ireturn, 1) → ga_W D T z L S I1 J s H locs → W p l e rm_M_mark s m args below meth c H locs 0 0 Q (F0 m pc ls [.int x])) (C : CallFix p m c prog_10_method_50_code 4 s args ga_ws "RankHouseModel") : ∀ (I : gMI) (s0 : Int32), f_M_mark_b49 S J I s0 = some zz → ∀ (ls : Array Slot) (H : Heap) (locs : List Loc), lv_has ls 4 [] → ga_W D T z L S I J s H locs → W p l e rm_M_mark s m args below meth c H locs 0 0 Q (F0 m 49 ls [.int s0]) := by
  intro I s0 hF ls H locs hl hw
  have hx := C.1
  have hb := C.2.1
  rw [f_M_mark_b49] at hF
  exact hret _ _ _ _ _ _ (Option.some.inj hF) d_M_mark_49 hw
set_option maxHeartbeats 4000000 in
set_option maxRecDepth 100000 in
theorem m_M_mark_b24 {J : gMJ} {zz : Int32 × gMI} (hret : ∀ (pc : Nat) (ls : Array Slot) (H : Heap) (locs : List Loc) (x : Int32) (I1 : gMI), (x, I1) = zz → decode prog_10_method_50_code pc = .ok (.ireturn, 1) → ga_W D T z L S I1 J s H locs → W p l e rm_M_mark s m args below meth c H locs 0 0 Q (F0 m pc ls [.int x])) (C : CallFix p m c prog_10_method_50_code 4 s args ga_ws "RankHouseModel") : ∀ (I : gMI) (s0 : Int32) (s1 : Nat) (l0 : Nat) (l1 : Int32) (l3 : Int32), f_M_mark_b24 S J I s0 s1 l0 l1 l3 = some zz → ∀ (ls : Array Slot) (H : Heap) (locs : List Loc), lv_has ls 4 [(0, .ref l0), (1, .int l1), (3, .int l3)] → ga_W D T z L S I J s H locs → W p l e rm_M_mark s m args below meth c H locs 0 0 Q (F0 m 24 ls [.int s0, .ref s1]) := by
  intro I s0 s1 l0 l1 l3 hF ls H locs hl hw
  have hx := C.1
  have hb := C.2.1
  rw [f_M_mark_b24] at hF
  obtain ⟨t1, hF⟩ := gd_ex hF
  obtain ⟨I2, eI2, hF⟩ := bnd_ex hF
  refine ga_putI C hw gp_M_114 t1 rfl rfl eI2 d_M_mark_24 (fun H locs hw => ?_)
  refine lv_aload_n hx hb d_M_mark_27 rfl (lv_at hl 0 rfl) ?_
  obtain ⟨t3, hF⟩ := gd_ex hF
  refine ga_getI C hw gf_M_114 t3 d_M_mark_28 ?_
  by_cases h4 : (I2 l0 0) ≤ 0
  · rw [if_pos h4] at hF
    refine lv_if_le (tgt := 38) hx hb d_M_mark_31 (by decide) (fun _ => ?_) (fun hn => absurd h4 hn)
    refine lv_aload_n hx hb d_M_mark_38 rfl (lv_at hl 0 rfl) ?_
    obtain ⟨r5, hr5, hF⟩ := ob_ex hF
    refine ga_getR C hw gf_M_56 t3 hr5 d_M_mark_39 ?_
    refine lv_bipush (v := 8) hx hb d_M_mark_42 (by decide) ?_
    refine lv_iload_n hx hb d_M_mark_44 rfl (lv_at hl 2 rfl) ?_
    refine lv_imul hx hb d_M_mark_45 ?_
    refine lv_iload_n hx hb d_M_mark_46 rfl (lv_at hl 1 rfl) ?_
    refine lv_iadd hx hb d_M_mark_47 ?_
    obtain ⟨t6, hF⟩ := gd_ex hF
    obtain ⟨b7, hF⟩ := gd_ex hF
    refine ga_iald C hw t6 b7 d_M_mark_48 ?_
    exact m_M_mark_b49 hret C _ _ hF _ _ _ (lv_sub hl [] rfl) hw
  · rw [if_neg h4] at hF
    refine lv_if_le (tgt := 38) hx hb d_M_mark_31 (by decide) (fun hp => absurd hp h4) (fun _ => ?_)
    refine lv_iconst (v := 0) hx hb d_M_mark_34 (by decide) ?_
    refine lv_goto (tgt := 49) hx hb d_M_mark_35 (by decide) ?_
    exact m_M_mark_b49 hret C _ _ hF _ _ _ (lv_sub hl [] rfl) hw
set_option maxHeartbeats 4000000 in
set_option maxRecDepth 100000 in
theorem m_M_mark_b19 {J : gMJ} {zz : Int32 × gMI} (hret : ∀ (pc : Nat) (ls : Array Slot) (H : Heap) (locs : List Loc) (x : Int32) (I1 : gMI), (x, I1) = zz → decode prog_10_method_50_code pc = .ok (.ireturn, 1) → ga_W D T z L S I1 J s H locs → W p l e rm_M_mark s m args below meth c H locs 0 0 Q (F0 m pc ls [.int x])) (C : CallFix p m c prog_10_method_50_code 4 s args ga_ws "RankHouseModel") : ∀ (I : gMI) (s0 : Nat) (l0 : Nat) (l1 : Int32) (l3 : Int32), f_M_mark_b19 S J I s0 l0 l1 l3 = some zz → ∀ (ls : Array Slot) (H : Heap) (locs : List Loc), lv_has ls 4 [(0, .ref l0), (1, .int l1), (3, .int l3)] → ga_W D T z L S I J s H locs → W p l e rm_M_mark s m args below meth c H locs 0 0 Q (F0 m 19 ls [.ref s0]) := by
  intro I s0 l0 l1 l3 hF ls H locs hl hw
  have hx := C.1
  have hb := C.2.1
  rw [f_M_mark_b19] at hF
  refine lv_iconst (v := 1) hx hb d_M_mark_19 (by decide) ?_
  refine lv_goto (tgt := 24) hx hb d_M_mark_20 (by decide) ?_
  exact m_M_mark_b24 hret C _ _ _ _ _ _ hF _ _ _ hl hw
set_option maxHeartbeats 4000000 in
set_option maxRecDepth 100000 in
theorem c_M_mark (l : Launch) (D : va_G) (T : Nat → ClassId) (z : Nat) (L : List Nat) {S : gS} {I : gMI} {J : gMJ} {p0 : Nat} {p1 : Int32} {p2 : Int32} {r : Int32} {RI : gMI} (hF : f_M_mark S I J p0 p1 p2 = some (r, RI)) : ga_Mi l y_M_mark prog_10_method_50_code 4 (Option.some Jvm.ClassFile.FieldType.int) rm_M_mark [.ref p0, .int p1, .int p2] D T z L S I J r RI J := by
  refine Met.ofW (cc := prog_10_method_50_code) (maxL := 4) (ret := (Option.some Jvm.ClassFile.FieldType.int)) (by decide) rfl ?_
  intro p e s m args below meth c s₁ B hml hv
  obtain ⟨ha, hv⟩ := hv
  have hx := B.exec
  have hb := B.bytes
  have hr := B.returns
  have hts := atoms_spec (ws := .code y_M_mark prog_10_method_50_code 4 (Option.some Jvm.ClassFile.FieldType.int) :: ga_ws) B.pre
  have hown : s.vm.findClass "RankHouseModel" = some m.cls := findClass_of_methodNamed B.named
  have hlocks := B.notSynchronized
  have C : CallFix p m c prog_10_method_50_code 4 s args ga_ws "RankHouseModel" := ⟨hx, hb, hml, hown, fun w h => hts w (List.mem_cons_of_mem _ h)⟩
  have hw := ga_start hv
  have hl := lv_entry ([.ref p0, .int p1, .int p2]) (n := 4) (Nat.le_of_ble_eq_true rfl)
  rw [show entryFrame m args 4 = entryFrame m ([.ref p0, .int p1, .int p2] : List Value).toArray 4 by rw [ha], lg_entry_eq]
  generalize (lg_sl ([.ref p0, .int p1, .int p2]) ++ List.replicate (4 - (lg_sl ([.ref p0, .int p1, .int p2])).length) Slot.unset).toArray = ls at hl ⊢
  have hl : lv_has ls 4 [(0, .ref p0), (1, .int p1), (2, .int p2)] := hl
  have key : ∀ Q : State → Prop, (∀ (pc : Nat) (ls : Array Slot) (H : Heap) (locs : List Loc) (x : Int32) (I1 : gMI), (x, I1) = (r, RI) → decode prog_10_method_50_code pc = .ok (.ireturn, 1) → ga_W D T z L S I1 J s H locs → W p l e rm_M_mark s m args below meth c H locs 0 0 Q (F0 m pc ls [.int x])) → W p l e rm_M_mark s m args below meth c s.heap [] 0 0 Q (F0 m 0 ls []) := by
    intro Q hret
    rw [f_M_mark] at hF
    refine lv_aload_n hx hb d_M_mark_0 rfl (lv_at hl 0 rfl) ?_
    refine lv_iload_n hx hb d_M_mark_1 rfl (lv_at hl 2 rfl) ?_
    obtain ⟨t1, hF⟩ := gd_ex hF
    obtain ⟨x2, c3, hF⟩ := ob_ex hF
    refine ga_cVi (As := [.int p2]) C hw (c_M_placeOf l D T z L c3) gy_M_217 t1 rfl hl.1 ⟨Nat.le_of_ble_eq_true rfl, Nat.le_of_ble_eq_true rfl, rfl, rfl, Nat.le_of_ble_eq_true rfl, Nat.le_of_ble_eq_true rfl⟩ (Nat.le_of_ble_eq_true rfl) rfl d_M_mark_2 (fun H locs hw => ?_)
    refine lv_istore_n hx hb d_M_mark_5 rfl hl (by decide) rfl (fun ls hl => ?_)
    have hl : lv_has ls 4 [(3, .int x2), (0, .ref p0), (1, .int p1), (2, .int p2)] := hl
    refine lv_aload_n hx hb d_M_mark_6 rfl (lv_at hl 1 rfl) ?_
    refine lv_iload_n hx hb d_M_mark_7 rfl (lv_at hl 2 rfl) ?_
    obtain ⟨x4, c5, hF⟩ := ob_ex hF
    refine ga_cSi (As := [.int p1]) C hw (c_M_isLogger l D T z L c5) gs_M_118 rfl hl.1 ⟨Nat.le_of_ble_eq_true rfl, Nat.le_of_ble_eq_true rfl, rfl, rfl, Nat.le_of_ble_eq_true rfl, Nat.le_of_ble_eq_true rfl⟩ (Nat.le_of_ble_eq_true rfl) rfl d_M_mark_8 (fun H locs hw => ?_)
    by_cases h6 : x4 = 0
    · rw [if_pos h6] at hF
      refine lv_if_eq (tgt := 19) hx hb d_M_mark_11 (by decide) (fun _ => ?_) (fun hn => absurd h6 hn)
      exact m_M_mark_b19 hret C _ _ _ _ _ hF _ _ _ (lv_sub hl [1, 2, 0] rfl) hw
    · rw [if_neg h6] at hF
      refine lv_if_eq (tgt := 19) hx hb d_M_mark_11 (by decide) (fun hp => absurd hp h6) (fun _ => ?_)
      refine lv_iload_n hx hb d_M_mark_14 rfl (lv_at hl 0 rfl) ?_
      refine lv_iconst (v := -1) hx hb d_M_mark_15 (by decide) ?_
      by_cases h7 : x2 = (-1 : Int32)
      · rw [if_pos h7] at hF
        refine lv_icmp_ne (tgt := 23) hx hb d_M_mark_16 (by decide) (fun hn => absurd h7 hn) (fun _ => ?_)
        exact m_M_mark_b19 hret C _ _ _ _ _ hF _ _ _ (lv_sub hl [1, 2, 0] rfl) hw
      · rw [if_neg h7] at hF
        refine lv_icmp_ne (tgt := 23) hx hb d_M_mark_16 (by decide) (fun _ => ?_) (fun hp => absurd hp h7)
        refine lv_iconst (v := 0) hx hb d_M_mark_23 (by decide) ?_
        exact m_M_mark_b24 hret C _ _ _ _ _ _ hF _ _ _ (lv_sub hl [1, 2, 0] rfl) hw
  refine key _ (fun pc ls H locs x I1 he hd hw => ?_)
  · cases he
    exact W.iret hx hb hr (fun t ht _ => ⟨⟨_, (), rfl, rfl, ga_o hw ht⟩, hw.2.2.2.1.F ht⟩) hw.2.2.2.1.2.2 hd
set_option maxHeartbeats 4000000 in
set_option maxRecDepth 100000 in
theorem m_M_forget_b60 {zz : Int32 × gMI × gMJ} (hret : ∀ (pc : Nat) (ls : Array Slot) (H : Heap) (locs : List Loc) (x : Int32) (I1 : gMI) (J1 : gMJ), (x, I1, J1) = zz → decode prog_10_method_51_code pc = .ok (.ireturn, 1) → ga_W D T z L S I1 J1 s H locs → W p l e rm_M_forget s m args below meth c H locs 0 0 Q (F0 m pc ls [.int x])) (C : CallFix p m c prog_10_method_51_code 5 s args ga_ws "RankHouseModel") (k36 : gMI → gMJ → Nat → Int32 → Int32 → Int32 → Option (Int32 × gMI × gMJ)) (hk36 : ∀ (I : gMI) (J : gMJ) (l0 : Nat) (l1 : Int32) (l2 : Int32) (l3 : Int32), k36 I J l0 l1 l2 l3 = some zz → ∀ (ls : Array Slot) (H : Heap) (locs : List Loc), lv_has ls 5 [(0, .ref l0), (1, .int l1), (2, .int l2), (3, .int l3)] → ga_W D T z L S I J s H locs → W p l e rm_M_forget s m args below meth c H locs 0 0 Q (F0 m 36 ls [])) : ∀ (I : gMI) (J : gMJ) (l0 : Nat) (l1 : Int32) (l2 : Int32) (l3 : Int32), f_M_forget_b60 S k36 I J l0 l1 l2 l3 = some zz → ∀ (ls : Array Slot) (H : Heap) (locs : List Loc), lv_has ls 5 [(0, .ref l0), (1, .int l1), (2, .int l2), (3, .int l3)] → ga_W D T z L S I J s H locs → W p l e rm_M_forget s m args below meth c H locs 0 0 Q (F0 m 60 ls []) := by
  intro I J l0 l1 l2 l3 hF ls H locs hl hw
  have hx := C.1
  have hb := C.2.1
  rw [f_M_forget_b60] at hF
  obtain ⟨v1, ev1, hF⟩ := bnd_ex hF
  refine lv_iinc (k := 3) (v := v1) hx hb d_M_forget_60 hl rfl (by rw [ev1]; rfl) (by decide) rfl (fun ls hl => ?_)
  have hl : lv_has ls 5 [(3, .int v1), (0, .ref l0), (1, .int l1), (2, .int l2)] := hl
  refine lv_goto (tgt := 36) hx hb d_M_forget_63 (by decide) ?_
  exact hk36 _ _ _ _ _ _ hF _ _ _ (lv_sub hl [1, 2, 3, 0] rfl) hw
set_option maxHeartbeats 4000000 in
set_option maxRecDepth 100000 in
theorem m_M_forget_b101 {zz : Int32 × gMI × gMJ} (hret : ∀ (pc : Nat) (ls : Array Slot) (H : Heap) (locs : List Loc) (x : Int32) (I1 : gMI) (J1 : gMJ), (x, I1, J1) = zz → decode prog_10_method_51_code pc = .ok (.ireturn, 1) → ga_W D T z L S I1 J1 s H locs → W p l e rm_M_forget s m args below meth c H locs 0 0 Q (F0 m pc ls [.int x])) (C : CallFix p m c prog_10_method_51_code 5 s args ga_ws "RankHouseModel") (k78 : gMI → gMJ → Nat → Int32 → Int32 → Option (Int32 × gMI × gMJ)) (hk78 : ∀ (I : gMI) (J : gMJ) (l0 : Nat) (l3 : Int32) (l4 : Int32), k78 I J l0 l3 l4 = some zz → ∀ (ls : Array Slot) (H : Heap) (locs : List Loc), lv_has ls 5 [(0, .ref l0), (3, .int l3), (4, .int l4)] → ga_W D T z L S I J s H locs → W p l e rm_M_forget s m args below meth c H locs 0 0 Q (F0 m 78 ls [])) : ∀ (I : gMI) (J : gMJ) (s0 : Int32) (s1 : Int32) (l0 : Nat) (l4 : Int32), f_M_forget_b101 S k78 I J s0 s1 l0 l4 = some zz → ∀ (ls : Array Slot) (H : Heap) (locs : List Loc), lv_has ls 5 [(0, .ref l0), (4, .int l4)] → ga_W D T z L S I J s H locs → W p l e rm_M_forget s m args below meth c H locs 0 0 Q (F0 m 101 ls [.int s0, .int s1]) := by
  intro I J s0 s1 l0 l4 hF ls H locs hl hw
  have hx := C.1
  have hb := C.2.1
  rw [f_M_forget_b101] at hF
  refine lv_iadd hx hb d_M_forget_101 ?_
  refine lv_topi (fun v1 ev1 => ?_)
  replace hF := bnd_at hF ev1
  refine lv_istore_n hx hb d_M_forget_102 rfl hl (by decide) rfl (fun ls hl => ?_)
  have hl : lv_has ls 5 [(3, .int v1), (0, .ref l0), (4, .int l4)] := hl
  obtain ⟨v2, ev2, hF⟩ := bnd_ex hF
  refine lv_iinc (k := 2) (v := v2) hx hb d_M_forget_103 hl rfl (by rw [ev2]; rfl) (by decide) rfl (fun ls hl => ?_)
  have hl : lv_has ls 5 [(4, .int v2), (3, .int v1), (0, .ref l0)] := hl
  refine lv_goto (tgt := 78) hx hb d_M_forget_106 (by decide) ?_
  exact hk78 _ _ _ _ _ hF _ _ _ (lv_sub hl [2, 1, 0] rfl) hw
set_option maxHeartbeats 4000000 in
set_option maxRecDepth 100000 in
theorem m_M_forget_b78 {zz : Int32 × gMI × gMJ} (hret : ∀ (pc : Nat) (ls : Array Slot) (H : Heap) (locs : List Loc) (x : Int32) (I1 : gMI) (J1 : gMJ), (x, I1, J1) = zz → decode prog_10_method_51_code pc = .ok (.ireturn, 1) → ga_W D T z L S I1 J1 s H locs → W p l e rm_M_forget s m args below meth c H locs 0 0 Q (F0 m pc ls [.int x])) (C : CallFix p m c prog_10_method_51_code 5 s args ga_ws "RankHouseModel") : ∀ (n : Nat) (I : gMI) (J : gMJ) (l0 : Nat) (l3 : Int32) (l4 : Int32), f_M_forget_b78 S n I J l0 l3 l4 = some zz → ∀ (ls : Array Slot) (H : Heap) (locs : List Loc), lv_has ls 5 [(0, .ref l0), (3, .int l3), (4, .int l4)] → ga_W D T z L S I J s H locs → W p l e rm_M_forget s m args below meth c H locs 0 0 Q (F0 m 78 ls []) := by
  intro n
  induction n with
  | zero =>
    intro I J l0 l3 l4 hF ls H locs hl hw
    rw [f_M_forget_b78] at hF
    cases hF
  | succ n ih =>
    intro I J l0 l3 l4 hF ls H locs hl hw
    have hx := C.1
    have hb := C.2.1
    rw [f_M_forget_b78] at hF
    refine lv_iload hx hb d_M_forget_78 (lv_at hl 2 rfl) ?_
    refine lv_bipush (v := 8) hx hb d_M_forget_80 (by decide) ?_
    by_cases h1 : (8 : Int32) ≤ l4
    · rw [if_pos h1] at hF
      refine lv_icmp_ge (tgt := 109) hx hb d_M_forget_82 (by decide) (fun _ => ?_) (fun hn => absurd h1 hn)
      refine lv_iload_n hx hb d_M_forget_109 rfl (lv_at hl 1 rfl) ?_
      exact hret _ _ _ _ _ _ _ (Option.some.inj hF) d_M_forget_110 hw
    · rw [if_neg h1] at hF
      refine lv_icmp_ge (tgt := 109) hx hb d_M_forget_82 (by decide) (fun hp => absurd hp h1) (fun _ => ?_)
      refine lv_iload_n hx hb d_M_forget_85 rfl (lv_at hl 1 rfl) ?_
      refine lv_aload_n hx hb d_M_forget_86 rfl (lv_at hl 0 rfl) ?_
      obtain ⟨t2, hF⟩ := gd_ex hF
      obtain ⟨r3, hr3, hF⟩ := ob_ex hF
      refine ga_getR C hw gf_M_20 t2 hr3 d_M_forget_87 ?_
      refine lv_iload hx hb d_M_forget_90 (lv_at hl 2 rfl) ?_
      obtain ⟨t4, hF⟩ := gd_ex hF
      obtain ⟨b5, hF⟩ := gd_ex hF
      refine ga_iald C hw t4 b5 d_M_forget_92 ?_
      by_cases h6 : (I r3 l4.toNatClampNeg) ≤ 0
      · rw [if_pos h6] at hF
        refine lv_if_le (tgt := 100) hx hb d_M_forget_93 (by decide) (fun _ => ?_) (fun hn => absurd h6 hn)
        refine lv_iconst (v := 0) hx hb d_M_forget_100 (by decide) ?_
        exact m_M_forget_b101 hret C _ ih _ _ _ _ _ _ hF _ _ _ (lv_sub hl [0, 2] rfl) hw
      · rw [if_neg h6] at hF
        refine lv_if_le (tgt := 100) hx hb d_M_forget_93 (by decide) (fun hp => absurd hp h6) (fun _ => ?_)
        refine lv_iconst (v := 1) hx hb d_M_forget_96 (by decide) ?_
        refine lv_goto (tgt := 101) hx hb d_M_forget_97 (by decide) ?_
        exact m_M_forget_b101 hret C _ ih _ _ _ _ _ _ hF _ _ _ (lv_sub hl [0, 2] rfl) hw
set_option maxHeartbeats 4000000 in
set_option maxRecDepth 100000 in
theorem m_M_forget_b36 {zz : Int32 × gMI × gMJ} (hret : ∀ (pc : Nat) (ls : Array Slot) (H : Heap) (locs : List Loc) (x : Int32) (I1 : gMI) (J1 : gMJ), (x, I1, J1) = zz → decode prog_10_method_51_code pc = .ok (.ireturn, 1) → ga_W D T z L S I1 J1 s H locs → W p l e rm_M_forget s m args below meth c H locs 0 0 Q (F0 m pc ls [.int x])) (C : CallFix p m c prog_10_method_51_code 5 s args ga_ws "RankHouseModel") : ∀ (n : Nat) (I : gMI) (J : gMJ) (l0 : Nat) (l1 : Int32) (l2 : Int32) (l3 : Int32), f_M_forget_b36 S n I J l0 l1 l2 l3 = some zz → ∀ (ls : Array Slot) (H : Heap) (locs : List Loc), lv_has ls 5 [(0, .ref l0), (1, .int l1), (2, .int l2), (3, .int l3)] → ga_W D T z L S I J s H locs → W p l e rm_M_forget s m args below meth c H locs 0 0 Q (F0 m 36 ls []) := by
  intro n
  induction n with
  | zero =>
    intro I J l0 l1 l2 l3 hF ls H locs hl hw
    rw [f_M_forget_b36] at hF
    cases hF
  | succ n ih =>
    intro I J l0 l1 l2 l3 hF ls H locs hl hw
    have hx := C.1
    have hb := C.2.1
    rw [f_M_forget_b36] at hF
    refine lv_iload_n hx hb d_M_forget_36 rfl (lv_at hl 3 rfl) ?_
    by_cases h1 : l3 < 0
    · rw [if_pos h1] at hF
      refine lv_if_lt (tgt := 66) hx hb d_M_forget_37 (by decide) (fun _ => ?_) (fun hn => absurd h1 hn)
      refine lv_aload_n hx hb d_M_forget_66 rfl (lv_at hl 0 rfl) ?_
      obtain ⟨t2, hF⟩ := gd_ex hF
      obtain ⟨r3, hr3, hF⟩ := ob_ex hF
      refine ga_getR C hw gf_M_20 t2 hr3 d_M_forget_67 ?_
      refine lv_iload_n hx hb d_M_forget_70 rfl (lv_at hl 2 rfl) ?_
      refine lv_iconst (v := 0) hx hb d_M_forget_71 (by decide) ?_
      obtain ⟨t4, hF⟩ := gd_ex hF
      obtain ⟨b5, hF⟩ := gd_ex hF
      obtain ⟨I6, eI6, hF⟩ := bnd_ex hF
      refine ga_iast C hw t4 b5 eI6 d_M_forget_72 (fun H locs hw => ?_)
      refine lv_iconst (v := 0) hx hb d_M_forget_73 (by decide) ?_
      refine lv_istore_n hx hb d_M_forget_74 rfl hl (by decide) rfl (fun ls hl => ?_)
      have hl : lv_has ls 5 [(3, .int (0 : Int32)), (0, .ref l0), (1, .int l1), (2, .int l2)] := hl
      refine lv_iconst (v := 0) hx hb d_M_forget_75 (by decide) ?_
      refine lv_istore hx hb d_M_forget_76 hl (by decide) rfl (fun ls hl => ?_)
      have hl : lv_has ls 5 [(4, .int (0 : Int32)), (3, .int (0 : Int32)), (0, .ref l0), (1, .int l1), (2, .int l2)] := hl
      exact m_M_forget_b78 hret C gFuel _ _ _ _ _ hF _ _ _ (lv_sub hl [2, 1, 0] rfl) hw
    · rw [if_neg h1] at hF
      refine lv_if_lt (tgt := 66) hx hb d_M_forget_37 (by decide) (fun hp => absurd hp h1) (fun _ => ?_)
      refine lv_aload_n hx hb d_M_forget_40 rfl (lv_at hl 0 rfl) ?_
      obtain ⟨t7, hF⟩ := gd_ex hF
      obtain ⟨r8, hr8, hF⟩ := ob_ex hF
      refine ga_getR C hw gf_M_102 t7 hr8 d_M_forget_41 ?_
      refine lv_bipush (v := 7) hx hb d_M_forget_44 (by decide) ?_
      refine lv_iload_n hx hb d_M_forget_46 rfl (lv_at hl 3 rfl) ?_
      refine lv_imul hx hb d_M_forget_47 ?_
      refine lv_iconst (v := 1) hx hb d_M_forget_48 (by decide) ?_
      refine lv_iadd hx hb d_M_forget_49 ?_
      obtain ⟨t9, hF⟩ := gd_ex hF
      obtain ⟨b10, hF⟩ := gd_ex hF
      refine ga_iald C hw t9 b10 d_M_forget_50 ?_
      refine lv_iload_n hx hb d_M_forget_51 rfl (lv_at hl 1 rfl) ?_
      by_cases h11 : (I r8 (((7 : Int32) * l3) + (1 : Int32)).toNatClampNeg) = l1
      · rw [if_pos h11] at hF
        refine lv_icmp_ne (tgt := 60) hx hb d_M_forget_52 (by decide) (fun hn => absurd h11 hn) (fun _ => ?_)
        refine lv_aload_n hx hb d_M_forget_55 rfl (lv_at hl 0 rfl) ?_
        refine lv_iload_n hx hb d_M_forget_56 rfl (lv_at hl 3 rfl) ?_
        obtain ⟨I12, J13, c14, hF⟩ := bd2_ex hF
        refine ga_cVv (As := [.int l3]) C hw (c_M_remove l D T z L c14) gy_M_214 t7 rfl hl.1 ⟨Nat.le_of_ble_eq_true rfl, Nat.le_of_ble_eq_true rfl, rfl, rfl, Nat.le_of_ble_eq_true rfl, Nat.le_of_ble_eq_true rfl⟩ (Nat.le_of_ble_eq_true rfl) rfl d_M_forget_57 (fun H locs hw => ?_)
        exact m_M_forget_b60 hret C _ ih _ _ _ _ _ _ hF _ _ _ hl hw
      · rw [if_neg h11] at hF
        refine lv_icmp_ne (tgt := 60) hx hb d_M_forget_52 (by decide) (fun _ => ?_) (fun hp => absurd hp h11)
        exact m_M_forget_b60 hret C _ ih _ _ _ _ _ _ hF _ _ _ hl hw
set_option maxHeartbeats 4000000 in
set_option maxRecDepth 100000 in
theorem m_M_forget_b17 {zz : Int32 × gMI × gMJ} (hret : ∀ (pc : Nat) (ls : Array Slot) (H : Heap) (locs : List Loc) (x : Int32) (I1 : gMI) (J1 : gMJ), (x, I1, J1) = zz → decode prog_10_method_51_code pc = .ok (.ireturn, 1) → ga_W D T z L S I1 J1 s H locs → W p l e rm_M_forget s m args below meth c H locs 0 0 Q (F0 m pc ls [.int x])) (C : CallFix p m c prog_10_method_51_code 5 s args ga_ws "RankHouseModel") : ∀ (I : gMI) (J : gMJ) (s0 : Int32) (s1 : Nat) (l0 : Nat) (l1 : Int32) (l2 : Int32), f_M_forget_b17 S I J s0 s1 l0 l1 l2 = some zz → ∀ (ls : Array Slot) (H : Heap) (locs : List Loc), lv_has ls 5 [(0, .ref l0), (1, .int l1), (2, .int l2)] → ga_W D T z L S I J s H locs → W p l e rm_M_forget s m args below meth c H locs 0 0 Q (F0 m 17 ls [.int s0, .ref s1]) := by
  intro I J s0 s1 l0 l1 l2 hF ls H locs hl hw
  have hx := C.1
  have hb := C.2.1
  rw [f_M_forget_b17] at hF
  obtain ⟨t1, hF⟩ := gd_ex hF
  obtain ⟨I2, eI2, hF⟩ := bnd_ex hF
  refine ga_putI C hw gp_M_114 t1 rfl rfl eI2 d_M_forget_17 (fun H locs hw => ?_)
  refine lv_aload_n hx hb d_M_forget_20 rfl (lv_at hl 0 rfl) ?_
  obtain ⟨t3, hF⟩ := gd_ex hF
  refine ga_getI C hw gf_M_114 t3 d_M_forget_21 ?_
  by_cases h4 : (I2 l0 0) ≤ 0
  · rw [if_pos h4] at hF
    refine lv_if_le (tgt := 29) hx hb d_M_forget_24 (by decide) (fun _ => ?_) (fun hn => absurd h4 hn)
    refine lv_aload_n hx hb d_M_forget_29 rfl (lv_at hl 0 rfl) ?_
    refine ga_getI C hw gf_M_127 t3 d_M_forget_30 ?_
    refine lv_iconst (v := 1) hx hb d_M_forget_33 (by decide) ?_
    refine lv_isub hx hb d_M_forget_34 ?_
    refine lv_topi (fun v5 ev5 => ?_)
    replace hF := bnd_at hF ev5
    refine lv_istore_n hx hb d_M_forget_35 rfl hl (by decide) rfl (fun ls hl => ?_)
    have hl : lv_has ls 5 [(3, .int v5), (0, .ref l0), (1, .int l1), (2, .int l2)] := hl
    exact m_M_forget_b36 hret C gFuel _ _ _ _ _ _ hF _ _ _ (lv_sub hl [1, 2, 3, 0] rfl) hw
  · rw [if_neg h4] at hF
    refine lv_if_le (tgt := 29) hx hb d_M_forget_24 (by decide) (fun hp => absurd hp h4) (fun _ => ?_)
    refine lv_iconst (v := 0) hx hb d_M_forget_27 (by decide) ?_
    exact hret _ _ _ _ _ _ _ (Option.some.inj hF) d_M_forget_28 hw
set_option maxHeartbeats 4000000 in
set_option maxRecDepth 100000 in
theorem c_M_forget (l : Launch) (D : va_G) (T : Nat → ClassId) (z : Nat) (L : List Nat) {S : gS} {I : gMI} {J : gMJ} {p0 : Nat} {p1 : Int32} {r : Int32} {RI : gMI} {RJ : gMJ} (hF : f_M_forget S I J p0 p1 = some (r, RI, RJ)) : ga_Mi l y_M_forget prog_10_method_51_code 5 (Option.some Jvm.ClassFile.FieldType.int) rm_M_forget [.ref p0, .int p1] D T z L S I J r RI RJ := by
  refine Met.ofW (cc := prog_10_method_51_code) (maxL := 5) (ret := (Option.some Jvm.ClassFile.FieldType.int)) (by decide) rfl ?_
  intro p e s m args below meth c s₁ B hml hv
  obtain ⟨ha, hv⟩ := hv
  have hx := B.exec
  have hb := B.bytes
  have hr := B.returns
  have hts := atoms_spec (ws := .code y_M_forget prog_10_method_51_code 5 (Option.some Jvm.ClassFile.FieldType.int) :: ga_ws) B.pre
  have hown : s.vm.findClass "RankHouseModel" = some m.cls := findClass_of_methodNamed B.named
  have hlocks := B.notSynchronized
  have C : CallFix p m c prog_10_method_51_code 5 s args ga_ws "RankHouseModel" := ⟨hx, hb, hml, hown, fun w h => hts w (List.mem_cons_of_mem _ h)⟩
  have hw := ga_start hv
  have hl := lv_entry ([.ref p0, .int p1]) (n := 5) (Nat.le_of_ble_eq_true rfl)
  rw [show entryFrame m args 5 = entryFrame m ([.ref p0, .int p1] : List Value).toArray 5 by rw [ha], lg_entry_eq]
  generalize (lg_sl ([.ref p0, .int p1]) ++ List.replicate (5 - (lg_sl ([.ref p0, .int p1])).length) Slot.unset).toArray = ls at hl ⊢
  have hl : lv_has ls 5 [(0, .ref p0), (1, .int p1)] := hl
  have key : ∀ Q : State → Prop, (∀ (pc : Nat) (ls : Array Slot) (H : Heap) (locs : List Loc) (x : Int32) (I1 : gMI) (J1 : gMJ), (x, I1, J1) = (r, RI, RJ) → decode prog_10_method_51_code pc = .ok (.ireturn, 1) → ga_W D T z L S I1 J1 s H locs → W p l e rm_M_forget s m args below meth c H locs 0 0 Q (F0 m pc ls [.int x])) → W p l e rm_M_forget s m args below meth c s.heap [] 0 0 Q (F0 m 0 ls []) := by
    intro Q hret
    rw [f_M_forget] at hF
    refine lv_aload_n hx hb d_M_forget_0 rfl (lv_at hl 0 rfl) ?_
    refine lv_iload_n hx hb d_M_forget_1 rfl (lv_at hl 1 rfl) ?_
    obtain ⟨t1, hF⟩ := gd_ex hF
    obtain ⟨x2, c3, hF⟩ := ob_ex hF
    refine ga_cVi (As := [.int p1]) C hw (c_M_placeOf l D T z L c3) gy_M_217 t1 rfl hl.1 ⟨Nat.le_of_ble_eq_true rfl, Nat.le_of_ble_eq_true rfl, rfl, rfl, Nat.le_of_ble_eq_true rfl, Nat.le_of_ble_eq_true rfl⟩ (Nat.le_of_ble_eq_true rfl) rfl d_M_forget_2 (fun H locs hw => ?_)
    refine lv_istore_n hx hb d_M_forget_5 rfl hl (by decide) rfl (fun ls hl => ?_)
    have hl : lv_has ls 5 [(2, .int x2), (0, .ref p0), (1, .int p1)] := hl
    refine lv_aload_n hx hb d_M_forget_6 rfl (lv_at hl 1 rfl) ?_
    refine lv_iload_n hx hb d_M_forget_7 rfl (lv_at hl 0 rfl) ?_
    refine lv_iconst (v := -1) hx hb d_M_forget_8 (by decide) ?_
    by_cases h4 : x2 = (-1 : Int32)
    · rw [if_pos h4] at hF
      refine lv_icmp_ne (tgt := 16) hx hb d_M_forget_9 (by decide) (fun hn => absurd h4 hn) (fun _ => ?_)
      refine lv_iconst (v := 1) hx hb d_M_forget_12 (by decide) ?_
      refine lv_goto (tgt := 17) hx hb d_M_forget_13 (by decide) ?_
      exact m_M_forget_b17 hret C _ _ _ _ _ _ _ hF _ _ _ (lv_sub hl [1, 2, 0] rfl) hw
    · rw [if_neg h4] at hF
      refine lv_icmp_ne (tgt := 16) hx hb d_M_forget_9 (by decide) (fun _ => ?_) (fun hp => absurd hp h4)
      refine lv_iconst (v := 0) hx hb d_M_forget_16 (by decide) ?_
      exact m_M_forget_b17 hret C _ _ _ _ _ _ _ hF _ _ _ (lv_sub hl [1, 2, 0] rfl) hw
  refine key _ (fun pc ls H locs x I1 J1 he hd hw => ?_)
  · cases he
    exact W.iret hx hb hr (fun t ht _ => ⟨⟨_, (), rfl, rfl, ga_o hw ht⟩, hw.2.2.2.1.F ht⟩) hw.2.2.2.1.2.2 hd
end WALK
