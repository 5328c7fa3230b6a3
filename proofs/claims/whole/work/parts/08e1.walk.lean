section WALK
variable {p : Program} {l : Launch} {e : Env} {s : State} {m : MethodId} {args : Array Value} {below : List Frame} {meth : Method} {c : Code} {Q : State → Prop} {D : va_G} {T : Nat → ClassId} {z : Nat} {L : List Nat} {S : gS}
set_option maxHeartbeats 4000000 in
set_option maxRecDepth 100000 in
theorem c_L_record (l : Launch) (D : va_G) (T : Nat → ClassId) (z : Nat) (L : List Nat) {S : gS} {I : gMI} {J : gMJ} {p0 : Nat} {p1 : Int32} {p2 : Int32} {p3 : Nat} {r : Int32} {RI : gMI} {RJ : gMJ} (hl9 : l.stackTraces = false) (hF : f_L_record S I J p0 p1 p2 p3 = some (r, RI, RJ)) : ga_Wi l y_L_record method_3_code 5 (Option.some Jvm.ClassFile.FieldType.int) [((0 : Nat), (10 : Nat), (13 : Nat), (13 : Nat)), ((0 : Nat), (10 : Nat), (17 : Nat), (15 : Nat))] rm_L_record [.ref p0, .int p1, .int p2, .ref p3] D T z L S I J r RI RJ := by
  refine va_MetW (cc := method_3_code) (maxL := 5) (ret := (Option.some Jvm.ClassFile.FieldType.int)) (by decide) rfl ?_
  intro p e s m args below meth c s₁ B hml hv
  obtain ⟨ha, hv⟩ := hv
  have hx := B.exec
  have hb := B.bytes
  have hr := B.returns
  have hts := atoms_spec (ws := .codeWith y_L_record method_3_code 5 (Option.some Jvm.ClassFile.FieldType.int) [((0 : Nat), (10 : Nat), (13 : Nat), (13 : Nat)), ((0 : Nat), (10 : Nat), (17 : Nat), (15 : Nat))] :: ga_ws) B.pre
  have htab := vx_table (x := y_L_record) B (hts _ List.mem_cons_self)
  have hown : s.vm.findClass "RankHouseLaw" = some m.cls := findClass_of_methodNamed B.named
  have hlocks := B.notSynchronized
  have C : CallFix p m c method_3_code 5 s args ga_ws "RankHouseLaw" := ⟨hx, hb, hml, hown, fun w h => hts w (List.mem_cons_of_mem _ h)⟩
  have hw := ga_start hv
  have hl := lv_entry ([.ref p0, .int p1, .int p2, .ref p3]) (n := 5) (Nat.le_of_ble_eq_true rfl)
  rw [show entryFrame m args 5 = entryFrame m ([.ref p0, .int p1, .int p2, .ref p3] : List Value).toArray 5 by rw [ha], lg_entry_eq]
  generalize (lg_sl ([.ref p0, .int p1, .int p2, .ref p3]) ++ List.replicate (5 - (lg_sl ([.ref p0, .int p1, .int p2, .ref p3])).length) Slot.unset).toArray = ls at hl ⊢
  have hl : lv_has ls 5 [(0, .ref p0), (1, .int p1), (2, .int p2), (3, .ref p3)] := hl
  have key : ∀ Q : State → Prop, (∀ (pc cells slots : Nat) (ls : Array Slot) (H : Heap) (locs : List Loc) (x : Int32) (I1 : gMI) (J1 : gMJ), (x, I1, J1) = (r, RI, RJ) → decode method_3_code pc = .ok (.ireturn, 1) → cells ≤ rm_L_record.cells → slots ≤ rm_L_record.slots → ga_W D T z L S I1 J1 s H locs → W p l e rm_L_record s m args below meth c H locs cells slots Q (F0 m pc ls [.int x])) → W p l e rm_L_record s m args below meth c s.heap [] 0 0 Q (F0 m 0 ls []) := by
    intro Q hret
    rw [f_L_record] at hF
    refine lv_aload_n hx hb d_L_record_0 rfl (lv_at hl 3 rfl) ?_
    refine lv_iconst (v := 0) hx hb d_L_record_1 (by decide) ?_
    refine lv_aload_n hx hb d_L_record_2 rfl (lv_at hl 0 rfl) ?_
    refine lv_iload_n hx hb d_L_record_3 rfl (lv_at hl 1 rfl) ?_
    refine lv_iload_n hx hb d_L_record_4 rfl (lv_at hl 2 rfl) ?_
    obtain ⟨t1, hF⟩ := gd_ex hF
    obtain ⟨e2, x3, I4, c5, hF⟩ := bd3_ex hF
    refine ga_xVi (As := [.int p1, .int p2]) C hw (c_H_record l D T z L hl9 c5) gy_L_7 t1 rfl hl.1 ⟨Nat.le_of_ble_eq_true rfl, Nat.le_of_ble_eq_true rfl, Nat.le_of_ble_eq_true rfl, Nat.le_of_ble_eq_true rfl⟩ (Nat.le_of_ble_eq_true rfl) rfl d_L_record_5 (fun hne ce q9 H locs hw hce hcv hcl => ?_) (fun h0 H locs hw => ?_)
    · rw [if_neg hne] at hF
      by_cases h6 : e2 = 1
      · rw [if_pos h6] at hF
        rw [h6] at hcl
        refine vx_catch (own := "RankHouseLaw") (E := "java/lang/IndexOutOfBoundsException") (name := "java/lang/IndexOutOfBoundsException") C.2.2.2.1 [] (⟨0, 10, 13, 13⟩ : ExceptionTableEntry) [(⟨0, 10, 17, 15⟩ : ExceptionTableEntry)] htab (fun _ h => absurd h List.not_mem_nil) (by decide) (by decide) (C.2.2.2.2 _ gw_146) (va_Nw.use rfl (hw.2.2.2.2.2.2.2.2.2.2.1 ("java/lang/IndexOutOfBoundsException", "java/lang/IndexOutOfBoundsException") (by decide))) hce hcv hcl ?_
        show W _ _ _ _ _ _ _ _ _ _ _ _ _ _ _ (F0 _ 13 _ _)
        refine lv_astore hx hb d_L_record_13 hl (by decide) rfl (fun ls hl => ?_)
        have hl : lv_has ls 5 [(4, .ref q9), (0, .ref p0), (1, .int p1), (2, .int p2), (3, .ref p3)] := hl
        refine lv_iconst (v := 1) hx hb d_L_record_15 (by decide) ?_
        exact hret _ _ _ _ _ _ _ _ _ (Option.some.inj hF) d_L_record_16 (Nat.le_of_ble_eq_true rfl) (Nat.le_of_ble_eq_true rfl) hw
      · rw [if_neg h6] at hF
        by_cases h7 : e2 = 3
        · rw [if_pos h7] at hF
          rw [h7] at hcl
          refine vx_catch (own := "RankHouseLaw") (E := "java/lang/IllegalStateException") (name := "java/lang/IllegalStateException") C.2.2.2.1 [(⟨0, 10, 13, 13⟩ : ExceptionTableEntry)] (⟨0, 10, 17, 15⟩ : ExceptionTableEntry) [] htab (List.forall_mem_cons.mpr ⟨Or.inr ⟨by decide, "java/lang/IndexOutOfBoundsException", C.2.2.2.2 _ gw_146, hw.2.2.2.2.2.2.2.2.2.2.2.1 ("java/lang/IllegalStateException", "java/lang/IndexOutOfBoundsException") (by decide)⟩, fun _ h => absurd h List.not_mem_nil⟩) (by decide) (by decide) (C.2.2.2.2 _ gw_147) (va_Nw.use rfl (hw.2.2.2.2.2.2.2.2.2.2.1 ("java/lang/IllegalStateException", "java/lang/IllegalStateException") (by decide))) hce hcv hcl ?_
          show W _ _ _ _ _ _ _ _ _ _ _ _ _ _ _ (F0 _ 17 _ _)
          refine lv_astore hx hb d_L_record_17 hl (by decide) rfl (fun ls hl => ?_)
          have hl : lv_has ls 5 [(4, .ref q9), (0, .ref p0), (1, .int p1), (2, .int p2), (3, .ref p3)] := hl
          refine lv_iconst (v := 2) hx hb d_L_record_19 (by decide) ?_
          exact hret _ _ _ _ _ _ _ _ _ (Option.some.inj hF) d_L_record_20 (Nat.le_of_ble_eq_true rfl) (Nat.le_of_ble_eq_true rfl) hw
        · rw [if_neg h7] at hF
          cases hF
    · rw [if_pos h0] at hF
      refine lv_i2l hx hb d_L_record_8 rfl ?_
      obtain ⟨t8, hF⟩ := gd_ex hF
      obtain ⟨b9, hF⟩ := gd_ex hF
      obtain ⟨J10, eJ10, hF⟩ := bnd_ex hF
      refine ga_last C hw t8 b9 eJ10 d_L_record_9 (fun H locs hw => ?_)
      refine lv_goto (tgt := 21) hx hb d_L_record_10 (by decide) ?_
      refine lv_iconst (v := 0) hx hb d_L_record_21 (by decide) ?_
      exact hret _ _ _ _ _ _ _ _ _ (Option.some.inj hF) d_L_record_22 (Nat.le_of_ble_eq_true rfl) (Nat.le_of_ble_eq_true rfl) hw
  refine key _ (fun pc cells slots ls H locs x I1 J1 he hd hc hs hw => ?_)
  · cases he
    exact W.widen hc hs (W.iret hx hb hr (fun t ht _ => ⟨⟨_, (), rfl, rfl, ga_o hw ht⟩, hw.2.2.2.1.F ht⟩) hw.2.2.2.1.2.2 hd)
set_option maxHeartbeats 4000000 in
set_option maxRecDepth 100000 in
theorem c_L_fill (l : Launch) (D : va_G) (T : Nat → ClassId) (z : Nat) (L : List Nat) {S : gS} {I : gMI} {J : gMJ} {p0 : Nat} {p1 : Int32} {p2 : Int32} {p3 : Int32} {p4 : Int32} {p5 : Int32} {p6 : Nat} {r : Int32} {RI : gMI} {RJ : gMJ} (hl9 : l.stackTraces = false) (hF : f_L_fill S I J p0 p1 p2 p3 p4 p5 p6 = some (r, RI, RJ)) : ga_Wi l y_L_fill method_4_code 8 (Option.some Jvm.ClassFile.FieldType.int) [((0 : Nat), (16 : Nat), (19 : Nat), (13 : Nat)), ((0 : Nat), (16 : Nat), (23 : Nat), (21 : Nat)), ((0 : Nat), (16 : Nat), (27 : Nat), (15 : Nat))] rm_L_fill [.ref p0, .int p1, .int p2, .int p3, .int p4, .int p5, .ref p6] D T z L S I J r RI RJ := by
  refine va_MetW (cc := method_4_code) (maxL := 8) (ret := (Option.some Jvm.ClassFile.FieldType.int)) (by decide) rfl ?_
  intro p e s m args below meth c s₁ B hml hv
  obtain ⟨ha, hv⟩ := hv
  have hx := B.exec
  have hb := B.bytes
  have hr := B.returns
  have hts := atoms_spec (ws := .codeWith y_L_fill method_4_code 8 (Option.some Jvm.ClassFile.FieldType.int) [((0 : Nat), (16 : Nat), (19 : Nat), (13 : Nat)), ((0 : Nat), (16 : Nat), (23 : Nat), (21 : Nat)), ((0 : Nat), (16 : Nat), (27 : Nat), (15 : Nat))] :: ga_ws) B.pre
  have htab := vx_table (x := y_L_fill) B (hts _ List.mem_cons_self)
  have hown : s.vm.findClass "RankHouseLaw" = some m.cls := findClass_of_methodNamed B.named
  have hlocks := B.notSynchronized
  have C : CallFix p m c method_4_code 8 s args ga_ws "RankHouseLaw" := ⟨hx, hb, hml, hown, fun w h => hts w (List.mem_cons_of_mem _ h)⟩
  have hw := ga_start hv
  have hl := lv_entry ([.ref p0, .int p1, .int p2, .int p3, .int p4, .int p5, .ref p6]) (n := 8) (Nat.le_of_ble_eq_true rfl)
  rw [show entryFrame m args 8 = entryFrame m ([.ref p0, .int p1, .int p2, .int p3, .int p4, .int p5, .ref p6] : List Value).toArray 8 by rw [ha], lg_entry_eq]
  generalize (lg_sl ([.ref p0, .int p1, .int p2, .int p3, .int p4, .int p5, .ref p6]) ++ List.replicate (8 - (lg_sl ([.ref p0, .int p1, .int p2, .int p3, .int p4, .int p5, .ref p6])).length) Slot.unset).toArray = ls at hl ⊢
  have hl : lv_has ls 8 [(0, .ref p0), (1, .int p1), (2, .int p2), (3, .int p3), (4, .int p4), (5, .int p5), (6, .ref p6)] := hl
  have key : ∀ Q : State → Prop, (∀ (pc cells slots : Nat) (ls : Array Slot) (H : Heap) (locs : List Loc) (x : Int32) (I1 : gMI) (J1 : gMJ), (x, I1, J1) = (r, RI, RJ) → decode method_4_code pc = .ok (.ireturn, 1) → cells ≤ rm_L_fill.cells → slots ≤ rm_L_fill.slots → ga_W D T z L S I1 J1 s H locs → W p l e rm_L_fill s m args below meth c H locs cells slots Q (F0 m pc ls [.int x])) → W p l e rm_L_fill s m args below meth c s.heap [] 0 0 Q (F0 m 0 ls []) := by
    intro Q hret
    rw [f_L_fill] at hF
    refine lv_aload hx hb d_L_fill_0 (lv_at hl 6 rfl) ?_
    refine lv_iconst (v := 0) hx hb d_L_fill_2 (by decide) ?_
    refine lv_aload_n hx hb d_L_fill_3 rfl (lv_at hl 0 rfl) ?_
    refine lv_iload_n hx hb d_L_fill_4 rfl (lv_at hl 1 rfl) ?_
    refine lv_iload_n hx hb d_L_fill_5 rfl (lv_at hl 2 rfl) ?_
    refine lv_iload_n hx hb d_L_fill_6 rfl (lv_at hl 3 rfl) ?_
    refine lv_iload hx hb d_L_fill_7 (lv_at hl 4 rfl) ?_
    refine lv_iload hx hb d_L_fill_9 (lv_at hl 5 rfl) ?_
    obtain ⟨t1, hF⟩ := gd_ex hF
    obtain ⟨e2, x3, I4, c5, hF⟩ := bd3_ex hF
    refine ga_xVi (As := [.int p1, .int p2, .int p3, .int p4, .int p5]) C hw (c_H_fill l D T z L hl9 c5) gy_L_17 t1 rfl hl.1 ⟨Nat.le_of_ble_eq_true rfl, Nat.le_of_ble_eq_true rfl, Nat.le_of_ble_eq_true rfl, Nat.le_of_ble_eq_true rfl⟩ (Nat.le_of_ble_eq_true rfl) rfl d_L_fill_11 (fun hne ce q9 H locs hw hce hcv hcl => ?_) (fun h0 H locs hw => ?_)
    · rw [if_neg hne] at hF
      by_cases h6 : e2 = 1
      · rw [if_pos h6] at hF
        rw [h6] at hcl
        refine vx_catch (own := "RankHouseLaw") (E := "java/lang/IndexOutOfBoundsException") (name := "java/lang/IndexOutOfBoundsException") C.2.2.2.1 [] (⟨0, 16, 19, 13⟩ : ExceptionTableEntry) [(⟨0, 16, 23, 21⟩ : ExceptionTableEntry), (⟨0, 16, 27, 15⟩ : ExceptionTableEntry)] htab (fun _ h => absurd h List.not_mem_nil) (by decide) (by decide) (C.2.2.2.2 _ gw_146) (va_Nw.use rfl (hw.2.2.2.2.2.2.2.2.2.2.1 ("java/lang/IndexOutOfBoundsException", "java/lang/IndexOutOfBoundsException") (by decide))) hce hcv hcl ?_
        show W _ _ _ _ _ _ _ _ _ _ _ _ _ _ _ (F0 _ 19 _ _)
        refine lv_astore hx hb d_L_fill_19 hl (by decide) rfl (fun ls hl => ?_)
        have hl : lv_has ls 8 [(7, .ref q9), (0, .ref p0), (1, .int p1), (2, .int p2), (3, .int p3), (4, .int p4), (5, .int p5), (6, .ref p6)] := hl
        refine lv_iconst (v := 1) hx hb d_L_fill_21 (by decide) ?_
        exact hret _ _ _ _ _ _ _ _ _ (Option.some.inj hF) d_L_fill_22 (Nat.le_of_ble_eq_true rfl) (Nat.le_of_ble_eq_true rfl) hw
      · rw [if_neg h6] at hF
        by_cases h7 : e2 = 2
        · rw [if_pos h7] at hF
          rw [h7] at hcl
          refine vx_catch (own := "RankHouseLaw") (E := "java/lang/IllegalArgumentException") (name := "java/lang/IllegalArgumentException") C.2.2.2.1 [(⟨0, 16, 19, 13⟩ : ExceptionTableEntry)] (⟨0, 16, 23, 21⟩ : ExceptionTableEntry) [(⟨0, 16, 27, 15⟩ : ExceptionTableEntry)] htab (List.forall_mem_cons.mpr ⟨Or.inr ⟨by decide, "java/lang/IndexOutOfBoundsException", C.2.2.2.2 _ gw_146, hw.2.2.2.2.2.2.2.2.2.2.2.1 ("java/lang/IllegalArgumentException", "java/lang/IndexOutOfBoundsException") (by decide)⟩, fun _ h => absurd h List.not_mem_nil⟩) (by decide) (by decide) (C.2.2.2.2 _ gw_264) (va_Nw.use rfl (hw.2.2.2.2.2.2.2.2.2.2.1 ("java/lang/IllegalArgumentException", "java/lang/IllegalArgumentException") (by decide))) hce hcv hcl ?_
          show W _ _ _ _ _ _ _ _ _ _ _ _ _ _ _ (F0 _ 23 _ _)
          refine lv_astore hx hb d_L_fill_23 hl (by decide) rfl (fun ls hl => ?_)
          have hl : lv_has ls 8 [(7, .ref q9), (0, .ref p0), (1, .int p1), (2, .int p2), (3, .int p3), (4, .int p4), (5, .int p5), (6, .ref p6)] := hl
          refine lv_iconst (v := 2) hx hb d_L_fill_25 (by decide) ?_
          exact hret _ _ _ _ _ _ _ _ _ (Option.some.inj hF) d_L_fill_26 (Nat.le_of_ble_eq_true rfl) (Nat.le_of_ble_eq_true rfl) hw
        · rw [if_neg h7] at hF
          by_cases h8 : e2 = 3
          · rw [if_pos h8] at hF
            rw [h8] at hcl
            refine vx_catch (own := "RankHouseLaw") (E := "java/lang/IllegalStateException") (name := "java/lang/IllegalStateException") C.2.2.2.1 [(⟨0, 16, 19, 13⟩ : ExceptionTableEntry), (⟨0, 16, 23, 21⟩ : ExceptionTableEntry)] (⟨0, 16, 27, 15⟩ : ExceptionTableEntry) [] htab (List.forall_mem_cons.mpr ⟨Or.inr ⟨by decide, "java/lang/IndexOutOfBoundsException", C.2.2.2.2 _ gw_146, hw.2.2.2.2.2.2.2.2.2.2.2.1 ("java/lang/IllegalStateException", "java/lang/IndexOutOfBoundsException") (by decide)⟩, List.forall_mem_cons.mpr ⟨Or.inr ⟨by decide, "java/lang/IllegalArgumentException", C.2.2.2.2 _ gw_264, hw.2.2.2.2.2.2.2.2.2.2.2.1 ("java/lang/IllegalStateException", "java/lang/IllegalArgumentException") (by decide)⟩, fun _ h => absurd h List.not_mem_nil⟩⟩) (by decide) (by decide) (C.2.2.2.2 _ gw_147) (va_Nw.use rfl (hw.2.2.2.2.2.2.2.2.2.2.1 ("java/lang/IllegalStateException", "java/lang/IllegalStateException") (by decide))) hce hcv hcl ?_
            show W _ _ _ _ _ _ _ _ _ _ _ _ _ _ _ (F0 _ 27 _ _)
            refine lv_astore hx hb d_L_fill_27 hl (by decide) rfl (fun ls hl => ?_)
            have hl : lv_has ls 8 [(7, .ref q9), (0, .ref p0), (1, .int p1), (2, .int p2), (3, .int p3), (4, .int p4), (5, .int p5), (6, .ref p6)] := hl
            refine lv_iconst (v := 3) hx hb d_L_fill_29 (by decide) ?_
            exact hret _ _ _ _ _ _ _ _ _ (Option.some.inj hF) d_L_fill_30 (Nat.le_of_ble_eq_true rfl) (Nat.le_of_ble_eq_true rfl) hw
          · rw [if_neg h8] at hF
            cases hF
    · rw [if_pos h0] at hF
      refine lv_i2l hx hb d_L_fill_14 rfl ?_
      obtain ⟨t9, hF⟩ := gd_ex hF
      obtain ⟨b10, hF⟩ := gd_ex hF
      obtain ⟨J11, eJ11, hF⟩ := bnd_ex hF
      refine ga_last C hw t9 b10 eJ11 d_L_fill_15 (fun H locs hw => ?_)
      refine lv_goto (tgt := 31) hx hb d_L_fill_16 (by decide) ?_
      refine lv_iconst (v := 0) hx hb d_L_fill_31 (by decide) ?_
      exact hret _ _ _ _ _ _ _ _ _ (Option.some.inj hF) d_L_fill_32 (Nat.le_of_ble_eq_true rfl) (Nat.le_of_ble_eq_true rfl) hw
  refine key _ (fun pc cells slots ls H locs x I1 J1 he hd hc hs hw => ?_)
  · cases he
    exact W.widen hc hs (W.iret hx hb hr (fun t ht _ => ⟨⟨_, (), rfl, rfl, ga_o hw ht⟩, hw.2.2.2.1.F ht⟩) hw.2.2.2.1.2.2 hd)
set_option maxHeartbeats 4000000 in
set_option maxRecDepth 100000 in
theorem c_L_size (l : Launch) (D : va_G) (T : Nat → ClassId) (z : Nat) (L : List Nat) {S : gS} {I : gMI} {J : gMJ} {p0 : Nat} {p1 : Int32} {p2 : Nat} {r : Int32} {RJ : gMJ} (hl9 : l.stackTraces = false) (hF : f_L_size S I J p0 p1 p2 = some (r, RJ)) : ga_Wi l y_L_size method_5_code 4 (Option.some Jvm.ClassFile.FieldType.int) [((0 : Nat), (9 : Nat), (12 : Nat), (13 : Nat))] rm_L_size [.ref p0, .int p1, .ref p2] D T z L S I J r I RJ := by
  refine va_MetW (cc := method_5_code) (maxL := 4) (ret := (Option.some Jvm.ClassFile.FieldType.int)) (by decide) rfl ?_
  intro p e s m args below meth c s₁ B hml hv
  obtain ⟨ha, hv⟩ := hv
  have hx := B.exec
  have hb := B.bytes
  have hr := B.returns
  have hts := atoms_spec (ws := .codeWith y_L_size method_5_code 4 (Option.some Jvm.ClassFile.FieldType.int) [((0 : Nat), (9 : Nat), (12 : Nat), (13 : Nat))] :: ga_ws) B.pre
  have htab := vx_table (x := y_L_size) B (hts _ List.mem_cons_self)
  have hown : s.vm.findClass "RankHouseLaw" = some m.cls := findClass_of_methodNamed B.named
  have hlocks := B.notSynchronized
  have C : CallFix p m c method_5_code 4 s args ga_ws "RankHouseLaw" := ⟨hx, hb, hml, hown, fun w h => hts w (List.mem_cons_of_mem _ h)⟩
  have hw := ga_start hv
  have hl := lv_entry ([.ref p0, .int p1, .ref p2]) (n := 4) (Nat.le_of_ble_eq_true rfl)
  rw [show entryFrame m args 4 = entryFrame m ([.ref p0, .int p1, .ref p2] : List Value).toArray 4 by rw [ha], lg_entry_eq]
  generalize (lg_sl ([.ref p0, .int p1, .ref p2]) ++ List.replicate (4 - (lg_sl ([.ref p0, .int p1, .ref p2])).length) Slot.unset).toArray = ls at hl ⊢
  have hl : lv_has ls 4 [(0, .ref p0), (1, .int p1), (2, .ref p2)] := hl
  have key : ∀ Q : State → Prop, (∀ (pc cells slots : Nat) (ls : Array Slot) (H : Heap) (locs : List Loc) (x : Int32) (J1 : gMJ), (x, J1) = (r, RJ) → decode method_5_code pc = .ok (.ireturn, 1) → cells ≤ rm_L_size.cells → slots ≤ rm_L_size.slots → ga_W D T z L S I J1 s H locs → W p l e rm_L_size s m args below meth c H locs cells slots Q (F0 m pc ls [.int x])) → W p l e rm_L_size s m args below meth c s.heap [] 0 0 Q (F0 m 0 ls []) := by
    intro Q hret
    rw [f_L_size] at hF
    refine lv_aload_n hx hb d_L_size_0 rfl (lv_at hl 2 rfl) ?_
    refine lv_iconst (v := 0) hx hb d_L_size_1 (by decide) ?_
    refine lv_aload_n hx hb d_L_size_2 rfl (lv_at hl 0 rfl) ?_
    refine lv_iload_n hx hb d_L_size_3 rfl (lv_at hl 1 rfl) ?_
    obtain ⟨t1, hF⟩ := gd_ex hF
    obtain ⟨e2, x3, c4, hF⟩ := bd2_ex hF
    refine ga_xVi (As := [.int p1]) C hw (c_H_size l D T z L hl9 c4) gy_L_23 t1 rfl hl.1 ⟨Nat.le_of_ble_eq_true rfl, Nat.le_of_ble_eq_true rfl, Nat.le_of_ble_eq_true rfl, Nat.le_of_ble_eq_true rfl⟩ (Nat.le_of_ble_eq_true rfl) rfl d_L_size_4 (fun hne ce q9 H locs hw hce hcv hcl => ?_) (fun h0 H locs hw => ?_)
    · rw [if_neg hne] at hF
      by_cases h5 : e2 = 1
      · rw [if_pos h5] at hF
        rw [h5] at hcl
        refine vx_catch (own := "RankHouseLaw") (E := "java/lang/IndexOutOfBoundsException") (name := "java/lang/IndexOutOfBoundsException") C.2.2.2.1 [] (⟨0, 9, 12, 13⟩ : ExceptionTableEntry) [] htab (fun _ h => absurd h List.not_mem_nil) (by decide) (by decide) (C.2.2.2.2 _ gw_146) (va_Nw.use rfl (hw.2.2.2.2.2.2.2.2.2.2.1 ("java/lang/IndexOutOfBoundsException", "java/lang/IndexOutOfBoundsException") (by decide))) hce hcv hcl ?_
        show W _ _ _ _ _ _ _ _ _ _ _ _ _ _ _ (F0 _ 12 _ _)
        refine lv_astore_n hx hb d_L_size_12 rfl hl (by decide) rfl (fun ls hl => ?_)
        have hl : lv_has ls 4 [(3, .ref q9), (0, .ref p0), (1, .int p1), (2, .ref p2)] := hl
        refine lv_iconst (v := 1) hx hb d_L_size_13 (by decide) ?_
        exact hret _ _ _ _ _ _ _ _ (Option.some.inj hF) d_L_size_14 (Nat.le_of_ble_eq_true rfl) (Nat.le_of_ble_eq_true rfl) hw
      · rw [if_neg h5] at hF
        cases hF
    · rw [if_pos h0] at hF
      refine lv_i2l hx hb d_L_size_7 rfl ?_
      obtain ⟨t6, hF⟩ := gd_ex hF
      obtain ⟨b7, hF⟩ := gd_ex hF
      obtain ⟨J8, eJ8, hF⟩ := bnd_ex hF
      refine ga_last C hw t6 b7 eJ8 d_L_size_8 (fun H locs hw => ?_)
      refine lv_goto (tgt := 15) hx hb d_L_size_9 (by decide) ?_
      refine lv_iconst (v := 0) hx hb d_L_size_15 (by decide) ?_
      exact hret _ _ _ _ _ _ _ _ (Option.some.inj hF) d_L_size_16 (Nat.le_of_ble_eq_true rfl) (Nat.le_of_ble_eq_true rfl) hw
  refine key _ (fun pc cells slots ls H locs x J1 he hd hc hs hw => ?_)
  · cases he
    exact W.widen hc hs (W.iret hx hb hr (fun t ht _ => ⟨⟨_, (), rfl, rfl, ga_o hw ht⟩, hw.2.2.2.1.F ht⟩) hw.2.2.2.1.2.2 hd)
set_option maxHeartbeats 4000000 in
set_option maxRecDepth 100000 in
theorem c_L_letter (l : Launch) (D : va_G) (T : Nat → ClassId) (z : Nat) (L : List Nat) {S : gS} {I : gMI} {J : gMJ} {p0 : Nat} {p1 : Int32} {p2 : Int32} {p3 : Nat} {r : Int32} {RJ : gMJ} (hl9 : l.stackTraces = false) (hF : f_L_letter S I J p0 p1 p2 p3 = some (r, RJ)) : ga_Wi l y_L_letter method_7_code 5 (Option.some Jvm.ClassFile.FieldType.int) [((0 : Nat), (10 : Nat), (13 : Nat), (13 : Nat)), ((0 : Nat), (10 : Nat), (17 : Nat), (21 : Nat))] rm_L_letter [.ref p0, .int p1, .int p2, .ref p3] D T z L S I J r I RJ := by
  refine va_MetW (cc := method_7_code) (maxL := 5) (ret := (Option.some Jvm.ClassFile.FieldType.int)) (by decide) rfl ?_
  intro p e s m args below meth c s₁ B hml hv
  obtain ⟨ha, hv⟩ := hv
  have hx := B.exec
  have hb := B.bytes
  have hr := B.returns
  have hts := atoms_spec (ws := .codeWith y_L_letter method_7_code 5 (Option.some Jvm.ClassFile.FieldType.int) [((0 : Nat), (10 : Nat), (13 : Nat), (13 : Nat)), ((0 : Nat), (10 : Nat), (17 : Nat), (21 : Nat))] :: ga_ws) B.pre
  have htab := vx_table (x := y_L_letter) B (hts _ List.mem_cons_self)
  have hown : s.vm.findClass "RankHouseLaw" = some m.cls := findClass_of_methodNamed B.named
  have hlocks := B.notSynchronized
  have C : CallFix p m c method_7_code 5 s args ga_ws "RankHouseLaw" := ⟨hx, hb, hml, hown, fun w h => hts w (List.mem_cons_of_mem _ h)⟩
  have hw := ga_start hv
  have hl := lv_entry ([.ref p0, .int p1, .int p2, .ref p3]) (n := 5) (Nat.le_of_ble_eq_true rfl)
  rw [show entryFrame m args 5 = entryFrame m ([.ref p0, .int p1, .int p2, .ref p3] : List Value).toArray 5 by rw [ha], lg_entry_eq]
  generalize (lg_sl ([.ref p0, .int p1, .int p2, .ref p3]) ++ List.replicate (5 - (lg_sl ([.ref p0, .int p1, .int p2, .ref p3])).length) Slot.unset).toArray = ls at hl ⊢
  have hl : lv_has ls 5 [(0, .ref p0), (1, .int p1), (2, .int p2), (3, .ref p3)] := hl
  have key : ∀ Q : State → Prop, (∀ (pc cells slots : Nat) (ls : Array Slot) (H : Heap) (locs : List Loc) (x : Int32) (J1 : gMJ), (x, J1) = (r, RJ) → decode method_7_code pc = .ok (.ireturn, 1) → cells ≤ rm_L_letter.cells → slots ≤ rm_L_letter.slots → ga_W D T z L S I J1 s H locs → W p l e rm_L_letter s m args below meth c H locs cells slots Q (F0 m pc ls [.int x])) → W p l e rm_L_letter s m args below meth c s.heap [] 0 0 Q (F0 m 0 ls []) := by
    intro Q hret
    rw [f_L_letter] at hF
    refine lv_aload_n hx hb d_L_letter_0 rfl (lv_at hl 3 rfl) ?_
    refine lv_iconst (v := 0) hx hb d_L_letter_1 (by decide) ?_
    refine lv_aload_n hx hb d_L_letter_2 rfl (lv_at hl 0 rfl) ?_
    refine lv_iload_n hx hb d_L_letter_3 rfl (lv_at hl 1 rfl) ?_
    refine lv_iload_n hx hb d_L_letter_4 rfl (lv_at hl 2 rfl) ?_
    obtain ⟨t1, hF⟩ := gd_ex hF
    obtain ⟨e2, x3, c4, hF⟩ := bd2_ex hF
    refine ga_xVi (As := [.int p1, .int p2]) C hw (c_H_letter l D T z L hl9 c4) gy_L_31 t1 rfl hl.1 ⟨Nat.le_of_ble_eq_true rfl, Nat.le_of_ble_eq_true rfl, Nat.le_of_ble_eq_true rfl, Nat.le_of_ble_eq_true rfl⟩ (Nat.le_of_ble_eq_true rfl) rfl d_L_letter_5 (fun hne ce q9 H locs hw hce hcv hcl => ?_) (fun h0 H locs hw => ?_)
    · rw [if_neg hne] at hF
      by_cases h5 : e2 = 1
      · rw [if_pos h5] at hF
        rw [h5] at hcl
        refine vx_catch (own := "RankHouseLaw") (E := "java/lang/IndexOutOfBoundsException") (name := "java/lang/IndexOutOfBoundsException") C.2.2.2.1 [] (⟨0, 10, 13, 13⟩ : ExceptionTableEntry) [(⟨0, 10, 17, 21⟩ : ExceptionTableEntry)] htab (fun _ h => absurd h List.not_mem_nil) (by decide) (by decide) (C.2.2.2.2 _ gw_146) (va_Nw.use rfl (hw.2.2.2.2.2.2.2.2.2.2.1 ("java/lang/IndexOutOfBoundsException", "java/lang/IndexOutOfBoundsException") (by decide))) hce hcv hcl ?_
        show W _ _ _ _ _ _ _ _ _ _ _ _ _ _ _ (F0 _ 13 _ _)
        refine lv_astore hx hb d_L_letter_13 hl (by decide) rfl (fun ls hl => ?_)
        have hl : lv_has ls 5 [(4, .ref q9), (0, .ref p0), (1, .int p1), (2, .int p2), (3, .ref p3)] := hl
        refine lv_iconst (v := 1) hx hb d_L_letter_15 (by decide) ?_
        exact hret _ _ _ _ _ _ _ _ (Option.some.inj hF) d_L_letter_16 (Nat.le_of_ble_eq_true rfl) (Nat.le_of_ble_eq_true rfl) hw
      · rw [if_neg h5] at hF
        by_cases h6 : e2 = 2
        · rw [if_pos h6] at hF
          rw [h6] at hcl
          refine vx_catch (own := "RankHouseLaw") (E := "java/lang/IllegalArgumentException") (name := "java/lang/IllegalArgumentException") C.2.2.2.1 [(⟨0, 10, 13, 13⟩ : ExceptionTableEntry)] (⟨0, 10, 17, 21⟩ : ExceptionTableEntry) [] htab (List.forall_mem_cons.mpr ⟨Or.inr ⟨by decide, "java/lang/IndexOutOfBoundsException", C.2.2.2.2 _ gw_146, hw.2.2.2.2.2.2.2.2.2.2.2.1 ("java/lang/IllegalArgumentException", "java/lang/IndexOutOfBoundsException") (by decide)⟩, fun _ h => absurd h List.not_mem_nil⟩) (by decide) (by decide) (C.2.2.2.2 _ gw_264) (va_Nw.use rfl (hw.2.2.2.2.2.2.2.2.2.2.1 ("java/lang/IllegalArgumentException", "java/lang/IllegalArgumentException") (by decide))) hce hcv hcl ?_
          show W _ _ _ _ _ _ _ _ _ _ _ _ _ _ _ (F0 _ 17 _ _)
          refine lv_astore hx hb d_L_letter_17 hl (by decide) rfl (fun ls hl => ?_)
          have hl : lv_has ls 5 [(4, .ref q9), (0, .ref p0), (1, .int p1), (2, .int p2), (3, .ref p3)] := hl
          refine lv_iconst (v := 2) hx hb d_L_letter_19 (by decide) ?_
          exact hret _ _ _ _ _ _ _ _ (Option.some.inj hF) d_L_letter_20 (Nat.le_of_ble_eq_true rfl) (Nat.le_of_ble_eq_true rfl) hw
        · rw [if_neg h6] at hF
          cases hF
    · rw [if_pos h0] at hF
      refine lv_i2l hx hb d_L_letter_8 rfl ?_
      obtain ⟨t7, hF⟩ := gd_ex hF
      obtain ⟨b8, hF⟩ := gd_ex hF
      obtain ⟨J9, eJ9, hF⟩ := bnd_ex hF
      refine ga_last C hw t7 b8 eJ9 d_L_letter_9 (fun H locs hw => ?_)
      refine lv_goto (tgt := 21) hx hb d_L_letter_10 (by decide) ?_
      refine lv_iconst (v := 0) hx hb d_L_letter_21 (by decide) ?_
      exact hret _ _ _ _ _ _ _ _ (Option.some.inj hF) d_L_letter_22 (Nat.le_of_ble_eq_true rfl) (Nat.le_of_ble_eq_true rfl) hw
  refine key _ (fun pc cells slots ls H locs x J1 he hd hc hs hw => ?_)
  · cases he
    exact W.widen hc hs (W.iret hx hb hr (fun t ht _ => ⟨⟨_, (), rfl, rfl, ga_o hw ht⟩, hw.2.2.2.1.F ht⟩) hw.2.2.2.1.2.2 hd)
set_option maxHeartbeats 4000000 in
set_option maxRecDepth 100000 in
theorem c_L_deliver (l : Launch) (D : va_G) (T : Nat → ClassId) (z : Nat) (L : List Nat) {S : gS} {I : gMI} {J : gMJ} {p0 : Nat} {p1 : Int32} {p2 : Nat} {r : Int32} {RI : gMI} {RJ : gMJ} (hl9 : l.stackTraces = false) (hF : f_L_deliver S I J p0 p1 p2 = some (r, RI, RJ)) : ga_Wi l y_L_deliver method_8_code 4 (Option.some Jvm.ClassFile.FieldType.int) [((0 : Nat), (9 : Nat), (12 : Nat), (13 : Nat))] rm_L_deliver [.ref p0, .int p1, .ref p2] D T z L S I J r RI RJ := by
  refine va_MetW (cc := method_8_code) (maxL := 4) (ret := (Option.some Jvm.ClassFile.FieldType.int)) (by decide) rfl ?_
  intro p e s m args below meth c s₁ B hml hv
  obtain ⟨ha, hv⟩ := hv
  have hx := B.exec
  have hb := B.bytes
  have hr := B.returns
  have hts := atoms_spec (ws := .codeWith y_L_deliver method_8_code 4 (Option.some Jvm.ClassFile.FieldType.int) [((0 : Nat), (9 : Nat), (12 : Nat), (13 : Nat))] :: ga_ws) B.pre
  have htab := vx_table (x := y_L_deliver) B (hts _ List.mem_cons_self)
  have hown : s.vm.findClass "RankHouseLaw" = some m.cls := findClass_of_methodNamed B.named
  have hlocks := B.notSynchronized
  have C : CallFix p m c method_8_code 4 s args ga_ws "RankHouseLaw" := ⟨hx, hb, hml, hown, fun w h => hts w (List.mem_cons_of_mem _ h)⟩
  have hw := ga_start hv
  have hl := lv_entry ([.ref p0, .int p1, .ref p2]) (n := 4) (Nat.le_of_ble_eq_true rfl)
  rw [show entryFrame m args 4 = entryFrame m ([.ref p0, .int p1, .ref p2] : List Value).toArray 4 by rw [ha], lg_entry_eq]
  generalize (lg_sl ([.ref p0, .int p1, .ref p2]) ++ List.replicate (4 - (lg_sl ([.ref p0, .int p1, .ref p2])).length) Slot.unset).toArray = ls at hl ⊢
  have hl : lv_has ls 4 [(0, .ref p0), (1, .int p1), (2, .ref p2)] := hl
  have key : ∀ Q : State → Prop, (∀ (pc cells slots : Nat) (ls : Array Slot) (H : Heap) (locs : List Loc) (x : Int32) (I1 : gMI) (J1 : gMJ), (x, I1, J1) = (r, RI, RJ) → decode method_8_code pc = .ok (.ireturn, 1) → cells ≤ rm_L_deliver.cells → slots ≤ rm_L_deliver.slots → ga_W D T z L S I1 J1 s H locs → W p l e rm_L_deliver s m args below meth c H locs cells slots Q (F0 m pc ls [.int x])) → W p l e rm_L_deliver s m args below meth c s.heap [] 0 0 Q (F0 m 0 ls []) := by
    intro Q hret
    rw [f_L_deliver] at hF
    refine lv_aload_n hx hb d_L_deliver_0 rfl (lv_at hl 2 rfl) ?_
    refine lv_iconst (v := 0) hx hb d_L_deliver_1 (by decide) ?_
    refine lv_aload_n hx hb d_L_deliver_2 rfl (lv_at hl 0 rfl) ?_
    refine lv_iload_n hx hb d_L_deliver_3 rfl (lv_at hl 1 rfl) ?_
    obtain ⟨t1, hF⟩ := gd_ex hF
    obtain ⟨e2, x3, I4, J5, c6, hF⟩ := bd4_ex hF
    refine ga_xVi (As := [.int p1]) C hw (c_H_deliver l D T z L hl9 c6) gy_L_34 t1 rfl hl.1 ⟨Nat.le_of_ble_eq_true rfl, Nat.le_of_ble_eq_true rfl, Nat.le_of_ble_eq_true rfl, Nat.le_of_ble_eq_true rfl⟩ (Nat.le_of_ble_eq_true rfl) rfl d_L_deliver_4 (fun hne ce q9 H locs hw hce hcv hcl => ?_) (fun h0 H locs hw => ?_)
    · rw [if_neg hne] at hF
      by_cases h7 : e2 = 1
      · rw [if_pos h7] at hF
        rw [h7] at hcl
        refine vx_catch (own := "RankHouseLaw") (E := "java/lang/IndexOutOfBoundsException") (name := "java/lang/IndexOutOfBoundsException") C.2.2.2.1 [] (⟨0, 9, 12, 13⟩ : ExceptionTableEntry) [] htab (fun _ h => absurd h List.not_mem_nil) (by decide) (by decide) (C.2.2.2.2 _ gw_146) (va_Nw.use rfl (hw.2.2.2.2.2.2.2.2.2.2.1 ("java/lang/IndexOutOfBoundsException", "java/lang/IndexOutOfBoundsException") (by decide))) hce hcv hcl ?_
        show W _ _ _ _ _ _ _ _ _ _ _ _ _ _ _ (F0 _ 12 _ _)
        refine lv_astore_n hx hb d_L_deliver_12 rfl hl (by decide) rfl (fun ls hl => ?_)
        have hl : lv_has ls 4 [(3, .ref q9), (0, .ref p0), (1, .int p1), (2, .ref p2)] := hl
        refine lv_iconst (v := 1) hx hb d_L_deliver_13 (by decide) ?_
        exact hret _ _ _ _ _ _ _ _ _ (Option.some.inj hF) d_L_deliver_14 (Nat.le_of_ble_eq_true rfl) (Nat.le_of_ble_eq_true rfl) hw
      · rw [if_neg h7] at hF
        cases hF
    · rw [if_pos h0] at hF
      refine lv_i2l hx hb d_L_deliver_7 rfl ?_
      obtain ⟨t8, hF⟩ := gd_ex hF
      obtain ⟨b9, hF⟩ := gd_ex hF
      obtain ⟨J10, eJ10, hF⟩ := bnd_ex hF
      refine ga_last C hw t8 b9 eJ10 d_L_deliver_8 (fun H locs hw => ?_)
      refine lv_goto (tgt := 15) hx hb d_L_deliver_9 (by decide) ?_
      refine lv_iconst (v := 0) hx hb d_L_deliver_15 (by decide) ?_
      exact hret _ _ _ _ _ _ _ _ _ (Option.some.inj hF) d_L_deliver_16 (Nat.le_of_ble_eq_true rfl) (Nat.le_of_ble_eq_true rfl) hw
  refine key _ (fun pc cells slots ls H locs x I1 J1 he hd hc hs hw => ?_)
  · cases he
    exact W.widen hc hs (W.iret hx hb hr (fun t ht _ => ⟨⟨_, (), rfl, rfl, ga_o hw ht⟩, hw.2.2.2.1.F ht⟩) hw.2.2.2.1.2.2 hd)
set_option maxHeartbeats 4000000 in
set_option maxRecDepth 100000 in
theorem c_L_lose (l : Launch) (D : va_G) (T : Nat → ClassId) (z : Nat) (L : List Nat) {S : gS} {I : gMI} {J : gMJ} {p0 : Nat} {p1 : Int32} {p2 : Nat} {r : Int32} {RI : gMI} {RJ : gMJ} (hl9 : l.stackTraces = false) (hF : f_L_lose S I J p0 p1 p2 = some (r, RI, RJ)) : ga_Wi l y_L_lose method_9_code 4 (Option.some Jvm.ClassFile.FieldType.int) [((0 : Nat), (9 : Nat), (12 : Nat), (13 : Nat))] rm_L_lose [.ref p0, .int p1, .ref p2] D T z L S I J r RI RJ := by
  refine va_MetW (cc := method_9_code) (maxL := 4) (ret := (Option.some Jvm.ClassFile.FieldType.int)) (by decide) rfl ?_
  intro p e s m args below meth c s₁ B hml hv
  obtain ⟨ha, hv⟩ := hv
  have hx := B.exec
  have hb := B.bytes
  have hr := B.returns
  have hts := atoms_spec (ws := .codeWith y_L_lose method_9_code 4 (Option.some Jvm.ClassFile.FieldType.int) [((0 : Nat), (9 : Nat), (12 : Nat), (13 : Nat))] :: ga_ws) B.pre
  have htab := vx_table (x := y_L_lose) B (hts _ List.mem_cons_self)
  have hown : s.vm.findClass "RankHouseLaw" = some m.cls := findClass_of_methodNamed B.named
  have hlocks := B.notSynchronized
  have C : CallFix p m c method_9_code 4 s args ga_ws "RankHouseLaw" := ⟨hx, hb, hml, hown, fun w h => hts w (List.mem_cons_of_mem _ h)⟩
  have hw := ga_start hv
  have hl := lv_entry ([.ref p0, .int p1, .ref p2]) (n := 4) (Nat.le_of_ble_eq_true rfl)
  rw [show entryFrame m args 4 = entryFrame m ([.ref p0, .int p1, .ref p2] : List Value).toArray 4 by rw [ha], lg_entry_eq]
  generalize (lg_sl ([.ref p0, .int p1, .ref p2]) ++ List.replicate (4 - (lg_sl ([.ref p0, .int p1, .ref p2])).length) Slot.unset).toArray = ls at hl ⊢
  have hl : lv_has ls 4 [(0, .ref p0), (1, .int p1), (2, .ref p2)] := hl
  have key : ∀ Q : State → Prop, (∀ (pc cells slots : Nat) (ls : Array Slot) (H : Heap) (locs : List Loc) (x : Int32) (I1 : gMI) (J1 : gMJ), (x, I1, J1) = (r, RI, RJ) → decode method_9_code pc = .ok (.ireturn, 1) → cells ≤ rm_L_lose.cells → slots ≤ rm_L_lose.slots → ga_W D T z L S I1 J1 s H locs → W p l e rm_L_lose s m args below meth c H locs cells slots Q (F0 m pc ls [.int x])) → W p l e rm_L_lose s m args below meth c s.heap [] 0 0 Q (F0 m 0 ls []) := by
    intro Q hret
    rw [f_L_lose] at hF
    refine lv_aload_n hx hb d_L_lose_0 rfl (lv_at hl 2 rfl) ?_
    refine lv_iconst (v := 0) hx hb d_L_lose_1 (by decide) ?_
    refine lv_aload_n hx hb d_L_lose_2 rfl (lv_at hl 0 rfl) ?_
    refine lv_iload_n hx hb d_L_lose_3 rfl (lv_at hl 1 rfl) ?_
    obtain ⟨t1, hF⟩ := gd_ex hF
    obtain ⟨e2, x3, I4, c5, hF⟩ := bd3_ex hF
    refine ga_xVi (As := [.int p1]) C hw (c_H_lose l D T z L hl9 c5) gy_L_37 t1 rfl hl.1 ⟨Nat.le_of_ble_eq_true rfl, Nat.le_of_ble_eq_true rfl, Nat.le_of_ble_eq_true rfl, Nat.le_of_ble_eq_true rfl⟩ (Nat.le_of_ble_eq_true rfl) rfl d_L_lose_4 (fun hne ce q9 H locs hw hce hcv hcl => ?_) (fun h0 H locs hw => ?_)
    · rw [if_neg hne] at hF
      by_cases h6 : e2 = 1
      · rw [if_pos h6] at hF
        rw [h6] at hcl
        refine vx_catch (own := "RankHouseLaw") (E := "java/lang/IndexOutOfBoundsException") (name := "java/lang/IndexOutOfBoundsException") C.2.2.2.1 [] (⟨0, 9, 12, 13⟩ : ExceptionTableEntry) [] htab (fun _ h => absurd h List.not_mem_nil) (by decide) (by decide) (C.2.2.2.2 _ gw_146) (va_Nw.use rfl (hw.2.2.2.2.2.2.2.2.2.2.1 ("java/lang/IndexOutOfBoundsException", "java/lang/IndexOutOfBoundsException") (by decide))) hce hcv hcl ?_
        show W _ _ _ _ _ _ _ _ _ _ _ _ _ _ _ (F0 _ 12 _ _)
        refine lv_astore_n hx hb d_L_lose_12 rfl hl (by decide) rfl (fun ls hl => ?_)
        have hl : lv_has ls 4 [(3, .ref q9), (0, .ref p0), (1, .int p1), (2, .ref p2)] := hl
        refine lv_iconst (v := 1) hx hb d_L_lose_13 (by decide) ?_
        exact hret _ _ _ _ _ _ _ _ _ (Option.some.inj hF) d_L_lose_14 (Nat.le_of_ble_eq_true rfl) (Nat.le_of_ble_eq_true rfl) hw
      · rw [if_neg h6] at hF
        cases hF
    · rw [if_pos h0] at hF
      refine lv_i2l hx hb d_L_lose_7 rfl ?_
      obtain ⟨t7, hF⟩ := gd_ex hF
      obtain ⟨b8, hF⟩ := gd_ex hF
      obtain ⟨J9, eJ9, hF⟩ := bnd_ex hF
      refine ga_last C hw t7 b8 eJ9 d_L_lose_8 (fun H locs hw => ?_)
      refine lv_goto (tgt := 15) hx hb d_L_lose_9 (by decide) ?_
      refine lv_iconst (v := 0) hx hb d_L_lose_15 (by decide) ?_
      exact hret _ _ _ _ _ _ _ _ _ (Option.some.inj hF) d_L_lose_16 (Nat.le_of_ble_eq_true rfl) (Nat.le_of_ble_eq_true rfl) hw
  refine key _ (fun pc cells slots ls H locs x I1 J1 he hd hc hs hw => ?_)
  · cases he
    exact W.widen hc hs (W.iret hx hb hr (fun t ht _ => ⟨⟨_, (), rfl, rfl, ga_o hw ht⟩, hw.2.2.2.1.F ht⟩) hw.2.2.2.1.2.2 hd)
set_option maxHeartbeats 4000000 in
set_option maxRecDepth 100000 in
theorem m_L_twin_b15 {zz : Int32 × gMI × gMJ} (hret : ∀ (pc cells slots : Nat) (ls : Array Slot) (H : Heap) (locs : List Loc) (x : Int32) (I1 : gMI) (J1 : gMJ), (x, I1, J1) = zz → decode method_10_code pc = .ok (.ireturn, 1) → cells ≤ rm_L_twin.cells → slots ≤ rm_L_twin.slots → ga_W D T z L S I1 J1 s H locs → W p l e rm_L_twin s m args below meth c H locs cells slots Q (F0 m pc ls [.int x])) (C : CallFix p m c method_10_code 4 s args ga_ws "RankHouseLaw") : ∀ (I : gMI) (J : gMJ) (s0 : Int64) (s1 : Int32) (s2 : Nat), f_L_twin_b15 S I J s0 s1 s2 = some zz → ∀ (ls : Array Slot) (H : Heap) (locs : List Loc), lv_has ls 4 [] → ga_W D T z L S I J s H locs → W p l e rm_L_twin s m args below meth c H locs 1 6 Q (F0 m 15 ls [.long s0, .int s1, .ref s2]) := by
  intro I J s0 s1 s2 hF ls H locs hl hw
  have hx := C.1
  have hb := C.2.1
  rw [f_L_twin_b15] at hF
  obtain ⟨t1, hF⟩ := gd_ex hF
  obtain ⟨b2, hF⟩ := gd_ex hF
  obtain ⟨J3, eJ3, hF⟩ := bnd_ex hF
  refine ga_last C hw t1 b2 eJ3 d_L_twin_15 (fun H locs hw => ?_)
  refine lv_goto (tgt := 22) hx hb d_L_twin_16 (by decide) ?_
  refine lv_iconst (v := 0) hx hb d_L_twin_22 (by decide) ?_
  exact hret _ _ _ _ _ _ _ _ _ (Option.some.inj hF) d_L_twin_23 (Nat.le_of_ble_eq_true rfl) (Nat.le_of_ble_eq_true rfl) hw
set_option maxHeartbeats 4000000 in
set_option maxRecDepth 100000 in
theorem c_L_twin (l : Launch) (D : va_G) (T : Nat → ClassId) (z : Nat) (L : List Nat) {S : gS} {I : gMI} {J : gMJ} {p0 : Nat} {p1 : Int32} {p2 : Nat} {r : Int32} {RI : gMI} {RJ : gMJ} (hl9 : l.stackTraces = false) (hF : f_L_twin S I J p0 p1 p2 = some (r, RI, RJ)) : ga_Wi l y_L_twin method_10_code 4 (Option.some Jvm.ClassFile.FieldType.int) [((0 : Nat), (16 : Nat), (19 : Nat), (13 : Nat))] rm_L_twin [.ref p0, .int p1, .ref p2] D T z L S I J r RI RJ := by
  refine va_MetW (cc := method_10_code) (maxL := 4) (ret := (Option.some Jvm.ClassFile.FieldType.int)) (by decide) rfl ?_
  intro p e s m args below meth c s₁ B hml hv
  obtain ⟨ha, hv⟩ := hv
  have hx := B.exec
  have hb := B.bytes
  have hr := B.returns
  have hts := atoms_spec (ws := .codeWith y_L_twin method_10_code 4 (Option.some Jvm.ClassFile.FieldType.int) [((0 : Nat), (16 : Nat), (19 : Nat), (13 : Nat))] :: ga_ws) B.pre
  have htab := vx_table (x := y_L_twin) B (hts _ List.mem_cons_self)
  have hown : s.vm.findClass "RankHouseLaw" = some m.cls := findClass_of_methodNamed B.named
  have hlocks := B.notSynchronized
  have C : CallFix p m c method_10_code 4 s args ga_ws "RankHouseLaw" := ⟨hx, hb, hml, hown, fun w h => hts w (List.mem_cons_of_mem _ h)⟩
  have hw := ga_start hv
  have hl := lv_entry ([.ref p0, .int p1, .ref p2]) (n := 4) (Nat.le_of_ble_eq_true rfl)
  rw [show entryFrame m args 4 = entryFrame m ([.ref p0, .int p1, .ref p2] : List Value).toArray 4 by rw [ha], lg_entry_eq]
  generalize (lg_sl ([.ref p0, .int p1, .ref p2]) ++ List.replicate (4 - (lg_sl ([.ref p0, .int p1, .ref p2])).length) Slot.unset).toArray = ls at hl ⊢
  have hl : lv_has ls 4 [(0, .ref p0), (1, .int p1), (2, .ref p2)] := hl
  have key : ∀ Q : State → Prop, (∀ (pc cells slots : Nat) (ls : Array Slot) (H : Heap) (locs : List Loc) (x : Int32) (I1 : gMI) (J1 : gMJ), (x, I1, J1) = (r, RI, RJ) → decode method_10_code pc = .ok (.ireturn, 1) → cells ≤ rm_L_twin.cells → slots ≤ rm_L_twin.slots → ga_W D T z L S I1 J1 s H locs → W p l e rm_L_twin s m args below meth c H locs cells slots Q (F0 m pc ls [.int x])) → W p l e rm_L_twin s m args below meth c s.heap [] 0 0 Q (F0 m 0 ls []) := by
    intro Q hret
    rw [f_L_twin] at hF
    refine lv_aload_n hx hb d_L_twin_0 rfl (lv_at hl 2 rfl) ?_
    refine lv_iconst (v := 0) hx hb d_L_twin_1 (by decide) ?_
    refine lv_aload_n hx hb d_L_twin_2 rfl (lv_at hl 0 rfl) ?_
    refine lv_iload_n hx hb d_L_twin_3 rfl (lv_at hl 1 rfl) ?_
    obtain ⟨t1, hF⟩ := gd_ex hF
    obtain ⟨e2, x3, I4, J5, c6, hF⟩ := bd4_ex hF
    refine ga_xVi (As := [.int p1]) C hw (c_H_twin l D T z L hl9 c6) gy_L_40 t1 rfl hl.1 ⟨Nat.le_of_ble_eq_true rfl, Nat.le_of_ble_eq_true rfl, Nat.le_of_ble_eq_true rfl, Nat.le_of_ble_eq_true rfl⟩ (Nat.le_of_ble_eq_true rfl) rfl d_L_twin_4 (fun hne ce q9 H locs hw hce hcv hcl => ?_) (fun h0 H locs hw => ?_)
    · rw [if_neg hne] at hF
      by_cases h7 : e2 = 1
      · rw [if_pos h7] at hF
        rw [h7] at hcl
        refine vx_catch (own := "RankHouseLaw") (E := "java/lang/IndexOutOfBoundsException") (name := "java/lang/IndexOutOfBoundsException") C.2.2.2.1 [] (⟨0, 16, 19, 13⟩ : ExceptionTableEntry) [] htab (fun _ h => absurd h List.not_mem_nil) (by decide) (by decide) (C.2.2.2.2 _ gw_146) (va_Nw.use rfl (hw.2.2.2.2.2.2.2.2.2.2.1 ("java/lang/IndexOutOfBoundsException", "java/lang/IndexOutOfBoundsException") (by decide))) hce hcv hcl ?_
        show W _ _ _ _ _ _ _ _ _ _ _ _ _ _ _ (F0 _ 19 _ _)
        refine lv_astore_n hx hb d_L_twin_19 rfl hl (by decide) rfl (fun ls hl => ?_)
        have hl : lv_has ls 4 [(3, .ref q9), (0, .ref p0), (1, .int p1), (2, .ref p2)] := hl
        refine lv_iconst (v := 1) hx hb d_L_twin_20 (by decide) ?_
        exact hret _ _ _ _ _ _ _ _ _ (Option.some.inj hF) d_L_twin_21 (Nat.le_of_ble_eq_true rfl) (Nat.le_of_ble_eq_true rfl) hw
      · rw [if_neg h7] at hF
        cases hF
    · rw [if_pos h0] at hF
      by_cases h8 : x3 = 0
      · rw [if_pos h8] at hF
        refine lv_if_eq (tgt := 14) hx hb d_L_twin_7 (by decide) (fun _ => ?_) (fun hn => absurd h8 hn)
        refine lv_lconst (v := 0) hx hb d_L_twin_14 (by decide) ?_
        refine W.widen (k := 1) (n := 6) (Nat.le_of_ble_eq_true rfl) (Nat.le_of_ble_eq_true rfl) ?_
        exact m_L_twin_b15 hret C _ _ _ _ _ hF _ _ _ (lv_sub hl [] rfl) hw
      · rw [if_neg h8] at hF
        refine lv_if_eq (tgt := 14) hx hb d_L_twin_7 (by decide) (fun hp => absurd hp h8) (fun _ => ?_)
        refine lv_lconst (v := 1) hx hb d_L_twin_10 (by decide) ?_
        refine lv_goto (tgt := 15) hx hb d_L_twin_11 (by decide) ?_
        refine W.widen (k := 1) (n := 6) (Nat.le_of_ble_eq_true rfl) (Nat.le_of_ble_eq_true rfl) ?_
        exact m_L_twin_b15 hret C _ _ _ _ _ hF _ _ _ (lv_sub hl [] rfl) hw
  refine key _ (fun pc cells slots ls H locs x I1 J1 he hd hc hs hw => ?_)
  · cases he
    exact W.widen hc hs (W.iret hx hb hr (fun t ht _ => ⟨⟨_, (), rfl, rfl, ga_o hw ht⟩, hw.2.2.2.1.F ht⟩) hw.2.2.2.1.2.2 hd)
set_option maxHeartbeats 4000000 in
set_option maxRecDepth 100000 in
theorem c_L_run (l : Launch) (D : va_G) (T : Nat → ClassId) (z : Nat) (L : List Nat) {S : gS} {I : gMI} {J : gMJ} {p0 : Nat} {p1 : Int32} {p2 : Nat} {r : Int32} {RI : gMI} {RJ : gMJ} (hl9 : l.stackTraces = false) (hF : f_L_run S I J p0 p1 p2 = some (r, RI, RJ)) : ga_Wi l y_L_run method_11_code 4 (Option.some Jvm.ClassFile.FieldType.int) [((0 : Nat), (9 : Nat), (12 : Nat), (21 : Nat))] rm_L_run [.ref p0, .int p1, .ref p2] D T z L S I J r RI RJ := by
  refine va_MetW (cc := method_11_code) (maxL := 4) (ret := (Option.some Jvm.ClassFile.FieldType.int)) (by decide) rfl ?_
  intro p e s m args below meth c s₁ B hml hv
  obtain ⟨ha, hv⟩ := hv
  have hx := B.exec
  have hb := B.bytes
  have hr := B.returns
  have hts := atoms_spec (ws := .codeWith y_L_run method_11_code 4 (Option.some Jvm.ClassFile.FieldType.int) [((0 : Nat), (9 : Nat), (12 : Nat), (21 : Nat))] :: ga_ws) B.pre
  have htab := vx_table (x := y_L_run) B (hts _ List.mem_cons_self)
  have hown : s.vm.findClass "RankHouseLaw" = some m.cls := findClass_of_methodNamed B.named
  have hlocks := B.notSynchronized
  have C : CallFix p m c method_11_code 4 s args ga_ws "RankHouseLaw" := ⟨hx, hb, hml, hown, fun w h => hts w (List.mem_cons_of_mem _ h)⟩
  have hw := ga_start hv
  have hl := lv_entry ([.ref p0, .int p1, .ref p2]) (n := 4) (Nat.le_of_ble_eq_true rfl)
  rw [show entryFrame m args 4 = entryFrame m ([.ref p0, .int p1, .ref p2] : List Value).toArray 4 by rw [ha], lg_entry_eq]
  generalize (lg_sl ([.ref p0, .int p1, .ref p2]) ++ List.replicate (4 - (lg_sl ([.ref p0, .int p1, .ref p2])).length) Slot.unset).toArray = ls at hl ⊢
  have hl : lv_has ls 4 [(0, .ref p0), (1, .int p1), (2, .ref p2)] := hl
  have key : ∀ Q : State → Prop, (∀ (pc cells slots : Nat) (ls : Array Slot) (H : Heap) (locs : List Loc) (x : Int32) (I1 : gMI) (J1 : gMJ), (x, I1, J1) = (r, RI, RJ) → decode method_11_code pc = .ok (.ireturn, 1) → cells ≤ rm_L_run.cells → slots ≤ rm_L_run.slots → ga_W D T z L S I1 J1 s H locs → W p l e rm_L_run s m args below meth c H locs cells slots Q (F0 m pc ls [.int x])) → W p l e rm_L_run s m args below meth c s.heap [] 0 0 Q (F0 m 0 ls []) := by
    intro Q hret
    rw [f_L_run] at hF
    refine lv_aload_n hx hb d_L_run_0 rfl (lv_at hl 2 rfl) ?_
    refine lv_iconst (v := 0) hx hb d_L_run_1 (by decide) ?_
    refine lv_aload_n hx hb d_L_run_2 rfl (lv_at hl 0 rfl) ?_
    refine lv_iload_n hx hb d_L_run_3 rfl (lv_at hl 1 rfl) ?_
    obtain ⟨t1, hF⟩ := gd_ex hF
    obtain ⟨e2, x3, I4, J5, c6, hF⟩ := bd4_ex hF
    refine ga_xVi (As := [.int p1]) C hw (c_H_run l D T z L hl9 c6) gy_L_44 t1 rfl hl.1 ⟨Nat.le_of_ble_eq_true rfl, Nat.le_of_ble_eq_true rfl, Nat.le_of_ble_eq_true rfl, Nat.le_of_ble_eq_true rfl⟩ (Nat.le_of_ble_eq_true rfl) rfl d_L_run_4 (fun hne ce q9 H locs hw hce hcv hcl => ?_) (fun h0 H locs hw => ?_)
    · rw [if_neg hne] at hF
      by_cases h7 : e2 = 2
      · rw [if_pos h7] at hF
        rw [h7] at hcl
        refine vx_catch (own := "RankHouseLaw") (E := "java/lang/IllegalArgumentException") (name := "java/lang/IllegalArgumentException") C.2.2.2.1 [] (⟨0, 9, 12, 21⟩ : ExceptionTableEntry) [] htab (fun _ h => absurd h List.not_mem_nil) (by decide) (by decide) (C.2.2.2.2 _ gw_264) (va_Nw.use rfl (hw.2.2.2.2.2.2.2.2.2.2.1 ("java/lang/IllegalArgumentException", "java/lang/IllegalArgumentException") (by decide))) hce hcv hcl ?_
        show W _ _ _ _ _ _ _ _ _ _ _ _ _ _ _ (F0 _ 12 _ _)
        refine lv_astore_n hx hb d_L_run_12 rfl hl (by decide) rfl (fun ls hl => ?_)
        have hl : lv_has ls 4 [(3, .ref q9), (0, .ref p0), (1, .int p1), (2, .ref p2)] := hl
        refine lv_iconst (v := 1) hx hb d_L_run_13 (by decide) ?_
        exact hret _ _ _ _ _ _ _ _ _ (Option.some.inj hF) d_L_run_14 (Nat.le_of_ble_eq_true rfl) (Nat.le_of_ble_eq_true rfl) hw
      · rw [if_neg h7] at hF
        cases hF
    · rw [if_pos h0] at hF
      refine lv_i2l hx hb d_L_run_7 rfl ?_
      obtain ⟨t8, hF⟩ := gd_ex hF
      obtain ⟨b9, hF⟩ := gd_ex hF
      obtain ⟨J10, eJ10, hF⟩ := bnd_ex hF
      refine ga_last C hw t8 b9 eJ10 d_L_run_8 (fun H locs hw => ?_)
      refine lv_goto (tgt := 15) hx hb d_L_run_9 (by decide) ?_
      refine lv_iconst (v := 0) hx hb d_L_run_15 (by decide) ?_
      exact hret _ _ _ _ _ _ _ _ _ (Option.some.inj hF) d_L_run_16 (Nat.le_of_ble_eq_true rfl) (Nat.le_of_ble_eq_true rfl) hw
  refine key _ (fun pc cells slots ls H locs x I1 J1 he hd hc hs hw => ?_)
  · cases he
    exact W.widen hc hs (W.iret hx hb hr (fun t ht _ => ⟨⟨_, (), rfl, rfl, ga_o hw ht⟩, hw.2.2.2.1.F ht⟩) hw.2.2.2.1.2.2 hd)
set_option maxHeartbeats 4000000 in
set_option maxRecDepth 100000 in
theorem c_L_resend (l : Launch) (D : va_G) (T : Nat → ClassId) (z : Nat) (L : List Nat) {S : gS} {I : gMI} {J : gMJ} {p0 : Nat} {p1 : Int32} {p2 : Nat} {r : Int32} {RI : gMI} {RJ : gMJ} (hl9 : l.stackTraces = false) (hF : f_L_resend S I J p0 p1 p2 = some (r, RI, RJ)) : ga_Wi l y_L_resend method_12_code 4 (Option.some Jvm.ClassFile.FieldType.int) [((0 : Nat), (9 : Nat), (12 : Nat), (13 : Nat)), ((0 : Nat), (9 : Nat), (15 : Nat), (15 : Nat))] rm_L_resend [.ref p0, .int p1, .ref p2] D T z L S I J r RI RJ := by
  refine va_MetW (cc := method_12_code) (maxL := 4) (ret := (Option.some Jvm.ClassFile.FieldType.int)) (by decide) rfl ?_
  intro p e s m args below meth c s₁ B hml hv
  obtain ⟨ha, hv⟩ := hv
  have hx := B.exec
  have hb := B.bytes
  have hr := B.returns
  have hts := atoms_spec (ws := .codeWith y_L_resend method_12_code 4 (Option.some Jvm.ClassFile.FieldType.int) [((0 : Nat), (9 : Nat), (12 : Nat), (13 : Nat)), ((0 : Nat), (9 : Nat), (15 : Nat), (15 : Nat))] :: ga_ws) B.pre
  have htab := vx_table (x := y_L_resend) B (hts _ List.mem_cons_self)
  have hown : s.vm.findClass "RankHouseLaw" = some m.cls := findClass_of_methodNamed B.named
  have hlocks := B.notSynchronized
  have C : CallFix p m c method_12_code 4 s args ga_ws "RankHouseLaw" := ⟨hx, hb, hml, hown, fun w h => hts w (List.mem_cons_of_mem _ h)⟩
  have hw := ga_start hv
  have hl := lv_entry ([.ref p0, .int p1, .ref p2]) (n := 4) (Nat.le_of_ble_eq_true rfl)
  rw [show entryFrame m args 4 = entryFrame m ([.ref p0, .int p1, .ref p2] : List Value).toArray 4 by rw [ha], lg_entry_eq]
  generalize (lg_sl ([.ref p0, .int p1, .ref p2]) ++ List.replicate (4 - (lg_sl ([.ref p0, .int p1, .ref p2])).length) Slot.unset).toArray = ls at hl ⊢
  have hl : lv_has ls 4 [(0, .ref p0), (1, .int p1), (2, .ref p2)] := hl
  have key : ∀ Q : State → Prop, (∀ (pc cells slots : Nat) (ls : Array Slot) (H : Heap) (locs : List Loc) (x : Int32) (I1 : gMI) (J1 : gMJ), (x, I1, J1) = (r, RI, RJ) → decode method_12_code pc = .ok (.ireturn, 1) → cells ≤ rm_L_resend.cells → slots ≤ rm_L_resend.slots → ga_W D T z L S I1 J1 s H locs → W p l e rm_L_resend s m args below meth c H locs cells slots Q (F0 m pc ls [.int x])) → W p l e rm_L_resend s m args below meth c s.heap [] 0 0 Q (F0 m 0 ls []) := by
    intro Q hret
    rw [f_L_resend] at hF
    refine lv_aload_n hx hb d_L_resend_0 rfl (lv_at hl 2 rfl) ?_
    refine lv_iconst (v := 0) hx hb d_L_resend_1 (by decide) ?_
    refine lv_aload_n hx hb d_L_resend_2 rfl (lv_at hl 0 rfl) ?_
    refine lv_iload_n hx hb d_L_resend_3 rfl (lv_at hl 1 rfl) ?_
    obtain ⟨t1, hF⟩ := gd_ex hF
    obtain ⟨e2, x3, I4, J5, c6, hF⟩ := bd4_ex hF
    refine ga_xVi (As := [.int p1]) C hw (c_H_resend l D T z L hl9 c6) gy_L_47 t1 rfl hl.1 ⟨Nat.le_of_ble_eq_true rfl, Nat.le_of_ble_eq_true rfl, Nat.le_of_ble_eq_true rfl, Nat.le_of_ble_eq_true rfl⟩ (Nat.le_of_ble_eq_true rfl) rfl d_L_resend_4 (fun hne ce q9 H locs hw hce hcv hcl => ?_) (fun h0 H locs hw => ?_)
    · rw [if_neg hne] at hF
      by_cases h7 : e2 = 1
      · rw [if_pos h7] at hF
        rw [h7] at hcl
        refine vx_catch (own := "RankHouseLaw") (E := "java/lang/IndexOutOfBoundsException") (name := "java/lang/IndexOutOfBoundsException") C.2.2.2.1 [] (⟨0, 9, 12, 13⟩ : ExceptionTableEntry) [(⟨0, 9, 15, 15⟩ : ExceptionTableEntry)] htab (fun _ h => absurd h List.not_mem_nil) (by decide) (by decide) (C.2.2.2.2 _ gw_146) (va_Nw.use rfl (hw.2.2.2.2.2.2.2.2.2.2.1 ("java/lang/IndexOutOfBoundsException", "java/lang/IndexOutOfBoundsException") (by decide))) hce hcv hcl ?_
        show W _ _ _ _ _ _ _ _ _ _ _ _ _ _ _ (F0 _ 12 _ _)
        refine lv_astore_n hx hb d_L_resend_12 rfl hl (by decide) rfl (fun ls hl => ?_)
        have hl : lv_has ls 4 [(3, .ref q9), (0, .ref p0), (1, .int p1), (2, .ref p2)] := hl
        refine lv_iconst (v := 1) hx hb d_L_resend_13 (by decide) ?_
        exact hret _ _ _ _ _ _ _ _ _ (Option.some.inj hF) d_L_resend_14 (Nat.le_of_ble_eq_true rfl) (Nat.le_of_ble_eq_true rfl) hw
      · rw [if_neg h7] at hF
        by_cases h8 : e2 = 3
        · rw [if_pos h8] at hF
          rw [h8] at hcl
          refine vx_catch (own := "RankHouseLaw") (E := "java/lang/IllegalStateException") (name := "java/lang/IllegalStateException") C.2.2.2.1 [(⟨0, 9, 12, 13⟩ : ExceptionTableEntry)] (⟨0, 9, 15, 15⟩ : ExceptionTableEntry) [] htab (List.forall_mem_cons.mpr ⟨Or.inr ⟨by decide, "java/lang/IndexOutOfBoundsException", C.2.2.2.2 _ gw_146, hw.2.2.2.2.2.2.2.2.2.2.2.1 ("java/lang/IllegalStateException", "java/lang/IndexOutOfBoundsException") (by decide)⟩, fun _ h => absurd h List.not_mem_nil⟩) (by decide) (by decide) (C.2.2.2.2 _ gw_147) (va_Nw.use rfl (hw.2.2.2.2.2.2.2.2.2.2.1 ("java/lang/IllegalStateException", "java/lang/IllegalStateException") (by decide))) hce hcv hcl ?_
          show W _ _ _ _ _ _ _ _ _ _ _ _ _ _ _ (F0 _ 15 _ _)
          refine lv_astore_n hx hb d_L_resend_15 rfl hl (by decide) rfl (fun ls hl => ?_)
          have hl : lv_has ls 4 [(3, .ref q9), (0, .ref p0), (1, .int p1), (2, .ref p2)] := hl
          refine lv_iconst (v := 2) hx hb d_L_resend_16 (by decide) ?_
          exact hret _ _ _ _ _ _ _ _ _ (Option.some.inj hF) d_L_resend_17 (Nat.le_of_ble_eq_true rfl) (Nat.le_of_ble_eq_true rfl) hw
        · rw [if_neg h8] at hF
          cases hF
    · rw [if_pos h0] at hF
      refine lv_i2l hx hb d_L_resend_7 rfl ?_
      obtain ⟨t9, hF⟩ := gd_ex hF
      obtain ⟨b10, hF⟩ := gd_ex hF
      obtain ⟨J11, eJ11, hF⟩ := bnd_ex hF
      refine ga_last C hw t9 b10 eJ11 d_L_resend_8 (fun H locs hw => ?_)
      refine lv_goto (tgt := 18) hx hb d_L_resend_9 (by decide) ?_
      refine lv_iconst (v := 0) hx hb d_L_resend_18 (by decide) ?_
      exact hret _ _ _ _ _ _ _ _ _ (Option.some.inj hF) d_L_resend_19 (Nat.le_of_ble_eq_true rfl) (Nat.le_of_ble_eq_true rfl) hw
  refine key _ (fun pc cells slots ls H locs x I1 J1 he hd hc hs hw => ?_)
  · cases he
    exact W.widen hc hs (W.iret hx hb hr (fun t ht _ => ⟨⟨_, (), rfl, rfl, ga_o hw ht⟩, hw.2.2.2.1.F ht⟩) hw.2.2.2.1.2.2 hd)
set_option maxHeartbeats 4000000 in
set_option maxRecDepth 100000 in
theorem c_L_takeOver (l : Launch) (D : va_G) (T : Nat → ClassId) (z : Nat) (L : List Nat) {S : gS} {I : gMI} {J : gMJ} {p0 : Nat} {p1 : Int32} {p2 : Int32} {p3 : Nat} {r : Int32} {RI : gMI} {RJ : gMJ} (hl9 : l.stackTraces = false) (hF : f_L_takeOver S I J p0 p1 p2 p3 = some (r, RI, RJ)) : ga_Wi l y_L_takeOver method_13_code 5 (Option.some Jvm.ClassFile.FieldType.int) [((0 : Nat), (10 : Nat), (13 : Nat), (13 : Nat)), ((0 : Nat), (10 : Nat), (17 : Nat), (15 : Nat))] rm_L_takeOver [.ref p0, .int p1, .int p2, .ref p3] D T z L S I J r RI RJ := by
  refine va_MetW (cc := method_13_code) (maxL := 5) (ret := (Option.some Jvm.ClassFile.FieldType.int)) (by decide) rfl ?_
  intro p e s m args below meth c s₁ B hml hv
  obtain ⟨ha, hv⟩ := hv
  have hx := B.exec
  have hb := B.bytes
  have hr := B.returns
  have hts := atoms_spec (ws := .codeWith y_L_takeOver method_13_code 5 (Option.some Jvm.ClassFile.FieldType.int) [((0 : Nat), (10 : Nat), (13 : Nat), (13 : Nat)), ((0 : Nat), (10 : Nat), (17 : Nat), (15 : Nat))] :: ga_ws) B.pre
  have htab := vx_table (x := y_L_takeOver) B (hts _ List.mem_cons_self)
  have hown : s.vm.findClass "RankHouseLaw" = some m.cls := findClass_of_methodNamed B.named
  have hlocks := B.notSynchronized
  have C : CallFix p m c method_13_code 5 s args ga_ws "RankHouseLaw" := ⟨hx, hb, hml, hown, fun w h => hts w (List.mem_cons_of_mem _ h)⟩
  have hw := ga_start hv
  have hl := lv_entry ([.ref p0, .int p1, .int p2, .ref p3]) (n := 5) (Nat.le_of_ble_eq_true rfl)
  rw [show entryFrame m args 5 = entryFrame m ([.ref p0, .int p1, .int p2, .ref p3] : List Value).toArray 5 by rw [ha], lg_entry_eq]
  generalize (lg_sl ([.ref p0, .int p1, .int p2, .ref p3]) ++ List.replicate (5 - (lg_sl ([.ref p0, .int p1, .int p2, .ref p3])).length) Slot.unset).toArray = ls at hl ⊢
  have hl : lv_has ls 5 [(0, .ref p0), (1, .int p1), (2, .int p2), (3, .ref p3)] := hl
  have key : ∀ Q : State → Prop, (∀ (pc cells slots : Nat) (ls : Array Slot) (H : Heap) (locs : List Loc) (x : Int32) (I1 : gMI) (J1 : gMJ), (x, I1, J1) = (r, RI, RJ) → decode method_13_code pc = .ok (.ireturn, 1) → cells ≤ rm_L_takeOver.cells → slots ≤ rm_L_takeOver.slots → ga_W D T z L S I1 J1 s H locs → W p l e rm_L_takeOver s m args below meth c H locs cells slots Q (F0 m pc ls [.int x])) → W p l e rm_L_takeOver s m args below meth c s.heap [] 0 0 Q (F0 m 0 ls []) := by
    intro Q hret
    rw [f_L_takeOver] at hF
    refine lv_aload_n hx hb d_L_takeOver_0 rfl (lv_at hl 3 rfl) ?_
    refine lv_iconst (v := 0) hx hb d_L_takeOver_1 (by decide) ?_
    refine lv_aload_n hx hb d_L_takeOver_2 rfl (lv_at hl 0 rfl) ?_
    refine lv_iload_n hx hb d_L_takeOver_3 rfl (lv_at hl 1 rfl) ?_
    refine lv_iload_n hx hb d_L_takeOver_4 rfl (lv_at hl 2 rfl) ?_
    obtain ⟨t1, hF⟩ := gd_ex hF
    obtain ⟨e2, x3, I4, J5, c6, hF⟩ := bd4_ex hF
    refine ga_xVi (As := [.int p1, .int p2]) C hw (c_H_takeOver l D T z L hl9 c6) gy_L_50 t1 rfl hl.1 ⟨Nat.le_of_ble_eq_true rfl, Nat.le_of_ble_eq_true rfl, Nat.le_of_ble_eq_true rfl, Nat.le_of_ble_eq_true rfl⟩ (Nat.le_of_ble_eq_true rfl) rfl d_L_takeOver_5 (fun hne ce q9 H locs hw hce hcv hcl => ?_) (fun h0 H locs hw => ?_)
    · rw [if_neg hne] at hF
      by_cases h7 : e2 = 1
      · rw [if_pos h7] at hF
        rw [h7] at hcl
        refine vx_catch (own := "RankHouseLaw") (E := "java/lang/IndexOutOfBoundsException") (name := "java/lang/IndexOutOfBoundsException") C.2.2.2.1 [] (⟨0, 10, 13, 13⟩ : ExceptionTableEntry) [(⟨0, 10, 17, 15⟩ : ExceptionTableEntry)] htab (fun _ h => absurd h List.not_mem_nil) (by decide) (by decide) (C.2.2.2.2 _ gw_146) (va_Nw.use rfl (hw.2.2.2.2.2.2.2.2.2.2.1 ("java/lang/IndexOutOfBoundsException", "java/lang/IndexOutOfBoundsException") (by decide))) hce hcv hcl ?_
        show W _ _ _ _ _ _ _ _ _ _ _ _ _ _ _ (F0 _ 13 _ _)
        refine lv_astore hx hb d_L_takeOver_13 hl (by decide) rfl (fun ls hl => ?_)
        have hl : lv_has ls 5 [(4, .ref q9), (0, .ref p0), (1, .int p1), (2, .int p2), (3, .ref p3)] := hl
        refine lv_iconst (v := 1) hx hb d_L_takeOver_15 (by decide) ?_
        exact hret _ _ _ _ _ _ _ _ _ (Option.some.inj hF) d_L_takeOver_16 (Nat.le_of_ble_eq_true rfl) (Nat.le_of_ble_eq_true rfl) hw
      · rw [if_neg h7] at hF
        by_cases h8 : e2 = 3
        · rw [if_pos h8] at hF
          rw [h8] at hcl
          refine vx_catch (own := "RankHouseLaw") (E := "java/lang/IllegalStateException") (name := "java/lang/IllegalStateException") C.2.2.2.1 [(⟨0, 10, 13, 13⟩ : ExceptionTableEntry)] (⟨0, 10, 17, 15⟩ : ExceptionTableEntry) [] htab (List.forall_mem_cons.mpr ⟨Or.inr ⟨by decide, "java/lang/IndexOutOfBoundsException", C.2.2.2.2 _ gw_146, hw.2.2.2.2.2.2.2.2.2.2.2.1 ("java/lang/IllegalStateException", "java/lang/IndexOutOfBoundsException") (by decide)⟩, fun _ h => absurd h List.not_mem_nil⟩) (by decide) (by decide) (C.2.2.2.2 _ gw_147) (va_Nw.use rfl (hw.2.2.2.2.2.2.2.2.2.2.1 ("java/lang/IllegalStateException", "java/lang/IllegalStateException") (by decide))) hce hcv hcl ?_
          show W _ _ _ _ _ _ _ _ _ _ _ _ _ _ _ (F0 _ 17 _ _)
          refine lv_astore hx hb d_L_takeOver_17 hl (by decide) rfl (fun ls hl => ?_)
          have hl : lv_has ls 5 [(4, .ref q9), (0, .ref p0), (1, .int p1), (2, .int p2), (3, .ref p3)] := hl
          refine lv_iconst (v := 2) hx hb d_L_takeOver_19 (by decide) ?_
          exact hret _ _ _ _ _ _ _ _ _ (Option.some.inj hF) d_L_takeOver_20 (Nat.le_of_ble_eq_true rfl) (Nat.le_of_ble_eq_true rfl) hw
        · rw [if_neg h8] at hF
          cases hF
    · rw [if_pos h0] at hF
      refine lv_i2l hx hb d_L_takeOver_8 rfl ?_
      obtain ⟨t9, hF⟩ := gd_ex hF
      obtain ⟨b10, hF⟩ := gd_ex hF
      obtain ⟨J11, eJ11, hF⟩ := bnd_ex hF
      refine ga_last C hw t9 b10 eJ11 d_L_takeOver_9 (fun H locs hw => ?_)
      refine lv_goto (tgt := 21) hx hb d_L_takeOver_10 (by decide) ?_
      refine lv_iconst (v := 0) hx hb d_L_takeOver_21 (by decide) ?_
      exact hret _ _ _ _ _ _ _ _ _ (Option.some.inj hF) d_L_takeOver_22 (Nat.le_of_ble_eq_true rfl) (Nat.le_of_ble_eq_true rfl) hw
  refine key _ (fun pc cells slots ls H locs x I1 J1 he hd hc hs hw => ?_)
  · cases he
    exact W.widen hc hs (W.iret hx hb hr (fun t ht _ => ⟨⟨_, (), rfl, rfl, ga_o hw ht⟩, hw.2.2.2.1.F ht⟩) hw.2.2.2.1.2.2 hd)
set_option maxHeartbeats 4000000 in
set_option maxRecDepth 100000 in
theorem c_L_crash (l : Launch) (D : va_G) (T : Nat → ClassId) (z : Nat) (L : List Nat) {S : gS} {I : gMI} {J : gMJ} {p0 : Nat} {p1 : Int32} {p2 : Nat} {r : Int32} {RI : gMI} {RJ : gMJ} (hl9 : l.stackTraces = false) (hF : f_L_crash S I J p0 p1 p2 = some (r, RI, RJ)) : ga_Wi l y_L_crash method_14_code 4 (Option.some Jvm.ClassFile.FieldType.int) [((0 : Nat), (9 : Nat), (12 : Nat), (13 : Nat))] rm_L_crash [.ref p0, .int p1, .ref p2] D T z L S I J r RI RJ := by
  refine va_MetW (cc := method_14_code) (maxL := 4) (ret := (Option.some Jvm.ClassFile.FieldType.int)) (by decide) rfl ?_
  intro p e s m args below meth c s₁ B hml hv
  obtain ⟨ha, hv⟩ := hv
  have hx := B.exec
  have hb := B.bytes
  have hr := B.returns
  have hts := atoms_spec (ws := .codeWith y_L_crash method_14_code 4 (Option.some Jvm.ClassFile.FieldType.int) [((0 : Nat), (9 : Nat), (12 : Nat), (13 : Nat))] :: ga_ws) B.pre
  have htab := vx_table (x := y_L_crash) B (hts _ List.mem_cons_self)
  have hown : s.vm.findClass "RankHouseLaw" = some m.cls := findClass_of_methodNamed B.named
  have hlocks := B.notSynchronized
  have C : CallFix p m c method_14_code 4 s args ga_ws "RankHouseLaw" := ⟨hx, hb, hml, hown, fun w h => hts w (List.mem_cons_of_mem _ h)⟩
  have hw := ga_start hv
  have hl := lv_entry ([.ref p0, .int p1, .ref p2]) (n := 4) (Nat.le_of_ble_eq_true rfl)
  rw [show entryFrame m args 4 = entryFrame m ([.ref p0, .int p1, .ref p2] : List Value).toArray 4 by rw [ha], lg_entry_eq]
  generalize (lg_sl ([.ref p0, .int p1, .ref p2]) ++ List.replicate (4 - (lg_sl ([.ref p0, .int p1, .ref p2])).length) Slot.unset).toArray = ls at hl ⊢
  have hl : lv_has ls 4 [(0, .ref p0), (1, .int p1), (2, .ref p2)] := hl
  have key : ∀ Q : State → Prop, (∀ (pc cells slots : Nat) (ls : Array Slot) (H : Heap) (locs : List Loc) (x : Int32) (I1 : gMI) (J1 : gMJ), (x, I1, J1) = (r, RI, RJ) → decode method_14_code pc = .ok (.ireturn, 1) → cells ≤ rm_L_crash.cells → slots ≤ rm_L_crash.slots → ga_W D T z L S I1 J1 s H locs → W p l e rm_L_crash s m args below meth c H locs cells slots Q (F0 m pc ls [.int x])) → W p l e rm_L_crash s m args below meth c s.heap [] 0 0 Q (F0 m 0 ls []) := by
    intro Q hret
    rw [f_L_crash] at hF
    refine lv_aload_n hx hb d_L_crash_0 rfl (lv_at hl 2 rfl) ?_
    refine lv_iconst (v := 0) hx hb d_L_crash_1 (by decide) ?_
    refine lv_aload_n hx hb d_L_crash_2 rfl (lv_at hl 0 rfl) ?_
    refine lv_iload_n hx hb d_L_crash_3 rfl (lv_at hl 1 rfl) ?_
    obtain ⟨t1, hF⟩ := gd_ex hF
    obtain ⟨e2, x3, I4, c5, hF⟩ := bd3_ex hF
    refine ga_xVi (As := [.int p1]) C hw (c_H_crash l D T z L hl9 c5) gy_L_53 t1 rfl hl.1 ⟨Nat.le_of_ble_eq_true rfl, Nat.le_of_ble_eq_true rfl, Nat.le_of_ble_eq_true rfl, Nat.le_of_ble_eq_true rfl⟩ (Nat.le_of_ble_eq_true rfl) rfl d_L_crash_4 (fun hne ce q9 H locs hw hce hcv hcl => ?_) (fun h0 H locs hw => ?_)
    · rw [if_neg hne] at hF
      by_cases h6 : e2 = 1
      · rw [if_pos h6] at hF
        rw [h6] at hcl
        refine vx_catch (own := "RankHouseLaw") (E := "java/lang/IndexOutOfBoundsException") (name := "java/lang/IndexOutOfBoundsException") C.2.2.2.1 [] (⟨0, 9, 12, 13⟩ : ExceptionTableEntry) [] htab (fun _ h => absurd h List.not_mem_nil) (by decide) (by decide) (C.2.2.2.2 _ gw_146) (va_Nw.use rfl (hw.2.2.2.2.2.2.2.2.2.2.1 ("java/lang/IndexOutOfBoundsException", "java/lang/IndexOutOfBoundsException") (by decide))) hce hcv hcl ?_
        show W _ _ _ _ _ _ _ _ _ _ _ _ _ _ _ (F0 _ 12 _ _)
        refine lv_astore_n hx hb d_L_crash_12 rfl hl (by decide) rfl (fun ls hl => ?_)
        have hl : lv_has ls 4 [(3, .ref q9), (0, .ref p0), (1, .int p1), (2, .ref p2)] := hl
        refine lv_iconst (v := 1) hx hb d_L_crash_13 (by decide) ?_
        exact hret _ _ _ _ _ _ _ _ _ (Option.some.inj hF) d_L_crash_14 (Nat.le_of_ble_eq_true rfl) (Nat.le_of_ble_eq_true rfl) hw
      · rw [if_neg h6] at hF
        cases hF
    · rw [if_pos h0] at hF
      refine lv_i2l hx hb d_L_crash_7 rfl ?_
      obtain ⟨t7, hF⟩ := gd_ex hF
      obtain ⟨b8, hF⟩ := gd_ex hF
      obtain ⟨J9, eJ9, hF⟩ := bnd_ex hF
      refine ga_last C hw t7 b8 eJ9 d_L_crash_8 (fun H locs hw => ?_)
      refine lv_goto (tgt := 15) hx hb d_L_crash_9 (by decide) ?_
      refine lv_iconst (v := 0) hx hb d_L_crash_15 (by decide) ?_
      exact hret _ _ _ _ _ _ _ _ _ (Option.some.inj hF) d_L_crash_16 (Nat.le_of_ble_eq_true rfl) (Nat.le_of_ble_eq_true rfl) hw
  refine key _ (fun pc cells slots ls H locs x I1 J1 he hd hc hs hw => ?_)
  · cases he
    exact W.widen hc hs (W.iret hx hb hr (fun t ht _ => ⟨⟨_, (), rfl, rfl, ga_o hw ht⟩, hw.2.2.2.1.F ht⟩) hw.2.2.2.1.2.2 hd)
set_option maxHeartbeats 4000000 in
set_option maxRecDepth 100000 in
theorem c_L_restart (l : Launch) (D : va_G) (T : Nat → ClassId) (z : Nat) (L : List Nat) {S : gS} {I : gMI} {J : gMJ} {p0 : Nat} {p1 : Int32} {r : Int32} {RI : gMI} (hl9 : l.stackTraces = false) (hF : f_L_restart S I J p0 p1 = some (r, RI)) : ga_Wi l y_L_restart method_15_code 3 (Option.some Jvm.ClassFile.FieldType.int) [((0 : Nat), (5 : Nat), (8 : Nat), (13 : Nat))] rm_L_restart [.ref p0, .int p1] D T z L S I J r RI J := by
  refine va_MetW (cc := method_15_code) (maxL := 3) (ret := (Option.some Jvm.ClassFile.FieldType.int)) (by decide) rfl ?_
  intro p e s m args below meth c s₁ B hml hv
  obtain ⟨ha, hv⟩ := hv
  have hx := B.exec
  have hb := B.bytes
  have hr := B.returns
  have hts := atoms_spec (ws := .codeWith y_L_restart method_15_code 3 (Option.some Jvm.ClassFile.FieldType.int) [((0 : Nat), (5 : Nat), (8 : Nat), (13 : Nat))] :: ga_ws) B.pre
  have htab := vx_table (x := y_L_restart) B (hts _ List.mem_cons_self)
  have hown : s.vm.findClass "RankHouseLaw" = some m.cls := findClass_of_methodNamed B.named
  have hlocks := B.notSynchronized
  have C : CallFix p m c method_15_code 3 s args ga_ws "RankHouseLaw" := ⟨hx, hb, hml, hown, fun w h => hts w (List.mem_cons_of_mem _ h)⟩
  have hw := ga_start hv
  have hl := lv_entry ([.ref p0, .int p1]) (n := 3) (Nat.le_of_ble_eq_true rfl)
  rw [show entryFrame m args 3 = entryFrame m ([.ref p0, .int p1] : List Value).toArray 3 by rw [ha], lg_entry_eq]
  generalize (lg_sl ([.ref p0, .int p1]) ++ List.replicate (3 - (lg_sl ([.ref p0, .int p1])).length) Slot.unset).toArray = ls at hl ⊢
  have hl : lv_has ls 3 [(0, .ref p0), (1, .int p1)] := hl
  have key : ∀ Q : State → Prop, (∀ (pc cells slots : Nat) (ls : Array Slot) (H : Heap) (locs : List Loc) (x : Int32) (I1 : gMI), (x, I1) = (r, RI) → decode method_15_code pc = .ok (.ireturn, 1) → cells ≤ rm_L_restart.cells → slots ≤ rm_L_restart.slots → ga_W D T z L S I1 J s H locs → W p l e rm_L_restart s m args below meth c H locs cells slots Q (F0 m pc ls [.int x])) → W p l e rm_L_restart s m args below meth c s.heap [] 0 0 Q (F0 m 0 ls []) := by
    intro Q hret
    rw [f_L_restart] at hF
    refine lv_aload_n hx hb d_L_restart_0 rfl (lv_at hl 0 rfl) ?_
    refine lv_iload_n hx hb d_L_restart_1 rfl (lv_at hl 1 rfl) ?_
    obtain ⟨t1, hF⟩ := gd_ex hF
    obtain ⟨e2, I3, c4, hF⟩ := bd2_ex hF
    refine ga_xVv (As := [.int p1]) C hw (c_H_restart l D T z L hl9 c4) gy_L_56 t1 rfl hl.1 ⟨Nat.le_of_ble_eq_true rfl, Nat.le_of_ble_eq_true rfl, Nat.le_of_ble_eq_true rfl, Nat.le_of_ble_eq_true rfl⟩ (Nat.le_of_ble_eq_true rfl) rfl d_L_restart_2 (fun hne ce q9 H locs hw hce hcv hcl => ?_) (fun h0 H locs hw => ?_)
    · rw [if_neg hne] at hF
      by_cases h5 : e2 = 1
      · rw [if_pos h5] at hF
        rw [h5] at hcl
        refine vx_catch (own := "RankHouseLaw") (E := "java/lang/IndexOutOfBoundsException") (name := "java/lang/IndexOutOfBoundsException") C.2.2.2.1 [] (⟨0, 5, 8, 13⟩ : ExceptionTableEntry) [] htab (fun _ h => absurd h List.not_mem_nil) (by decide) (by decide) (C.2.2.2.2 _ gw_146) (va_Nw.use rfl (hw.2.2.2.2.2.2.2.2.2.2.1 ("java/lang/IndexOutOfBoundsException", "java/lang/IndexOutOfBoundsException") (by decide))) hce hcv hcl ?_
        show W _ _ _ _ _ _ _ _ _ _ _ _ _ _ _ (F0 _ 8 _ _)
        refine lv_astore_n hx hb d_L_restart_8 rfl hl (by decide) rfl (fun ls hl => ?_)
        have hl : lv_has ls 3 [(2, .ref q9), (0, .ref p0), (1, .int p1)] := hl
        refine lv_iconst (v := 1) hx hb d_L_restart_9 (by decide) ?_
        exact hret _ _ _ _ _ _ _ _ (Option.some.inj hF) d_L_restart_10 (Nat.le_of_ble_eq_true rfl) (Nat.le_of_ble_eq_true rfl) hw
      · rw [if_neg h5] at hF
        cases hF
    · rw [if_pos h0] at hF
      refine lv_goto (tgt := 11) hx hb d_L_restart_5 (by decide) ?_
      refine lv_iconst (v := 0) hx hb d_L_restart_11 (by decide) ?_
      exact hret _ _ _ _ _ _ _ _ (Option.some.inj hF) d_L_restart_12 (Nat.le_of_ble_eq_true rfl) (Nat.le_of_ble_eq_true rfl) hw
  refine key _ (fun pc cells slots ls H locs x I1 he hd hc hs hw => ?_)
  · cases he
    exact W.widen hc hs (W.iret hx hb hr (fun t ht _ => ⟨⟨_, (), rfl, rfl, ga_o hw ht⟩, hw.2.2.2.1.F ht⟩) hw.2.2.2.1.2.2 hd)
set_option maxHeartbeats 4000000 in
set_option maxRecDepth 100000 in
theorem c_L_state (l : Launch) (D : va_G) (T : Nat → ClassId) (z : Nat) (L : List Nat) {S : gS} {I : gMI} {J : gMJ} {p0 : Nat} {p1 : Int32} {p2 : Nat} {r : Int32} {RJ : gMJ} (hl9 : l.stackTraces = false) (hF : f_L_state S I J p0 p1 p2 = some (r, RJ)) : ga_Wi l y_L_state method_16_code 4 (Option.some Jvm.ClassFile.FieldType.int) [((0 : Nat), (9 : Nat), (12 : Nat), (13 : Nat))] rm_L_state [.ref p0, .int p1, .ref p2] D T z L S I J r I RJ := by
  refine va_MetW (cc := method_16_code) (maxL := 4) (ret := (Option.some Jvm.ClassFile.FieldType.int)) (by decide) rfl ?_
  intro p e s m args below meth c s₁ B hml hv
  obtain ⟨ha, hv⟩ := hv
  have hx := B.exec
  have hb := B.bytes
  have hr := B.returns
  have hts := atoms_spec (ws := .codeWith y_L_state method_16_code 4 (Option.some Jvm.ClassFile.FieldType.int) [((0 : Nat), (9 : Nat), (12 : Nat), (13 : Nat))] :: ga_ws) B.pre
  have htab := vx_table (x := y_L_state) B (hts _ List.mem_cons_self)
  have hown : s.vm.findClass "RankHouseLaw" = some m.cls := findClass_of_methodNamed B.named
  have hlocks := B.notSynchronized
  have C : CallFix p m c method_16_code 4 s args ga_ws "RankHouseLaw" := ⟨hx, hb, hml, hown, fun w h => hts w (List.mem_cons_of_mem _ h)⟩
  have hw := ga_start hv
  have hl := lv_entry ([.ref p0, .int p1, .ref p2]) (n := 4) (Nat.le_of_ble_eq_true rfl)
  rw [show entryFrame m args 4 = entryFrame m ([.ref p0, .int p1, .ref p2] : List Value).toArray 4 by rw [ha], lg_entry_eq]
  generalize (lg_sl ([.ref p0, .int p1, .ref p2]) ++ List.replicate (4 - (lg_sl ([.ref p0, .int p1, .ref p2])).length) Slot.unset).toArray = ls at hl ⊢
  have hl : lv_has ls 4 [(0, .ref p0), (1, .int p1), (2, .ref p2)] := hl
  have key : ∀ Q : State → Prop, (∀ (pc cells slots : Nat) (ls : Array Slot) (H : Heap) (locs : List Loc) (x : Int32) (J1 : gMJ), (x, J1) = (r, RJ) → decode method_16_code pc = .ok (.ireturn, 1) → cells ≤ rm_L_state.cells → slots ≤ rm_L_state.slots → ga_W D T z L S I J1 s H locs → W p l e rm_L_state s m args below meth c H locs cells slots Q (F0 m pc ls [.int x])) → W p l e rm_L_state s m args below meth c s.heap [] 0 0 Q (F0 m 0 ls []) := by
    intro Q hret
    rw [f_L_state] at hF
    refine lv_aload_n hx hb d_L_state_0 rfl (lv_at hl 2 rfl) ?_
    refine lv_iconst (v := 0) hx hb d_L_state_1 (by decide) ?_
    refine lv_aload_n hx hb d_L_state_2 rfl (lv_at hl 0 rfl) ?_
    refine lv_iload_n hx hb d_L_state_3 rfl (lv_at hl 1 rfl) ?_
    obtain ⟨t1, hF⟩ := gd_ex hF
    obtain ⟨e2, x3, c4, hF⟩ := bd2_ex hF
    refine ga_xVi (As := [.int p1]) C hw (c_H_state l D T z L hl9 c4) gy_L_60 t1 rfl hl.1 ⟨Nat.le_of_ble_eq_true rfl, Nat.le_of_ble_eq_true rfl, Nat.le_of_ble_eq_true rfl, Nat.le_of_ble_eq_true rfl⟩ (Nat.le_of_ble_eq_true rfl) rfl d_L_state_4 (fun hne ce q9 H locs hw hce hcv hcl => ?_) (fun h0 H locs hw => ?_)
    · rw [if_neg hne] at hF
      by_cases h5 : e2 = 1
      · rw [if_pos h5] at hF
        rw [h5] at hcl
        refine vx_catch (own := "RankHouseLaw") (E := "java/lang/IndexOutOfBoundsException") (name := "java/lang/IndexOutOfBoundsException") C.2.2.2.1 [] (⟨0, 9, 12, 13⟩ : ExceptionTableEntry) [] htab (fun _ h => absurd h List.not_mem_nil) (by decide) (by decide) (C.2.2.2.2 _ gw_146) (va_Nw.use rfl (hw.2.2.2.2.2.2.2.2.2.2.1 ("java/lang/IndexOutOfBoundsException", "java/lang/IndexOutOfBoundsException") (by decide))) hce hcv hcl ?_
        show W _ _ _ _ _ _ _ _ _ _ _ _ _ _ _ (F0 _ 12 _ _)
        refine lv_astore_n hx hb d_L_state_12 rfl hl (by decide) rfl (fun ls hl => ?_)
        have hl : lv_has ls 4 [(3, .ref q9), (0, .ref p0), (1, .int p1), (2, .ref p2)] := hl
        refine lv_iconst (v := 1) hx hb d_L_state_13 (by decide) ?_
        exact hret _ _ _ _ _ _ _ _ (Option.some.inj hF) d_L_state_14 (Nat.le_of_ble_eq_true rfl) (Nat.le_of_ble_eq_true rfl) hw
      · rw [if_neg h5] at hF
        cases hF
    · rw [if_pos h0] at hF
      refine lv_i2l hx hb d_L_state_7 rfl ?_
      obtain ⟨t6, hF⟩ := gd_ex hF
      obtain ⟨b7, hF⟩ := gd_ex hF
      obtain ⟨J8, eJ8, hF⟩ := bnd_ex hF
      refine ga_last C hw t6 b7 eJ8 d_L_state_8 (fun H locs hw => ?_)
      refine lv_goto (tgt := 15) hx hb d_L_state_9 (by decide) ?_
      refine lv_iconst (v := 0) hx hb d_L_state_15 (by decide) ?_
      exact hret _ _ _ _ _ _ _ _ (Option.some.inj hF) d_L_state_16 (Nat.le_of_ble_eq_true rfl) (Nat.le_of_ble_eq_true rfl) hw
  refine key _ (fun pc cells slots ls H locs x J1 he hd hc hs hw => ?_)
  · cases he
    exact W.widen hc hs (W.iret hx hb hr (fun t ht _ => ⟨⟨_, (), rfl, rfl, ga_o hw ht⟩, hw.2.2.2.1.F ht⟩) hw.2.2.2.1.2.2 hd)
set_option maxHeartbeats 4000000 in
set_option maxRecDepth 100000 in
theorem c_L_answer (l : Launch) (D : va_G) (T : Nat → ClassId) (z : Nat) (L : List Nat) {S : gS} {I : gMI} {J : gMJ} {p0 : Nat} {p1 : Int32} {p2 : Nat} {r : Int32} {RJ : gMJ} (hl9 : l.stackTraces = false) (hF : f_L_answer S I J p0 p1 p2 = some (r, RJ)) : ga_Wi l y_L_answer method_17_code 4 (Option.some Jvm.ClassFile.FieldType.int) [((0 : Nat), (8 : Nat), (11 : Nat), (13 : Nat)), ((0 : Nat), (8 : Nat), (14 : Nat), (15 : Nat))] rm_L_answer [.ref p0, .int p1, .ref p2] D T z L S I J r I RJ := by
  refine va_MetW (cc := method_17_code) (maxL := 4) (ret := (Option.some Jvm.ClassFile.FieldType.int)) (by decide) rfl ?_
  intro p e s m args below meth c s₁ B hml hv
  obtain ⟨ha, hv⟩ := hv
  have hx := B.exec
  have hb := B.bytes
  have hr := B.returns
  have hts := atoms_spec (ws := .codeWith y_L_answer method_17_code 4 (Option.some Jvm.ClassFile.FieldType.int) [((0 : Nat), (8 : Nat), (11 : Nat), (13 : Nat)), ((0 : Nat), (8 : Nat), (14 : Nat), (15 : Nat))] :: ga_ws) B.pre
  have htab := vx_table (x := y_L_answer) B (hts _ List.mem_cons_self)
  have hown : s.vm.findClass "RankHouseLaw" = some m.cls := findClass_of_methodNamed B.named
  have hlocks := B.notSynchronized
  have C : CallFix p m c method_17_code 4 s args ga_ws "RankHouseLaw" := ⟨hx, hb, hml, hown, fun w h => hts w (List.mem_cons_of_mem _ h)⟩
  have hw := ga_start hv
  have hl := lv_entry ([.ref p0, .int p1, .ref p2]) (n := 4) (Nat.le_of_ble_eq_true rfl)
  rw [show entryFrame m args 4 = entryFrame m ([.ref p0, .int p1, .ref p2] : List Value).toArray 4 by rw [ha], lg_entry_eq]
  generalize (lg_sl ([.ref p0, .int p1, .ref p2]) ++ List.replicate (4 - (lg_sl ([.ref p0, .int p1, .ref p2])).length) Slot.unset).toArray = ls at hl ⊢
  have hl : lv_has ls 4 [(0, .ref p0), (1, .int p1), (2, .ref p2)] := hl
  have key : ∀ Q : State → Prop, (∀ (pc cells slots : Nat) (ls : Array Slot) (H : Heap) (locs : List Loc) (x : Int32) (J1 : gMJ), (x, J1) = (r, RJ) → decode method_17_code pc = .ok (.ireturn, 1) → cells ≤ rm_L_answer.cells → slots ≤ rm_L_answer.slots → ga_W D T z L S I J1 s H locs → W p l e rm_L_answer s m args below meth c H locs cells slots Q (F0 m pc ls [.int x])) → W p l e rm_L_answer s m args below meth c s.heap [] 0 0 Q (F0 m 0 ls []) := by
    intro Q hret
    rw [f_L_answer] at hF
    refine lv_aload_n hx hb d_L_answer_0 rfl (lv_at hl 2 rfl) ?_
    refine lv_iconst (v := 0) hx hb d_L_answer_1 (by decide) ?_
    refine lv_aload_n hx hb d_L_answer_2 rfl (lv_at hl 0 rfl) ?_
    refine lv_iload_n hx hb d_L_answer_3 rfl (lv_at hl 1 rfl) ?_
    obtain ⟨t1, hF⟩ := gd_ex hF
    obtain ⟨e2, x3, c4, hF⟩ := bd2_ex hF
    refine ga_xVl (As := [.int p1]) C hw (c_H_answer l D T z L hl9 c4) gy_L_63 t1 rfl hl.1 ⟨Nat.le_of_ble_eq_true rfl, Nat.le_of_ble_eq_true rfl, Nat.le_of_ble_eq_true rfl, Nat.le_of_ble_eq_true rfl⟩ (Nat.le_of_ble_eq_true rfl) rfl d_L_answer_4 (fun hne ce q9 H locs hw hce hcv hcl => ?_) (fun h0 H locs hw => ?_)
    · rw [if_neg hne] at hF
      by_cases h5 : e2 = 1
      · rw [if_pos h5] at hF
        rw [h5] at hcl
        refine vx_catch (own := "RankHouseLaw") (E := "java/lang/IndexOutOfBoundsException") (name := "java/lang/IndexOutOfBoundsException") C.2.2.2.1 [] (⟨0, 8, 11, 13⟩ : ExceptionTableEntry) [(⟨0, 8, 14, 15⟩ : ExceptionTableEntry)] htab (fun _ h => absurd h List.not_mem_nil) (by decide) (by decide) (C.2.2.2.2 _ gw_146) (va_Nw.use rfl (hw.2.2.2.2.2.2.2.2.2.2.1 ("java/lang/IndexOutOfBoundsException", "java/lang/IndexOutOfBoundsException") (by decide))) hce hcv hcl ?_
        show W _ _ _ _ _ _ _ _ _ _ _ _ _ _ _ (F0 _ 11 _ _)
        refine lv_astore_n hx hb d_L_answer_11 rfl hl (by decide) rfl (fun ls hl => ?_)
        have hl : lv_has ls 4 [(3, .ref q9), (0, .ref p0), (1, .int p1), (2, .ref p2)] := hl
        refine lv_iconst (v := 1) hx hb d_L_answer_12 (by decide) ?_
        exact hret _ _ _ _ _ _ _ _ (Option.some.inj hF) d_L_answer_13 (Nat.le_of_ble_eq_true rfl) (Nat.le_of_ble_eq_true rfl) hw
      · rw [if_neg h5] at hF
        by_cases h6 : e2 = 3
        · rw [if_pos h6] at hF
          rw [h6] at hcl
          refine vx_catch (own := "RankHouseLaw") (E := "java/lang/IllegalStateException") (name := "java/lang/IllegalStateException") C.2.2.2.1 [(⟨0, 8, 11, 13⟩ : ExceptionTableEntry)] (⟨0, 8, 14, 15⟩ : ExceptionTableEntry) [] htab (List.forall_mem_cons.mpr ⟨Or.inr ⟨by decide, "java/lang/IndexOutOfBoundsException", C.2.2.2.2 _ gw_146, hw.2.2.2.2.2.2.2.2.2.2.2.1 ("java/lang/IllegalStateException", "java/lang/IndexOutOfBoundsException") (by decide)⟩, fun _ h => absurd h List.not_mem_nil⟩) (by decide) (by decide) (C.2.2.2.2 _ gw_147) (va_Nw.use rfl (hw.2.2.2.2.2.2.2.2.2.2.1 ("java/lang/IllegalStateException", "java/lang/IllegalStateException") (by decide))) hce hcv hcl ?_
          show W _ _ _ _ _ _ _ _ _ _ _ _ _ _ _ (F0 _ 14 _ _)
          refine lv_astore_n hx hb d_L_answer_14 rfl hl (by decide) rfl (fun ls hl => ?_)
          have hl : lv_has ls 4 [(3, .ref q9), (0, .ref p0), (1, .int p1), (2, .ref p2)] := hl
          refine lv_iconst (v := 2) hx hb d_L_answer_15 (by decide) ?_
          exact hret _ _ _ _ _ _ _ _ (Option.some.inj hF) d_L_answer_16 (Nat.le_of_ble_eq_true rfl) (Nat.le_of_ble_eq_true rfl) hw
        · rw [if_neg h6] at hF
          cases hF
    · rw [if_pos h0] at hF
      obtain ⟨t7, hF⟩ := gd_ex hF
      obtain ⟨b8, hF⟩ := gd_ex hF
      obtain ⟨J9, eJ9, hF⟩ := bnd_ex hF
      refine ga_last C hw t7 b8 eJ9 d_L_answer_7 (fun H locs hw => ?_)
      refine lv_goto (tgt := 17) hx hb d_L_answer_8 (by decide) ?_
      refine lv_iconst (v := 0) hx hb d_L_answer_17 (by decide) ?_
      exact hret _ _ _ _ _ _ _ _ (Option.some.inj hF) d_L_answer_18 (Nat.le_of_ble_eq_true rfl) (Nat.le_of_ble_eq_true rfl) hw
  refine key _ (fun pc cells slots ls H locs x J1 he hd hc hs hw => ?_)
  · cases he
    exact W.widen hc hs (W.iret hx hb hr (fun t ht _ => ⟨⟨_, (), rfl, rfl, ga_o hw ht⟩, hw.2.2.2.1.F ht⟩) hw.2.2.2.1.2.2 hd)
set_option maxHeartbeats 4000000 in
set_option maxRecDepth 100000 in
theorem c_L_found (l : Launch) (D : va_G) (T : Nat → ClassId) (z : Nat) (L : List Nat) {S : gS} {I : gMI} {J : gMJ} {p0 : Nat} {p1 : Int32} {p2 : Int32} {p3 : Nat} {r : Int32} {RJ : gMJ} (hl9 : l.stackTraces = false) (hF : f_L_found S I J p0 p1 p2 p3 = some (r, RJ)) : ga_Wi l y_L_found method_18_code 5 (Option.some Jvm.ClassFile.FieldType.int) [((0 : Nat), (10 : Nat), (13 : Nat), (13 : Nat)), ((0 : Nat), (10 : Nat), (17 : Nat), (15 : Nat))] rm_L_found [.ref p0, .int p1, .int p2, .ref p3] D T z L S I J r I RJ := by
  refine va_MetW (cc := method_18_code) (maxL := 5) (ret := (Option.some Jvm.ClassFile.FieldType.int)) (by decide) rfl ?_
  intro p e s m args below meth c s₁ B hml hv
  obtain ⟨ha, hv⟩ := hv
  have hx := B.exec
  have hb := B.bytes
  have hr := B.returns
  have hts := atoms_spec (ws := .codeWith y_L_found method_18_code 5 (Option.some Jvm.ClassFile.FieldType.int) [((0 : Nat), (10 : Nat), (13 : Nat), (13 : Nat)), ((0 : Nat), (10 : Nat), (17 : Nat), (15 : Nat))] :: ga_ws) B.pre
  have htab := vx_table (x := y_L_found) B (hts _ List.mem_cons_self)
  have hown : s.vm.findClass "RankHouseLaw" = some m.cls := findClass_of_methodNamed B.named
  have hlocks := B.notSynchronized
  have C : CallFix p m c method_18_code 5 s args ga_ws "RankHouseLaw" := ⟨hx, hb, hml, hown, fun w h => hts w (List.mem_cons_of_mem _ h)⟩
  have hw := ga_start hv
  have hl := lv_entry ([.ref p0, .int p1, .int p2, .ref p3]) (n := 5) (Nat.le_of_ble_eq_true rfl)
  rw [show entryFrame m args 5 = entryFrame m ([.ref p0, .int p1, .int p2, .ref p3] : List Value).toArray 5 by rw [ha], lg_entry_eq]
  generalize (lg_sl ([.ref p0, .int p1, .int p2, .ref p3]) ++ List.replicate (5 - (lg_sl ([.ref p0, .int p1, .int p2, .ref p3])).length) Slot.unset).toArray = ls at hl ⊢
  have hl : lv_has ls 5 [(0, .ref p0), (1, .int p1), (2, .int p2), (3, .ref p3)] := hl
  have key : ∀ Q : State → Prop, (∀ (pc cells slots : Nat) (ls : Array Slot) (H : Heap) (locs : List Loc) (x : Int32) (J1 : gMJ), (x, J1) = (r, RJ) → decode method_18_code pc = .ok (.ireturn, 1) → cells ≤ rm_L_found.cells → slots ≤ rm_L_found.slots → ga_W D T z L S I J1 s H locs → W p l e rm_L_found s m args below meth c H locs cells slots Q (F0 m pc ls [.int x])) → W p l e rm_L_found s m args below meth c s.heap [] 0 0 Q (F0 m 0 ls []) := by
    intro Q hret
    rw [f_L_found] at hF
    refine lv_aload_n hx hb d_L_found_0 rfl (lv_at hl 3 rfl) ?_
    refine lv_iconst (v := 0) hx hb d_L_found_1 (by decide) ?_
    refine lv_aload_n hx hb d_L_found_2 rfl (lv_at hl 0 rfl) ?_
    refine lv_iload_n hx hb d_L_found_3 rfl (lv_at hl 1 rfl) ?_
    refine lv_iload_n hx hb d_L_found_4 rfl (lv_at hl 2 rfl) ?_
    obtain ⟨t1, hF⟩ := gd_ex hF
    obtain ⟨e2, x3, c4, hF⟩ := bd2_ex hF
    refine ga_xVi (As := [.int p1, .int p2]) C hw (c_H_found l D T z L hl9 c4) gy_L_67 t1 rfl hl.1 ⟨Nat.le_of_ble_eq_true rfl, Nat.le_of_ble_eq_true rfl, Nat.le_of_ble_eq_true rfl, Nat.le_of_ble_eq_true rfl⟩ (Nat.le_of_ble_eq_true rfl) rfl d_L_found_5 (fun hne ce q9 H locs hw hce hcv hcl => ?_) (fun h0 H locs hw => ?_)
    · rw [if_neg hne] at hF
      by_cases h5 : e2 = 1
      · rw [if_pos h5] at hF
        rw [h5] at hcl
        refine vx_catch (own := "RankHouseLaw") (E := "java/lang/IndexOutOfBoundsException") (name := "java/lang/IndexOutOfBoundsException") C.2.2.2.1 [] (⟨0, 10, 13, 13⟩ : ExceptionTableEntry) [(⟨0, 10, 17, 15⟩ : ExceptionTableEntry)] htab (fun _ h => absurd h List.not_mem_nil) (by decide) (by decide) (C.2.2.2.2 _ gw_146) (va_Nw.use rfl (hw.2.2.2.2.2.2.2.2.2.2.1 ("java/lang/IndexOutOfBoundsException", "java/lang/IndexOutOfBoundsException") (by decide))) hce hcv hcl ?_
        show W _ _ _ _ _ _ _ _ _ _ _ _ _ _ _ (F0 _ 13 _ _)
        refine lv_astore hx hb d_L_found_13 hl (by decide) rfl (fun ls hl => ?_)
        have hl : lv_has ls 5 [(4, .ref q9), (0, .ref p0), (1, .int p1), (2, .int p2), (3, .ref p3)] := hl
        refine lv_iconst (v := 1) hx hb d_L_found_15 (by decide) ?_
        exact hret _ _ _ _ _ _ _ _ (Option.some.inj hF) d_L_found_16 (Nat.le_of_ble_eq_true rfl) (Nat.le_of_ble_eq_true rfl) hw
      · rw [if_neg h5] at hF
        by_cases h6 : e2 = 3
        · rw [if_pos h6] at hF
          rw [h6] at hcl
          refine vx_catch (own := "RankHouseLaw") (E := "java/lang/IllegalStateException") (name := "java/lang/IllegalStateException") C.2.2.2.1 [(⟨0, 10, 13, 13⟩ : ExceptionTableEntry)] (⟨0, 10, 17, 15⟩ : ExceptionTableEntry) [] htab (List.forall_mem_cons.mpr ⟨Or.inr ⟨by decide, "java/lang/IndexOutOfBoundsException", C.2.2.2.2 _ gw_146, hw.2.2.2.2.2.2.2.2.2.2.2.1 ("java/lang/IllegalStateException", "java/lang/IndexOutOfBoundsException") (by decide)⟩, fun _ h => absurd h List.not_mem_nil⟩) (by decide) (by decide) (C.2.2.2.2 _ gw_147) (va_Nw.use rfl (hw.2.2.2.2.2.2.2.2.2.2.1 ("java/lang/IllegalStateException", "java/lang/IllegalStateException") (by decide))) hce hcv hcl ?_
          show W _ _ _ _ _ _ _ _ _ _ _ _ _ _ _ (F0 _ 17 _ _)
          refine lv_astore hx hb d_L_found_17 hl (by decide) rfl (fun ls hl => ?_)
          have hl : lv_has ls 5 [(4, .ref q9), (0, .ref p0), (1, .int p1), (2, .int p2), (3, .ref p3)] := hl
          refine lv_iconst (v := 2) hx hb d_L_found_19 (by decide) ?_
          exact hret _ _ _ _ _ _ _ _ (Option.some.inj hF) d_L_found_20 (Nat.le_of_ble_eq_true rfl) (Nat.le_of_ble_eq_true rfl) hw
        · rw [if_neg h6] at hF
          cases hF
    · rw [if_pos h0] at hF
      refine lv_i2l hx hb d_L_found_8 rfl ?_
      obtain ⟨t7, hF⟩ := gd_ex hF
      obtain ⟨b8, hF⟩ := gd_ex hF
      obtain ⟨J9, eJ9, hF⟩ := bnd_ex hF
      refine ga_last C hw t7 b8 eJ9 d_L_found_9 (fun H locs hw => ?_)
      refine lv_goto (tgt := 21) hx hb d_L_found_10 (by decide) ?_
      refine lv_iconst (v := 0) hx hb d_L_found_21 (by decide) ?_
      exact hret _ _ _ _ _ _ _ _ (Option.some.inj hF) d_L_found_22 (Nat.le_of_ble_eq_true rfl) (Nat.le_of_ble_eq_true rfl) hw
  refine key _ (fun pc cells slots ls H locs x J1 he hd hc hs hw => ?_)
  · cases he
    exact W.widen hc hs (W.iret hx hb hr (fun t ht _ => ⟨⟨_, (), rfl, rfl, ga_o hw ht⟩, hw.2.2.2.1.F ht⟩) hw.2.2.2.1.2.2 hd)
set_option maxHeartbeats 4000000 in
set_option maxRecDepth 100000 in
theorem c_L_about (l : Launch) (D : va_G) (T : Nat → ClassId) (z : Nat) (L : List Nat) {S : gS} {I : gMI} {J : gMJ} {p0 : Nat} {p1 : Int32} {p2 : Int32} {p3 : Nat} {r : Int32} {RJ : gMJ} (hl9 : l.stackTraces = false) (hF : f_L_about S I J p0 p1 p2 p3 = some (r, RJ)) : ga_Wi l y_L_about method_19_code 5 (Option.some Jvm.ClassFile.FieldType.int) [((0 : Nat), (10 : Nat), (13 : Nat), (13 : Nat)), ((0 : Nat), (10 : Nat), (17 : Nat), (21 : Nat))] rm_L_about [.ref p0, .int p1, .int p2, .ref p3] D T z L S I J r I RJ := by
  refine va_MetW (cc := method_19_code) (maxL := 5) (ret := (Option.some Jvm.ClassFile.FieldType.int)) (by decide) rfl ?_
  intro p e s m args below meth c s₁ B hml hv
  obtain ⟨ha, hv⟩ := hv
  have hx := B.exec
  have hb := B.bytes
  have hr := B.returns
  have hts := atoms_spec (ws := .codeWith y_L_about method_19_code 5 (Option.some Jvm.ClassFile.FieldType.int) [((0 : Nat), (10 : Nat), (13 : Nat), (13 : Nat)), ((0 : Nat), (10 : Nat), (17 : Nat), (21 : Nat))] :: ga_ws) B.pre
  have htab := vx_table (x := y_L_about) B (hts _ List.mem_cons_self)
  have hown : s.vm.findClass "RankHouseLaw" = some m.cls := findClass_of_methodNamed B.named
  have hlocks := B.notSynchronized
  have C : CallFix p m c method_19_code 5 s args ga_ws "RankHouseLaw" := ⟨hx, hb, hml, hown, fun w h => hts w (List.mem_cons_of_mem _ h)⟩
  have hw := ga_start hv
  have hl := lv_entry ([.ref p0, .int p1, .int p2, .ref p3]) (n := 5) (Nat.le_of_ble_eq_true rfl)
  rw [show entryFrame m args 5 = entryFrame m ([.ref p0, .int p1, .int p2, .ref p3] : List Value).toArray 5 by rw [ha], lg_entry_eq]
  generalize (lg_sl ([.ref p0, .int p1, .int p2, .ref p3]) ++ List.replicate (5 - (lg_sl ([.ref p0, .int p1, .int p2, .ref p3])).length) Slot.unset).toArray = ls at hl ⊢
  have hl : lv_has ls 5 [(0, .ref p0), (1, .int p1), (2, .int p2), (3, .ref p3)] := hl
  have key : ∀ Q : State → Prop, (∀ (pc cells slots : Nat) (ls : Array Slot) (H : Heap) (locs : List Loc) (x : Int32) (J1 : gMJ), (x, J1) = (r, RJ) → decode method_19_code pc = .ok (.ireturn, 1) → cells ≤ rm_L_about.cells → slots ≤ rm_L_about.slots → ga_W D T z L S I J1 s H locs → W p l e rm_L_about s m args below meth c H locs cells slots Q (F0 m pc ls [.int x])) → W p l e rm_L_about s m args below meth c s.heap [] 0 0 Q (F0 m 0 ls []) := by
    intro Q hret
    rw [f_L_about] at hF
    refine lv_aload_n hx hb d_L_about_0 rfl (lv_at hl 3 rfl) ?_
    refine lv_iconst (v := 0) hx hb d_L_about_1 (by decide) ?_
    refine lv_aload_n hx hb d_L_about_2 rfl (lv_at hl 0 rfl) ?_
    refine lv_iload_n hx hb d_L_about_3 rfl (lv_at hl 1 rfl) ?_
    refine lv_iload_n hx hb d_L_about_4 rfl (lv_at hl 2 rfl) ?_
    obtain ⟨t1, hF⟩ := gd_ex hF
    obtain ⟨e2, x3, c4, hF⟩ := bd2_ex hF
    refine ga_xVi (As := [.int p1, .int p2]) C hw (c_H_about l D T z L hl9 c4) gy_L_71 t1 rfl hl.1 ⟨Nat.le_of_ble_eq_true rfl, Nat.le_of_ble_eq_true rfl, Nat.le_of_ble_eq_true rfl, Nat.le_of_ble_eq_true rfl⟩ (Nat.le_of_ble_eq_true rfl) rfl d_L_about_5 (fun hne ce q9 H locs hw hce hcv hcl => ?_) (fun h0 H locs hw => ?_)
    · rw [if_neg hne] at hF
      by_cases h5 : e2 = 1
      · rw [if_pos h5] at hF
        rw [h5] at hcl
        refine vx_catch (own := "RankHouseLaw") (E := "java/lang/IndexOutOfBoundsException") (name := "java/lang/IndexOutOfBoundsException") C.2.2.2.1 [] (⟨0, 10, 13, 13⟩ : ExceptionTableEntry) [(⟨0, 10, 17, 21⟩ : ExceptionTableEntry)] htab (fun _ h => absurd h List.not_mem_nil) (by decide) (by decide) (C.2.2.2.2 _ gw_146) (va_Nw.use rfl (hw.2.2.2.2.2.2.2.2.2.2.1 ("java/lang/IndexOutOfBoundsException", "java/lang/IndexOutOfBoundsException") (by decide))) hce hcv hcl ?_
        show W _ _ _ _ _ _ _ _ _ _ _ _ _ _ _ (F0 _ 13 _ _)
        refine lv_astore hx hb d_L_about_13 hl (by decide) rfl (fun ls hl => ?_)
        have hl : lv_has ls 5 [(4, .ref q9), (0, .ref p0), (1, .int p1), (2, .int p2), (3, .ref p3)] := hl
        refine lv_iconst (v := 1) hx hb d_L_about_15 (by decide) ?_
        exact hret _ _ _ _ _ _ _ _ (Option.some.inj hF) d_L_about_16 (Nat.le_of_ble_eq_true rfl) (Nat.le_of_ble_eq_true rfl) hw
      · rw [if_neg h5] at hF
        by_cases h6 : e2 = 2
        · rw [if_pos h6] at hF
          rw [h6] at hcl
          refine vx_catch (own := "RankHouseLaw") (E := "java/lang/IllegalArgumentException") (name := "java/lang/IllegalArgumentException") C.2.2.2.1 [(⟨0, 10, 13, 13⟩ : ExceptionTableEntry)] (⟨0, 10, 17, 21⟩ : ExceptionTableEntry) [] htab (List.forall_mem_cons.mpr ⟨Or.inr ⟨by decide, "java/lang/IndexOutOfBoundsException", C.2.2.2.2 _ gw_146, hw.2.2.2.2.2.2.2.2.2.2.2.1 ("java/lang/IllegalArgumentException", "java/lang/IndexOutOfBoundsException") (by decide)⟩, fun _ h => absurd h List.not_mem_nil⟩) (by decide) (by decide) (C.2.2.2.2 _ gw_264) (va_Nw.use rfl (hw.2.2.2.2.2.2.2.2.2.2.1 ("java/lang/IllegalArgumentException", "java/lang/IllegalArgumentException") (by decide))) hce hcv hcl ?_
          show W _ _ _ _ _ _ _ _ _ _ _ _ _ _ _ (F0 _ 17 _ _)
          refine lv_astore hx hb d_L_about_17 hl (by decide) rfl (fun ls hl => ?_)
          have hl : lv_has ls 5 [(4, .ref q9), (0, .ref p0), (1, .int p1), (2, .int p2), (3, .ref p3)] := hl
          refine lv_iconst (v := 2) hx hb d_L_about_19 (by decide) ?_
          exact hret _ _ _ _ _ _ _ _ (Option.some.inj hF) d_L_about_20 (Nat.le_of_ble_eq_true rfl) (Nat.le_of_ble_eq_true rfl) hw
        · rw [if_neg h6] at hF
          cases hF
    · rw [if_pos h0] at hF
      refine lv_i2l hx hb d_L_about_8 rfl ?_
      obtain ⟨t7, hF⟩ := gd_ex hF
      obtain ⟨b8, hF⟩ := gd_ex hF
      obtain ⟨J9, eJ9, hF⟩ := bnd_ex hF
      refine ga_last C hw t7 b8 eJ9 d_L_about_9 (fun H locs hw => ?_)
      refine lv_goto (tgt := 21) hx hb d_L_about_10 (by decide) ?_
      refine lv_iconst (v := 0) hx hb d_L_about_21 (by decide) ?_
      exact hret _ _ _ _ _ _ _ _ (Option.some.inj hF) d_L_about_22 (Nat.le_of_ble_eq_true rfl) (Nat.le_of_ble_eq_true rfl) hw
  refine key _ (fun pc cells slots ls H locs x J1 he hd hc hs hw => ?_)
  · cases he
    exact W.widen hc hs (W.iret hx hb hr (fun t ht _ => ⟨⟨_, (), rfl, rfl, ga_o hw ht⟩, hw.2.2.2.1.F ht⟩) hw.2.2.2.1.2.2 hd)
set_option maxHeartbeats 4000000 in
set_option maxRecDepth 100000 in
theorem c_L_mark (l : Launch) (D : va_G) (T : Nat → ClassId) (z : Nat) (L : List Nat) {S : gS} {I : gMI} {J : gMJ} {p0 : Nat} {p1 : Int32} {p2 : Int32} {p3 : Nat} {r : Int32} {RJ : gMJ} (hl9 : l.stackTraces = false) (hF : f_L_mark S I J p0 p1 p2 p3 = some (r, RJ)) : ga_Wi l y_L_mark method_20_code 5 (Option.some Jvm.ClassFile.FieldType.int) [((0 : Nat), (10 : Nat), (13 : Nat), (13 : Nat))] rm_L_mark [.ref p0, .int p1, .int p2, .ref p3] D T z L S I J r I RJ := by
  refine va_MetW (cc := method_20_code) (maxL := 5) (ret := (Option.some Jvm.ClassFile.FieldType.int)) (by decide) rfl ?_
  intro p e s m args below meth c s₁ B hml hv
  obtain ⟨ha, hv⟩ := hv
  have hx := B.exec
  have hb := B.bytes
  have hr := B.returns
  have hts := atoms_spec (ws := .codeWith y_L_mark method_20_code 5 (Option.some Jvm.ClassFile.FieldType.int) [((0 : Nat), (10 : Nat), (13 : Nat), (13 : Nat))] :: ga_ws) B.pre
  have htab := vx_table (x := y_L_mark) B (hts _ List.mem_cons_self)
  have hown : s.vm.findClass "RankHouseLaw" = some m.cls := findClass_of_methodNamed B.named
  have hlocks := B.notSynchronized
  have C : CallFix p m c method_20_code 5 s args ga_ws "RankHouseLaw" := ⟨hx, hb, hml, hown, fun w h => hts w (List.mem_cons_of_mem _ h)⟩
  have hw := ga_start hv
  have hl := lv_entry ([.ref p0, .int p1, .int p2, .ref p3]) (n := 5) (Nat.le_of_ble_eq_true rfl)
  rw [show entryFrame m args 5 = entryFrame m ([.ref p0, .int p1, .int p2, .ref p3] : List Value).toArray 5 by rw [ha], lg_entry_eq]
  generalize (lg_sl ([.ref p0, .int p1, .int p2, .ref p3]) ++ List.replicate (5 - (lg_sl ([.ref p0, .int p1, .int p2, .ref p3])).length) Slot.unset).toArray = ls at hl ⊢
  have hl : lv_has ls 5 [(0, .ref p0), (1, .int p1), (2, .int p2), (3, .ref p3)] := hl
  have key : ∀ Q : State → Prop, (∀ (pc cells slots : Nat) (ls : Array Slot) (H : Heap) (locs : List Loc) (x : Int32) (J1 : gMJ), (x, J1) = (r, RJ) → decode method_20_code pc = .ok (.ireturn, 1) → cells ≤ rm_L_mark.cells → slots ≤ rm_L_mark.slots → ga_W D T z L S I J1 s H locs → W p l e rm_L_mark s m args below meth c H locs cells slots Q (F0 m pc ls [.int x])) → W p l e rm_L_mark s m args below meth c s.heap [] 0 0 Q (F0 m 0 ls []) := by
    intro Q hret
    rw [f_L_mark] at hF
    refine lv_aload_n hx hb d_L_mark_0 rfl (lv_at hl 3 rfl) ?_
    refine lv_iconst (v := 0) hx hb d_L_mark_1 (by decide) ?_
    refine lv_aload_n hx hb d_L_mark_2 rfl (lv_at hl 0 rfl) ?_
    refine lv_iload_n hx hb d_L_mark_3 rfl (lv_at hl 1 rfl) ?_
    refine lv_iload_n hx hb d_L_mark_4 rfl (lv_at hl 2 rfl) ?_
    obtain ⟨t1, hF⟩ := gd_ex hF
    obtain ⟨e2, x3, c4, hF⟩ := bd2_ex hF
    refine ga_xVi (As := [.int p1, .int p2]) C hw (c_H_mark l D T z L hl9 c4) gy_L_74 t1 rfl hl.1 ⟨Nat.le_of_ble_eq_true rfl, Nat.le_of_ble_eq_true rfl, Nat.le_of_ble_eq_true rfl, Nat.le_of_ble_eq_true rfl⟩ (Nat.le_of_ble_eq_true rfl) rfl d_L_mark_5 (fun hne ce q9 H locs hw hce hcv hcl => ?_) (fun h0 H locs hw => ?_)
    · rw [if_neg hne] at hF
      by_cases h5 : e2 = 1
      · rw [if_pos h5] at hF
        rw [h5] at hcl
        refine vx_catch (own := "RankHouseLaw") (E := "java/lang/IndexOutOfBoundsException") (name := "java/lang/IndexOutOfBoundsException") C.2.2.2.1 [] (⟨0, 10, 13, 13⟩ : ExceptionTableEntry) [] htab (fun _ h => absurd h List.not_mem_nil) (by decide) (by decide) (C.2.2.2.2 _ gw_146) (va_Nw.use rfl (hw.2.2.2.2.2.2.2.2.2.2.1 ("java/lang/IndexOutOfBoundsException", "java/lang/IndexOutOfBoundsException") (by decide))) hce hcv hcl ?_
        show W _ _ _ _ _ _ _ _ _ _ _ _ _ _ _ (F0 _ 13 _ _)
        refine lv_astore hx hb d_L_mark_13 hl (by decide) rfl (fun ls hl => ?_)
        have hl : lv_has ls 5 [(4, .ref q9), (0, .ref p0), (1, .int p1), (2, .int p2), (3, .ref p3)] := hl
        refine lv_iconst (v := 1) hx hb d_L_mark_15 (by decide) ?_
        exact hret _ _ _ _ _ _ _ _ (Option.some.inj hF) d_L_mark_16 (Nat.le_of_ble_eq_true rfl) (Nat.le_of_ble_eq_true rfl) hw
      · rw [if_neg h5] at hF
        cases hF
    · rw [if_pos h0] at hF
      refine lv_i2l hx hb d_L_mark_8 rfl ?_
      obtain ⟨t6, hF⟩ := gd_ex hF
      obtain ⟨b7, hF⟩ := gd_ex hF
      obtain ⟨J8, eJ8, hF⟩ := bnd_ex hF
      refine ga_last C hw t6 b7 eJ8 d_L_mark_9 (fun H locs hw => ?_)
      refine lv_goto (tgt := 17) hx hb d_L_mark_10 (by decide) ?_
      refine lv_iconst (v := 0) hx hb d_L_mark_17 (by decide) ?_
      exact hret _ _ _ _ _ _ _ _ (Option.some.inj hF) d_L_mark_18 (Nat.le_of_ble_eq_true rfl) (Nat.le_of_ble_eq_true rfl) hw
  refine key _ (fun pc cells slots ls H locs x J1 he hd hc hs hw => ?_)
  · cases he
    exact W.widen hc hs (W.iret hx hb hr (fun t ht _ => ⟨⟨_, (), rfl, rfl, ga_o hw ht⟩, hw.2.2.2.1.F ht⟩) hw.2.2.2.1.2.2 hd)
set_option maxHeartbeats 4000000 in
set_option maxRecDepth 100000 in
theorem c_L_forget (l : Launch) (D : va_G) (T : Nat → ClassId) (z : Nat) (L : List Nat) {S : gS} {I : gMI} {J : gMJ} {p0 : Nat} {p1 : Int32} {p2 : Nat} {r : Int32} {RI : gMI} {RJ : gMJ} (hl9 : l.stackTraces = false) (hF : f_L_forget S I J p0 p1 p2 = some (r, RI, RJ)) : ga_Wi l y_L_forget method_21_code 4 (Option.some Jvm.ClassFile.FieldType.int) [((0 : Nat), (9 : Nat), (12 : Nat), (13 : Nat))] rm_L_forget [.ref p0, .int p1, .ref p2] D T z L S I J r RI RJ := by
  refine va_MetW (cc := method_21_code) (maxL := 4) (ret := (Option.some Jvm.ClassFile.FieldType.int)) (by decide) rfl ?_
  intro p e s m args below meth c s₁ B hml hv
  obtain ⟨ha, hv⟩ := hv
  have hx := B.exec
  have hb := B.bytes
  have hr := B.returns
  have hts := atoms_spec (ws := .codeWith y_L_forget method_21_code 4 (Option.some Jvm.ClassFile.FieldType.int) [((0 : Nat), (9 : Nat), (12 : Nat), (13 : Nat))] :: ga_ws) B.pre
  have htab := vx_table (x := y_L_forget) B (hts _ List.mem_cons_self)
  have hown : s.vm.findClass "RankHouseLaw" = some m.cls := findClass_of_methodNamed B.named
  have hlocks := B.notSynchronized
  have C : CallFix p m c method_21_code 4 s args ga_ws "RankHouseLaw" := ⟨hx, hb, hml, hown, fun w h => hts w (List.mem_cons_of_mem _ h)⟩
  have hw := ga_start hv
  have hl := lv_entry ([.ref p0, .int p1, .ref p2]) (n := 4) (Nat.le_of_ble_eq_true rfl)
  rw [show entryFrame m args 4 = entryFrame m ([.ref p0, .int p1, .ref p2] : List Value).toArray 4 by rw [ha], lg_entry_eq]
  generalize (lg_sl ([.ref p0, .int p1, .ref p2]) ++ List.replicate (4 - (lg_sl ([.ref p0, .int p1, .ref p2])).length) Slot.unset).toArray = ls at hl ⊢
  have hl : lv_has ls 4 [(0, .ref p0), (1, .int p1), (2, .ref p2)] := hl
  have key : ∀ Q : State → Prop, (∀ (pc cells slots : Nat) (ls : Array Slot) (H : Heap) (locs : List Loc) (x : Int32) (I1 : gMI) (J1 : gMJ), (x, I1, J1) = (r, RI, RJ) → decode method_21_code pc = .ok (.ireturn, 1) → cells ≤ rm_L_forget.cells → slots ≤ rm_L_forget.slots → ga_W D T z L S I1 J1 s H locs → W p l e rm_L_forget s m args below meth c H locs cells slots Q (F0 m pc ls [.int x])) → W p l e rm_L_forget s m args below meth c s.heap [] 0 0 Q (F0 m 0 ls []) := by
    intro Q hret
    rw [f_L_forget] at hF
    refine lv_aload_n hx hb d_L_forget_0 rfl (lv_at hl 2 rfl) ?_
    refine lv_iconst (v := 0) hx hb d_L_forget_1 (by decide) ?_
    refine lv_aload_n hx hb d_L_forget_2 rfl (lv_at hl 0 rfl) ?_
    refine lv_iload_n hx hb d_L_forget_3 rfl (lv_at hl 1 rfl) ?_
    obtain ⟨t1, hF⟩ := gd_ex hF
    obtain ⟨e2, x3, I4, c5, hF⟩ := bd3_ex hF
    refine ga_xVi (As := [.int p1]) C hw (c_H_forget l D T z L hl9 c5) gy_L_77 t1 rfl hl.1 ⟨Nat.le_of_ble_eq_true rfl, Nat.le_of_ble_eq_true rfl, Nat.le_of_ble_eq_true rfl, Nat.le_of_ble_eq_true rfl⟩ (Nat.le_of_ble_eq_true rfl) rfl d_L_forget_4 (fun hne ce q9 H locs hw hce hcv hcl => ?_) (fun h0 H locs hw => ?_)
    · rw [if_neg hne] at hF
      by_cases h6 : e2 = 1
      · rw [if_pos h6] at hF
        rw [h6] at hcl
        refine vx_catch (own := "RankHouseLaw") (E := "java/lang/IndexOutOfBoundsException") (name := "java/lang/IndexOutOfBoundsException") C.2.2.2.1 [] (⟨0, 9, 12, 13⟩ : ExceptionTableEntry) [] htab (fun _ h => absurd h List.not_mem_nil) (by decide) (by decide) (C.2.2.2.2 _ gw_146) (va_Nw.use rfl (hw.2.2.2.2.2.2.2.2.2.2.1 ("java/lang/IndexOutOfBoundsException", "java/lang/IndexOutOfBoundsException") (by decide))) hce hcv hcl ?_
        show W _ _ _ _ _ _ _ _ _ _ _ _ _ _ _ (F0 _ 12 _ _)
        refine lv_astore_n hx hb d_L_forget_12 rfl hl (by decide) rfl (fun ls hl => ?_)
        have hl : lv_has ls 4 [(3, .ref q9), (0, .ref p0), (1, .int p1), (2, .ref p2)] := hl
        refine lv_iconst (v := 1) hx hb d_L_forget_13 (by decide) ?_
        exact hret _ _ _ _ _ _ _ _ _ (Option.some.inj hF) d_L_forget_14 (Nat.le_of_ble_eq_true rfl) (Nat.le_of_ble_eq_true rfl) hw
      · rw [if_neg h6] at hF
        cases hF
    · rw [if_pos h0] at hF
      refine lv_i2l hx hb d_L_forget_7 rfl ?_
      obtain ⟨t7, hF⟩ := gd_ex hF
      obtain ⟨b8, hF⟩ := gd_ex hF
      obtain ⟨J9, eJ9, hF⟩ := bnd_ex hF
      refine ga_last C hw t7 b8 eJ9 d_L_forget_8 (fun H locs hw => ?_)
      refine lv_goto (tgt := 15) hx hb d_L_forget_9 (by decide) ?_
      refine lv_iconst (v := 0) hx hb d_L_forget_15 (by decide) ?_
      exact hret _ _ _ _ _ _ _ _ _ (Option.some.inj hF) d_L_forget_16 (Nat.le_of_ble_eq_true rfl) (Nat.le_of_ble_eq_true rfl) hw
  refine key _ (fun pc cells slots ls H locs x I1 J1 he hd hc hs hw => ?_)
  · cases he
    exact W.widen hc hs (W.iret hx hb hr (fun t ht _ => ⟨⟨_, (), rfl, rfl, ga_o hw ht⟩, hw.2.2.2.1.F ht⟩) hw.2.2.2.1.2.2 hd)
end WALK
