section WALK
variable {p : Program} {l : Launch} {e : Env} {s : State} {m : MethodId} {args : Array Value} {below : List Frame} {meth : Method} {c : Code} {Q : State → Prop} {D : va_G} {T : Nat → ClassId} {z : Nat} {L : List Nat} {S : gS}
set_option maxHeartbeats 4000000 in
set_option maxRecDepth 100000 in
theorem c_Question_afterAdd (l : Launch) (D : va_G) (T : Nat → ClassId) (z : Nat) (L : List Nat) {S : gS} {I : gMI} {J : gMJ} {p0 : Nat} {RI : gMI} {RJ : gMJ} (hF : f_Question_afterAdd S I J p0 = some (RI, RJ)) : ga_Mv l y_Question_afterAdd prog_5_method_16_code 7 (Option.none : Option Jvm.ClassFile.FieldType) rm_Question_afterAdd [.ref p0] D T z L S I J RI RJ := by
  refine Met.ofW (cc := prog_5_method_16_code) (maxL := 7) (ret := (Option.none : Option Jvm.ClassFile.FieldType)) (by decide) rfl ?_
  intro p e s m args below meth c s₁ B hml hv
  obtain ⟨ha, hv⟩ := hv
  have hx := B.exec
  have hb := B.bytes
  have hr := B.returns
  have hts := atoms_spec (ws := .code y_Question_afterAdd prog_5_method_16_code 7 (Option.none : Option Jvm.ClassFile.FieldType) :: ga_ws) B.pre
  have hown : s.vm.findClass "RankHouse$Question" = some m.cls := findClass_of_methodNamed B.named
  have hlocks := B.notSynchronized
  have C : CallFix p m c prog_5_method_16_code 7 s args ga_ws "RankHouse$Question" := ⟨hx, hb, hml, hown, fun w h => hts w (List.mem_cons_of_mem _ h)⟩
  have hw := ga_start hv
  have hl := lv_entry ([.ref p0]) (n := 7) (Nat.le_of_ble_eq_true rfl)
  rw [show entryFrame m args 7 = entryFrame m ([.ref p0] : List Value).toArray 7 by rw [ha], lg_entry_eq]
  generalize (lg_sl ([.ref p0]) ++ List.replicate (7 - (lg_sl ([.ref p0])).length) Slot.unset).toArray = ls at hl ⊢
  have hl : lv_has ls 7 [(0, .ref p0)] := hl
  have key : ∀ Q : State → Prop, (∀ (pc : Nat) (ls : Array Slot) (H : Heap) (locs : List Loc) (I1 : gMI) (J1 : gMJ), (I1, J1) = (RI, RJ) → decode prog_5_method_16_code pc = .ok (.return_, 1) → ga_W D T z L S I1 J1 s H locs → W p l e rm_Question_afterAdd s m args below meth c H locs 0 0 Q (F0 m pc ls [])) → W p l e rm_Question_afterAdd s m args below meth c s.heap [] 0 0 Q (F0 m 0 ls []) := by
    intro Q hret
    rw [f_Question_afterAdd] at hF
    refine lv_aload_n hx hb d_Question_afterAdd_0 rfl (lv_at hl 0 rfl) ?_
    obtain ⟨t1, hF⟩ := gd_ex hF
    obtain ⟨r2, hr2, hF⟩ := ob_ex hF
    refine ga_getR C hw gf_Question_24 t1 hr2 d_Question_afterAdd_1 ?_
    refine lv_iconst (v := 0) hx hb d_Question_afterAdd_4 (by decide) ?_
    obtain ⟨t3, hF⟩ := gd_ex hF
    obtain ⟨x4, c5, hF⟩ := ob_ex hF
    refine ga_cVi (As := [.int (0 : Int32)]) C hw (c_Replies_total l D T z L c5) gy_Question_142 t3 rfl hl.1 ⟨Nat.le_of_ble_eq_true rfl, Nat.le_of_ble_eq_true rfl, rfl, rfl, Nat.le_of_ble_eq_true rfl, Nat.le_of_ble_eq_true rfl⟩ (Nat.le_of_ble_eq_true rfl) rfl d_Question_afterAdd_5 (fun H locs hw => ?_)
    refine lv_aload_n hx hb d_Question_afterAdd_8 rfl (lv_at hl 0 rfl) ?_
    refine ga_getR C hw gf_Question_24 t1 hr2 d_Question_afterAdd_9 ?_
    refine lv_iconst (v := 1) hx hb d_Question_afterAdd_12 (by decide) ?_
    obtain ⟨x6, c7, hF⟩ := ob_ex hF
    refine ga_cVi (As := [.int (1 : Int32)]) C hw (c_Replies_total l D T z L c7) gy_Question_142 t3 rfl hl.1 ⟨Nat.le_of_ble_eq_true rfl, Nat.le_of_ble_eq_true rfl, rfl, rfl, Nat.le_of_ble_eq_true rfl, Nat.le_of_ble_eq_true rfl⟩ (Nat.le_of_ble_eq_true rfl) rfl d_Question_afterAdd_13 (fun H locs hw => ?_)
    refine lv_iadd hx hb d_Question_afterAdd_16 ?_
    refine lv_topi (fun v8 ev8 => ?_)
    replace hF := bnd_at hF ev8
    refine lv_istore_n hx hb d_Question_afterAdd_17 rfl hl (by decide) rfl (fun ls hl => ?_)
    have hl : lv_has ls 7 [(1, .int v8), (0, .ref p0)] := hl
    refine lv_iload_n hx hb d_Question_afterAdd_18 rfl (lv_at hl 0 rfl) ?_
    refine lv_aload_n hx hb d_Question_afterAdd_19 rfl (lv_at hl 1 rfl) ?_
    refine ga_getR C hw gf_Question_24 t1 hr2 d_Question_afterAdd_20 ?_
    refine lv_iconst (v := 2) hx hb d_Question_afterAdd_23 (by decide) ?_
    obtain ⟨x9, c10, hF⟩ := ob_ex hF
    refine ga_cVi (As := [.int (2 : Int32)]) C hw (c_Replies_total l D T z L c10) gy_Question_142 t3 rfl hl.1 ⟨Nat.le_of_ble_eq_true rfl, Nat.le_of_ble_eq_true rfl, rfl, rfl, Nat.le_of_ble_eq_true rfl, Nat.le_of_ble_eq_true rfl⟩ (Nat.le_of_ble_eq_true rfl) rfl d_Question_afterAdd_24 (fun H locs hw => ?_)
    refine lv_iadd hx hb d_Question_afterAdd_27 ?_
    refine lv_topi (fun v11 ev11 => ?_)
    replace hF := bnd_at hF ev11
    refine lv_istore_n hx hb d_Question_afterAdd_28 rfl hl (by decide) rfl (fun ls hl => ?_)
    have hl : lv_has ls 7 [(2, .int v11), (1, .int v8), (0, .ref p0)] := hl
    refine lv_iload_n hx hb d_Question_afterAdd_29 rfl (lv_at hl 1 rfl) ?_
    refine lv_aload_n hx hb d_Question_afterAdd_30 rfl (lv_at hl 2 rfl) ?_
    obtain ⟨x12, c13, hF⟩ := ob_ex hF
    refine ga_cVi (As := []) C hw (c_Question_firstRank l D T z L c13) gy_Question_151 t1 rfl hl.1 ⟨Nat.le_of_ble_eq_true rfl, Nat.le_of_ble_eq_true rfl, rfl, rfl, Nat.le_of_ble_eq_true rfl, Nat.le_of_ble_eq_true rfl⟩ (Nat.le_of_ble_eq_true rfl) rfl d_Question_afterAdd_31 (fun H locs hw => ?_)
    refine lv_isub hx hb d_Question_afterAdd_34 ?_
    refine lv_iconst (v := 1) hx hb d_Question_afterAdd_35 (by decide) ?_
    refine lv_iadd hx hb d_Question_afterAdd_36 ?_
    refine lv_i2l hx hb d_Question_afterAdd_37 rfl ?_
    refine lv_topl (fun v14 ev14 => ?_)
    replace hF := bnd_at hF ev14
    refine lv_lstore_n hx hb d_Question_afterAdd_38 rfl hl (by decide) rfl (fun ls hl => ?_)
    have hl : lv_has ls 7 [(3, .long v14), (2, .int v11), (1, .int v8), (0, .ref p0)] := hl
    refine lv_aload_n hx hb d_Question_afterAdd_39 rfl (lv_at hl 3 rfl) ?_
    obtain ⟨x15, c16, hF⟩ := ob_ex hF
    refine ga_cVi (As := []) C hw (c_Question_lastRank l D T z L c16) gy_Question_181 t1 rfl hl.1 ⟨Nat.le_of_ble_eq_true rfl, Nat.le_of_ble_eq_true rfl, rfl, rfl, Nat.le_of_ble_eq_true rfl, Nat.le_of_ble_eq_true rfl⟩ (Nat.le_of_ble_eq_true rfl) rfl d_Question_afterAdd_40 (fun H locs hw => ?_)
    refine lv_iload_n hx hb d_Question_afterAdd_43 rfl (lv_at hl 1 rfl) ?_
    refine lv_isub hx hb d_Question_afterAdd_44 ?_
    refine lv_i2l hx hb d_Question_afterAdd_45 rfl ?_
    refine lv_topl (fun v17 ev17 => ?_)
    replace hF := bnd_at hF ev17
    refine lv_lstore hx hb d_Question_afterAdd_46 hl (by decide) rfl (fun ls hl => ?_)
    have hl : lv_has ls 7 [(5, .long v17), (3, .long v14), (2, .int v11), (1, .int v8), (0, .ref p0)] := hl
    refine lv_aload_n hx hb d_Question_afterAdd_48 rfl (lv_at hl 4 rfl) ?_
    refine lv_lload_n hx hb d_Question_afterAdd_49 rfl (lv_at hl 1 rfl) ?_
    refine lv_aload_n hx hb d_Question_afterAdd_50 rfl (lv_at hl 4 rfl) ?_
    refine ga_getI C hw gf_Question_184 t1 d_Question_afterAdd_51 ?_
    refine lv_i2l hx hb d_Question_afterAdd_54 rfl ?_
    refine lv_lmul hx hb d_Question_afterAdd_55 ?_
    refine lv_aload_n hx hb d_Question_afterAdd_56 rfl (lv_at hl 4 rfl) ?_
    refine ga_getR C hw gf_Question_24 t1 hr2 d_Question_afterAdd_57 ?_
    refine ga_getJ C hw gf_Question_187 t3 d_Question_afterAdd_60 ?_
    refine lv_ladd hx hb d_Question_afterAdd_63 ?_
    refine lv_lload hx hb d_Question_afterAdd_64 (lv_at hl 0 rfl) ?_
    refine lv_aload_n hx hb d_Question_afterAdd_66 rfl (lv_at hl 4 rfl) ?_
    refine ga_getI C hw gf_Question_191 t1 d_Question_afterAdd_67 ?_
    refine lv_i2l hx hb d_Question_afterAdd_70 rfl ?_
    refine lv_lmul hx hb d_Question_afterAdd_71 ?_
    refine lv_ladd hx hb d_Question_afterAdd_72 ?_
    obtain ⟨I18, J19, c20, hF⟩ := bd2_ex hF
    refine ga_cVv (As := [.long (((v14 * (I p0 16).toInt64) + (J r2 3)) + (v17 * (I p0 17).toInt64))]) C hw (c_Question_conclude l D T z L c20) gy_Question_175 t1 rfl hl.1 ⟨Nat.le_of_ble_eq_true rfl, Nat.le_of_ble_eq_true rfl, rfl, rfl, Nat.le_of_ble_eq_true rfl, Nat.le_of_ble_eq_true rfl⟩ (Nat.le_of_ble_eq_true rfl) rfl d_Question_afterAdd_73 (fun H locs hw => ?_)
    exact hret _ _ _ _ _ _ (Option.some.inj hF) d_Question_afterAdd_76 hw
  refine key _ (fun pc ls H locs I1 J1 he hd hw => ?_)
  · cases he
    exact W.vret hx hb hr (fun t ht _ => ⟨⟨(), rfl, trivial, ga_o hw ht⟩, hw.2.2.2.1.F ht⟩) hw.2.2.2.1.2.2 hd
set_option maxHeartbeats 4000000 in
set_option maxRecDepth 100000 in
theorem m_Question_goOn_b114 {zz : gMI × gMJ} (hret : ∀ (pc : Nat) (ls : Array Slot) (H : Heap) (locs : List Loc) (I1 : gMI) (J1 : gMJ), (I1, J1) = zz → decode prog_5_method_11_code pc = .ok (.return_, 1) → ga_W D T z L S I1 J1 s H locs → W p l e rm_Question_goOn s m args below meth c H locs 0 0 Q (F0 m pc ls [])) (C : CallFix p m c prog_5_method_11_code 1 s args ga_ws "RankHouse$Question") : ∀ (I : gMI) (J : gMJ), f_Question_goOn_b114 S I J = some zz → ∀ (ls : Array Slot) (H : Heap) (locs : List Loc), lv_has ls 1 [] → ga_W D T z L S I J s H locs → W p l e rm_Question_goOn s m args below meth c H locs 0 0 Q (F0 m 114 ls []) := by
  intro I J hF ls H locs hl hw
  have hx := C.1
  have hb := C.2.1
  rw [f_Question_goOn_b114] at hF
  exact hret _ _ _ _ _ _ (Option.some.inj hF) d_Question_goOn_114 hw
set_option maxHeartbeats 4000000 in
set_option maxRecDepth 100000 in
theorem c_Question_goOn (l : Launch) (D : va_G) (T : Nat → ClassId) (z : Nat) (L : List Nat) {S : gS} {I : gMI} {J : gMJ} {p0 : Nat} {RI : gMI} {RJ : gMJ} (hF : f_Question_goOn S I J p0 = some (RI, RJ)) : ga_Mv l y_Question_goOn prog_5_method_11_code 1 (Option.none : Option Jvm.ClassFile.FieldType) rm_Question_goOn [.ref p0] D T z L S I J RI RJ := by
  refine Met.ofW (cc := prog_5_method_11_code) (maxL := 1) (ret := (Option.none : Option Jvm.ClassFile.FieldType)) (by decide) rfl ?_
  intro p e s m args below meth c s₁ B hml hv
  obtain ⟨ha, hv⟩ := hv
  have hx := B.exec
  have hb := B.bytes
  have hr := B.returns
  have hts := atoms_spec (ws := .code y_Question_goOn prog_5_method_11_code 1 (Option.none : Option Jvm.ClassFile.FieldType) :: ga_ws) B.pre
  have hown : s.vm.findClass "RankHouse$Question" = some m.cls := findClass_of_methodNamed B.named
  have hlocks := B.notSynchronized
  have C : CallFix p m c prog_5_method_11_code 1 s args ga_ws "RankHouse$Question" := ⟨hx, hb, hml, hown, fun w h => hts w (List.mem_cons_of_mem _ h)⟩
  have hw := ga_start hv
  have hl := lv_entry ([.ref p0]) (n := 1) (Nat.le_of_ble_eq_true rfl)
  rw [show entryFrame m args 1 = entryFrame m ([.ref p0] : List Value).toArray 1 by rw [ha], lg_entry_eq]
  generalize (lg_sl ([.ref p0]) ++ List.replicate (1 - (lg_sl ([.ref p0])).length) Slot.unset).toArray = ls at hl ⊢
  have hl : lv_has ls 1 [(0, .ref p0)] := hl
  have key : ∀ Q : State → Prop, (∀ (pc : Nat) (ls : Array Slot) (H : Heap) (locs : List Loc) (I1 : gMI) (J1 : gMJ), (I1, J1) = (RI, RJ) → decode prog_5_method_11_code pc = .ok (.return_, 1) → ga_W D T z L S I1 J1 s H locs → W p l e rm_Question_goOn s m args below meth c H locs 0 0 Q (F0 m pc ls [])) → W p l e rm_Question_goOn s m args below meth c s.heap [] 0 0 Q (F0 m 0 ls []) := by
    intro Q hret
    rw [f_Question_goOn] at hF
    refine lv_aload_n hx hb d_Question_goOn_0 rfl (lv_at hl 0 rfl) ?_
    obtain ⟨t1, hF⟩ := gd_ex hF
    refine ga_getI C hw gf_Question_75 t1 d_Question_goOn_1 ?_
    by_cases h2 : (I p0 5) = (1 : Int32)
    · rw [if_pos h2] at hF
      refine lv_tableIn (tgt := 56) hx hb d_Question_goOn_4 (by rw [h2]; decide) (by rw [h2]; decide) (by rw [h2]; rfl) (by decide) ?_
      refine lv_aload_n hx hb d_Question_goOn_56 rfl (lv_at hl 0 rfl) ?_
      obtain ⟨I3, c4, hF⟩ := ob_ex hF
      refine ga_cVv (As := []) C hw (c_Question_afterFreeze l D T z L c4) gy_Question_113 t1 rfl hl.1 ⟨Nat.le_of_ble_eq_true rfl, Nat.le_of_ble_eq_true rfl, rfl, rfl, Nat.le_of_ble_eq_true rfl, Nat.le_of_ble_eq_true rfl⟩ (Nat.le_of_ble_eq_true rfl) rfl d_Question_goOn_57 (fun H locs hw => ?_)
      refine lv_goto (tgt := 114) hx hb d_Question_goOn_60 (by decide) ?_
      exact m_Question_goOn_b114 hret C _ _ hF _ _ _ (lv_sub hl [] rfl) hw
    · rw [if_neg h2] at hF
      by_cases h5 : (I p0 5) = (2 : Int32)
      · rw [if_pos h5] at hF
        refine lv_tableIn (tgt := 110) hx hb d_Question_goOn_4 (by rw [h5]; decide) (by rw [h5]; decide) (by rw [h5]; rfl) (by decide) ?_
        refine lv_aload_n hx hb d_Question_goOn_110 rfl (lv_at hl 0 rfl) ?_
        obtain ⟨I6, J7, c8, hF⟩ := bd2_ex hF
        refine ga_cVv (As := []) C hw (c_Question_afterAdd l D T z L c8) gy_Question_139 t1 rfl hl.1 ⟨Nat.le_of_ble_eq_true rfl, Nat.le_of_ble_eq_true rfl, rfl, rfl, Nat.le_of_ble_eq_true rfl, Nat.le_of_ble_eq_true rfl⟩ (Nat.le_of_ble_eq_true rfl) rfl d_Question_goOn_111 (fun H locs hw => ?_)
        exact m_Question_goOn_b114 hret C _ _ hF _ _ _ (lv_sub hl [] rfl) hw
      · rw [if_neg h5] at hF
        by_cases h9 : (I p0 5) = (3 : Int32)
        · rw [if_pos h9] at hF
          refine lv_tableIn (tgt := 63) hx hb d_Question_goOn_4 (by rw [h9]; decide) (by rw [h9]; decide) (by rw [h9]; rfl) (by decide) ?_
          refine lv_aload_n hx hb d_Question_goOn_63 rfl (lv_at hl 0 rfl) ?_
          obtain ⟨I10, c11, hF⟩ := ob_ex hF
          refine ga_cVv (As := []) C hw (c_Question_afterSplit l D T z L c11) gy_Question_116 t1 rfl hl.1 ⟨Nat.le_of_ble_eq_true rfl, Nat.le_of_ble_eq_true rfl, rfl, rfl, Nat.le_of_ble_eq_true rfl, Nat.le_of_ble_eq_true rfl⟩ (Nat.le_of_ble_eq_true rfl) rfl d_Question_goOn_64 (fun H locs hw => ?_)
          refine lv_goto (tgt := 114) hx hb d_Question_goOn_67 (by decide) ?_
          exact m_Question_goOn_b114 hret C _ _ hF _ _ _ (lv_sub hl [] rfl) hw
        · rw [if_neg h9] at hF
          by_cases h12 : (I p0 5) = (4 : Int32)
          · rw [if_pos h12] at hF
            refine lv_tableIn (tgt := 110) hx hb d_Question_goOn_4 (by rw [h12]; decide) (by rw [h12]; decide) (by rw [h12]; rfl) (by decide) ?_
            refine lv_aload_n hx hb d_Question_goOn_110 rfl (lv_at hl 0 rfl) ?_
            obtain ⟨I13, J14, c15, hF⟩ := bd2_ex hF
            refine ga_cVv (As := []) C hw (c_Question_afterAdd l D T z L c15) gy_Question_139 t1 rfl hl.1 ⟨Nat.le_of_ble_eq_true rfl, Nat.le_of_ble_eq_true rfl, rfl, rfl, Nat.le_of_ble_eq_true rfl, Nat.le_of_ble_eq_true rfl⟩ (Nat.le_of_ble_eq_true rfl) rfl d_Question_goOn_111 (fun H locs hw => ?_)
            exact m_Question_goOn_b114 hret C _ _ hF _ _ _ (lv_sub hl [] rfl) hw
          · rw [if_neg h12] at hF
            by_cases h16 : (I p0 5) = (5 : Int32)
            · rw [if_pos h16] at hF
              refine lv_tableIn (tgt := 70) hx hb d_Question_goOn_4 (by rw [h16]; decide) (by rw [h16]; decide) (by rw [h16]; rfl) (by decide) ?_
              refine lv_aload_n hx hb d_Question_goOn_70 rfl (lv_at hl 0 rfl) ?_
              obtain ⟨I17, J18, c19, hF⟩ := bd2_ex hF
              refine ga_cVv (As := []) C hw (c_Question_afterCut l D T z L c19) gy_Question_119 t1 rfl hl.1 ⟨Nat.le_of_ble_eq_true rfl, Nat.le_of_ble_eq_true rfl, rfl, rfl, Nat.le_of_ble_eq_true rfl, Nat.le_of_ble_eq_true rfl⟩ (Nat.le_of_ble_eq_true rfl) rfl d_Question_goOn_71 (fun H locs hw => ?_)
              refine lv_goto (tgt := 114) hx hb d_Question_goOn_74 (by decide) ?_
              exact m_Question_goOn_b114 hret C _ _ hF _ _ _ (lv_sub hl [] rfl) hw
            · rw [if_neg h16] at hF
              by_cases h20 : (I p0 5) = (6 : Int32)
              · rw [if_pos h20] at hF
                refine lv_tableIn (tgt := 110) hx hb d_Question_goOn_4 (by rw [h20]; decide) (by rw [h20]; decide) (by rw [h20]; rfl) (by decide) ?_
                refine lv_aload_n hx hb d_Question_goOn_110 rfl (lv_at hl 0 rfl) ?_
                obtain ⟨I21, J22, c23, hF⟩ := bd2_ex hF
                refine ga_cVv (As := []) C hw (c_Question_afterAdd l D T z L c23) gy_Question_139 t1 rfl hl.1 ⟨Nat.le_of_ble_eq_true rfl, Nat.le_of_ble_eq_true rfl, rfl, rfl, Nat.le_of_ble_eq_true rfl, Nat.le_of_ble_eq_true rfl⟩ (Nat.le_of_ble_eq_true rfl) rfl d_Question_goOn_111 (fun H locs hw => ?_)
                exact m_Question_goOn_b114 hret C _ _ hF _ _ _ (lv_sub hl [] rfl) hw
              · rw [if_neg h20] at hF
                by_cases h24 : (I p0 5) = (7 : Int32)
                · rw [if_pos h24] at hF
                  refine lv_tableIn (tgt := 77) hx hb d_Question_goOn_4 (by rw [h24]; decide) (by rw [h24]; decide) (by rw [h24]; rfl) (by decide) ?_
                  refine lv_aload_n hx hb d_Question_goOn_77 rfl (lv_at hl 0 rfl) ?_
                  refine lv_aload_n hx hb d_Question_goOn_78 rfl (lv_at hl 0 rfl) ?_
                  obtain ⟨r25, hr25, hF⟩ := ob_ex hF
                  refine ga_getR C hw gf_Question_24 t1 hr25 d_Question_goOn_79 ?_
                  obtain ⟨t26, hF⟩ := gd_ex hF
                  obtain ⟨r27, hr27, hF⟩ := ob_ex hF
                  refine ga_getR C hw gf_Question_122 t26 hr27 d_Question_goOn_82 ?_
                  refine lv_aload_n hx hb d_Question_goOn_85 rfl (lv_at hl 0 rfl) ?_
                  obtain ⟨r28, hr28, hF⟩ := ob_ex hF
                  refine ga_getR C hw gf_Question_31 t1 hr28 d_Question_goOn_86 ?_
                  obtain ⟨t29, hF⟩ := gd_ex hF
                  obtain ⟨x30, c31, hF⟩ := ob_ex hF
                  refine ga_cVi (As := []) C hw (c_Search_rankWithin l D T z L c31) gy_Question_126 t29 rfl hl.1 ⟨Nat.le_of_ble_eq_true rfl, Nat.le_of_ble_eq_true rfl, rfl, rfl, Nat.le_of_ble_eq_true rfl, Nat.le_of_ble_eq_true rfl⟩ (Nat.le_of_ble_eq_true rfl) rfl d_Question_goOn_89 (fun H locs hw => ?_)
                  refine lv_iconst (v := 1) hx hb d_Question_goOn_92 (by decide) ?_
                  refine lv_isub hx hb d_Question_goOn_93 ?_
                  obtain ⟨t32, hF⟩ := gd_ex hF
                  obtain ⟨x33, c34, hF⟩ := ob_ex hF
                  refine ga_cVi (As := [.int (x30 - (1 : Int32))]) C hw (c_SortedRow_at l D T z L c34) gy_Question_129 t32 rfl hl.1 ⟨Nat.le_of_ble_eq_true rfl, Nat.le_of_ble_eq_true rfl, rfl, rfl, Nat.le_of_ble_eq_true rfl, Nat.le_of_ble_eq_true rfl⟩ (Nat.le_of_ble_eq_true rfl) rfl d_Question_goOn_94 (fun H locs hw => ?_)
                  obtain ⟨I35, J36, c37, hF⟩ := bd2_ex hF
                  refine ga_cVv (As := [.int x33]) C hw (c_Question_settle l D T z L c37) gy_Question_133 t1 rfl hl.1 ⟨Nat.le_of_ble_eq_true rfl, Nat.le_of_ble_eq_true rfl, rfl, rfl, Nat.le_of_ble_eq_true rfl, Nat.le_of_ble_eq_true rfl⟩ (Nat.le_of_ble_eq_true rfl) rfl d_Question_goOn_97 (fun H locs hw => ?_)
                  refine lv_goto (tgt := 114) hx hb d_Question_goOn_100 (by decide) ?_
                  exact m_Question_goOn_b114 hret C _ _ hF _ _ _ (lv_sub hl [] rfl) hw
                · rw [if_neg h24] at hF
                  by_cases h38 : (I p0 5) = (8 : Int32)
                  · rw [if_pos h38] at hF
                    refine lv_tableIn (tgt := 110) hx hb d_Question_goOn_4 (by rw [h38]; decide) (by rw [h38]; decide) (by rw [h38]; rfl) (by decide) ?_
                    refine lv_aload_n hx hb d_Question_goOn_110 rfl (lv_at hl 0 rfl) ?_
                    obtain ⟨I39, J40, c41, hF⟩ := bd2_ex hF
                    refine ga_cVv (As := []) C hw (c_Question_afterAdd l D T z L c41) gy_Question_139 t1 rfl hl.1 ⟨Nat.le_of_ble_eq_true rfl, Nat.le_of_ble_eq_true rfl, rfl, rfl, Nat.le_of_ble_eq_true rfl, Nat.le_of_ble_eq_true rfl⟩ (Nat.le_of_ble_eq_true rfl) rfl d_Question_goOn_111 (fun H locs hw => ?_)
                    exact m_Question_goOn_b114 hret C _ _ hF _ _ _ (lv_sub hl [] rfl) hw
                  · rw [if_neg h38] at hF
                    by_cases h42 : (I p0 5) = (9 : Int32)
                    · rw [if_pos h42] at hF
                      refine lv_tableIn (tgt := 103) hx hb d_Question_goOn_4 (by rw [h42]; decide) (by rw [h42]; decide) (by rw [h42]; rfl) (by decide) ?_
                      refine lv_aload_n hx hb d_Question_goOn_103 rfl (lv_at hl 0 rfl) ?_
                      obtain ⟨I43, J44, c45, hF⟩ := bd2_ex hF
                      refine ga_cVv (As := []) C hw (c_Question_afterHold l D T z L c45) gy_Question_136 t1 rfl hl.1 ⟨Nat.le_of_ble_eq_true rfl, Nat.le_of_ble_eq_true rfl, rfl, rfl, Nat.le_of_ble_eq_true rfl, Nat.le_of_ble_eq_true rfl⟩ (Nat.le_of_ble_eq_true rfl) rfl d_Question_goOn_104 (fun H locs hw => ?_)
                      refine lv_goto (tgt := 114) hx hb d_Question_goOn_107 (by decide) ?_
                      exact m_Question_goOn_b114 hret C _ _ hF _ _ _ (lv_sub hl [] rfl) hw
                    · rw [if_neg h42] at hF
                      refine lv_tableOut (tgt := 110) hx hb d_Question_goOn_4 (ga_out1_9 h2 h5 h9 h12 h16 h20 h24 h38 h42) (by decide) ?_
                      refine lv_aload_n hx hb d_Question_goOn_110 rfl (lv_at hl 0 rfl) ?_
                      obtain ⟨I46, J47, c48, hF⟩ := bd2_ex hF
                      refine ga_cVv (As := []) C hw (c_Question_afterAdd l D T z L c48) gy_Question_139 t1 rfl hl.1 ⟨Nat.le_of_ble_eq_true rfl, Nat.le_of_ble_eq_true rfl, rfl, rfl, Nat.le_of_ble_eq_true rfl, Nat.le_of_ble_eq_true rfl⟩ (Nat.le_of_ble_eq_true rfl) rfl d_Question_goOn_111 (fun H locs hw => ?_)
                      exact m_Question_goOn_b114 hret C _ _ hF _ _ _ (lv_sub hl [] rfl) hw
  refine key _ (fun pc ls H locs I1 J1 he hd hw => ?_)
  · cases he
    exact W.vret hx hb hr (fun t ht _ => ⟨⟨(), rfl, trivial, ga_o hw ht⟩, hw.2.2.2.1.F ht⟩) hw.2.2.2.1.2.2 hd
end WALK
