section WALK
variable {p : Program} {l : Launch} {e : Env} {s : State} {m : MethodId} {args : Array Value} {below : List Frame} {meth : Method} {c : Code} {Q : State → Prop} {D : va_G} {T : Nat → ClassId} {z : Nat} {L : List Nat} {S : gS}
set_option maxHeartbeats 4000000 in
set_option maxRecDepth 100000 in
theorem c_M_isFound (l : Launch) (D : va_G) (T : Nat → ClassId) (z : Nat) (L : List Nat) {S : gS} {I : gMI} {J : gMJ} {p0 : Nat} {p1 : Int32} {p2 : Int32} {RI : gMI} {RJ : gMJ} (hF : f_M_isFound S I J p0 p1 p2 = some (RI, RJ)) : ga_Mv l y_M_isFound prog_10_method_27_code 3 (Option.none : Option Jvm.ClassFile.FieldType) rm_M_isFound [.ref p0, .int p1, .int p2] D T z L S I J RI RJ := by
  refine Met.ofW (cc := prog_10_method_27_code) (maxL := 3) (ret := (Option.none : Option Jvm.ClassFile.FieldType)) (by decide) rfl ?_
  intro p e s m args below meth c s₁ B hml hv
  obtain ⟨ha, hv⟩ := hv
  have hx := B.exec
  have hb := B.bytes
  have hr := B.returns
  have hts := atoms_spec (ws := .code y_M_isFound prog_10_method_27_code 3 (Option.none : Option Jvm.ClassFile.FieldType) :: ga_ws) B.pre
  have hown : s.vm.findClass "RankHouseModel" = some m.cls := findClass_of_methodNamed B.named
  have hlocks := B.notSynchronized
  have C : CallFix p m c prog_10_method_27_code 3 s args ga_ws "RankHouseModel" := ⟨hx, hb, hml, hown, fun w h => hts w (List.mem_cons_of_mem _ h)⟩
  have hw := ga_start hv
  have hl := lv_entry ([.ref p0, .int p1, .int p2]) (n := 3) (Nat.le_of_ble_eq_true rfl)
  rw [show entryFrame m args 3 = entryFrame m ([.ref p0, .int p1, .int p2] : List Value).toArray 3 by rw [ha], lg_entry_eq]
  generalize (lg_sl ([.ref p0, .int p1, .int p2]) ++ List.replicate (3 - (lg_sl ([.ref p0, .int p1, .int p2])).length) Slot.unset).toArray = ls at hl ⊢
  have hl : lv_has ls 3 [(0, .ref p0), (1, .int p1), (2, .int p2)] := hl
  have key : ∀ Q : State → Prop, (∀ (pc : Nat) (ls : Array Slot) (H : Heap) (locs : List Loc) (I1 : gMI) (J1 : gMJ), (I1, J1) = (RI, RJ) → decode prog_10_method_27_code pc = .ok (.return_, 1) → ga_W D T z L S I1 J1 s H locs → W p l e rm_M_isFound s m args below meth c H locs 0 0 Q (F0 m pc ls [])) → W p l e rm_M_isFound s m args below meth c s.heap [] 0 0 Q (F0 m 0 ls []) := by
    intro Q hret
    rw [f_M_isFound] at hF
    refine lv_aload_n hx hb d_M_isFound_0 rfl (lv_at hl 0 rfl) ?_
    obtain ⟨t1, hF⟩ := gd_ex hF
    obtain ⟨r2, hr2, hF⟩ := ob_ex hF
    refine ga_getR C hw gf_M_71 t1 hr2 d_M_isFound_1 ?_
    refine lv_iload_n hx hb d_M_isFound_4 rfl (lv_at hl 1 rfl) ?_
    obtain ⟨t3, hF⟩ := gd_ex hF
    obtain ⟨b4, hF⟩ := gd_ex hF
    refine ga_zald C hw t3 b4 d_M_isFound_5 ?_
    by_cases h5 : (I r2 p1.toNatClampNeg) = 0
    · rw [if_pos h5] at hF
      refine lv_if_eq (tgt := 19) hx hb d_M_isFound_6 (by decide) (fun _ => ?_) (fun hn => absurd h5 hn)
      refine lv_aload_n hx hb d_M_isFound_19 rfl (lv_at hl 0 rfl) ?_
      obtain ⟨r6, hr6, hF⟩ := ob_ex hF
      refine ga_getR C hw gf_M_77 t1 hr6 d_M_isFound_20 ?_
      refine lv_iload_n hx hb d_M_isFound_23 rfl (lv_at hl 1 rfl) ?_
      refine lv_iload_n hx hb d_M_isFound_24 rfl (lv_at hl 2 rfl) ?_
      obtain ⟨t7, hF⟩ := gd_ex hF
      obtain ⟨b8, hF⟩ := gd_ex hF
      obtain ⟨I9, eI9, hF⟩ := bnd_ex hF
      refine ga_iast C hw t7 b8 eI9 d_M_isFound_25 (fun H locs hw => ?_)
      exact m_M_isFound_b26 hret C _ _ _ _ _ hF _ _ _ hl hw
    · rw [if_neg h5] at hF
      refine lv_if_eq (tgt := 19) hx hb d_M_isFound_6 (by decide) (fun hp => absurd hp h5) (fun _ => ?_)
      refine lv_aload_n hx hb d_M_isFound_9 rfl (lv_at hl 0 rfl) ?_
      obtain ⟨r10, hr10, hF⟩ := ob_ex hF
      refine ga_getR C hw gf_M_80 t1 hr10 d_M_isFound_10 ?_
      refine lv_iload_n hx hb d_M_isFound_13 rfl (lv_at hl 1 rfl) ?_
      refine lv_iload_n hx hb d_M_isFound_14 rfl (lv_at hl 2 rfl) ?_
      obtain ⟨t11, hF⟩ := gd_ex hF
      obtain ⟨b12, hF⟩ := gd_ex hF
      obtain ⟨I13, eI13, hF⟩ := bnd_ex hF
      refine ga_iast C hw t11 b12 eI13 d_M_isFound_15 (fun H locs hw => ?_)
      refine lv_goto (tgt := 26) hx hb d_M_isFound_16 (by decide) ?_
      exact m_M_isFound_b26 hret C _ _ _ _ _ hF _ _ _ hl hw
  refine key _ (fun pc ls H locs I1 J1 he hd hw => ?_)
  · cases he
    exact W.vret hx hb hr (fun t ht _ => ⟨⟨(), rfl, trivial, ga_o hw ht⟩, hw.2.2.2.1.F ht⟩) hw.2.2.2.1.2.2 hd
set_option maxHeartbeats 4000000 in
set_option maxRecDepth 100000 in
theorem m_M_afterCut_b149 {zz : gMI × gMJ} (hret : ∀ (pc : Nat) (ls : Array Slot) (H : Heap) (locs : List Loc) (I1 : gMI) (J1 : gMJ), (I1, J1) = zz → decode prog_10_method_24_code pc = .ok (.return_, 1) → ga_W D T z L S I1 J1 s H locs → W p l e rm_M_afterCut s m args below meth c H locs 0 0 Q (F0 m pc ls [])) (C : CallFix p m c prog_10_method_24_code 5 s args ga_ws "RankHouseModel") : ∀ (I : gMI) (J : gMJ), f_M_afterCut_b149 S I J = some zz → ∀ (ls : Array Slot) (H : Heap) (locs : List Loc), lv_has ls 5 [] → ga_W D T z L S I J s H locs → W p l e rm_M_afterCut s m args below meth c H locs 0 0 Q (F0 m 149 ls []) := by
  intro I J hF ls H locs hl hw
  have hx := C.1
  have hb := C.2.1
  rw [f_M_afterCut_b149] at hF
  exact hret _ _ _ _ _ _ (Option.some.inj hF) d_M_afterCut_149 hw
set_option maxHeartbeats 4000000 in
set_option maxRecDepth 100000 in
theorem c_M_afterCut (l : Launch) (D : va_G) (T : Nat → ClassId) (z : Nat) (L : List Nat) {S : gS} {I : gMI} {J : gMJ} {p0 : Nat} {p1 : Int32} {RI : gMI} {RJ : gMJ} (hF : f_M_afterCut S I J p0 p1 = some (RI, RJ)) : ga_Mv l y_M_afterCut prog_10_method_24_code 5 (Option.none : Option Jvm.ClassFile.FieldType) rm_M_afterCut [.ref p0, .int p1] D T z L S I J RI RJ := by
  refine Met.ofW (cc := prog_10_method_24_code) (maxL := 5) (ret := (Option.none : Option Jvm.ClassFile.FieldType)) (by decide) rfl ?_
  intro p e s m args below meth c s₁ B hml hv
  obtain ⟨ha, hv⟩ := hv
  have hx := B.exec
  have hb := B.bytes
  have hr := B.returns
  have hts := atoms_spec (ws := .code y_M_afterCut prog_10_method_24_code 5 (Option.none : Option Jvm.ClassFile.FieldType) :: ga_ws) B.pre
  have hown : s.vm.findClass "RankHouseModel" = some m.cls := findClass_of_methodNamed B.named
  have hlocks := B.notSynchronized
  have C : CallFix p m c prog_10_method_24_code 5 s args ga_ws "RankHouseModel" := ⟨hx, hb, hml, hown, fun w h => hts w (List.mem_cons_of_mem _ h)⟩
  have hw := ga_start hv
  have hl := lv_entry ([.ref p0, .int p1]) (n := 5) (Nat.le_of_ble_eq_true rfl)
  rw [show entryFrame m args 5 = entryFrame m ([.ref p0, .int p1] : List Value).toArray 5 by rw [ha], lg_entry_eq]
  generalize (lg_sl ([.ref p0, .int p1]) ++ List.replicate (5 - (lg_sl ([.ref p0, .int p1])).length) Slot.unset).toArray = ls at hl ⊢
  have hl : lv_has ls 5 [(0, .ref p0), (1, .int p1)] := hl
  have key : ∀ Q : State → Prop, (∀ (pc : Nat) (ls : Array Slot) (H : Heap) (locs : List Loc) (I1 : gMI) (J1 : gMJ), (I1, J1) = (RI, RJ) → decode prog_10_method_24_code pc = .ok (.return_, 1) → ga_W D T z L S I1 J1 s H locs → W p l e rm_M_afterCut s m args below meth c H locs 0 0 Q (F0 m pc ls [])) → W p l e rm_M_afterCut s m args below meth c s.heap [] 0 0 Q (F0 m 0 ls []) := by
    intro Q hret
    rw [f_M_afterCut] at hF
    refine lv_aload_n hx hb d_M_afterCut_0 rfl (lv_at hl 0 rfl) ?_
    refine lv_iload_n hx hb d_M_afterCut_1 rfl (lv_at hl 1 rfl) ?_
    refine lv_iconst (v := 0) hx hb d_M_afterCut_2 (by decide) ?_
    obtain ⟨t1, hF⟩ := gd_ex hF
    obtain ⟨x2, c3, hF⟩ := ob_ex hF
    refine ga_cVi (As := [.int p1, .int (0 : Int32)]) C hw (c_M_total l D T z L c3) gy_M_172 t1 rfl hl.1 ⟨Nat.le_of_ble_eq_true rfl, Nat.le_of_ble_eq_true rfl, rfl, rfl, Nat.le_of_ble_eq_true rfl, Nat.le_of_ble_eq_true rfl⟩ (Nat.le_of_ble_eq_true rfl) rfl d_M_afterCut_3 (fun H locs hw => ?_)
    refine lv_istore_n hx hb d_M_afterCut_6 rfl hl (by decide) rfl (fun ls hl => ?_)
    have hl : lv_has ls 5 [(2, .int x2), (0, .ref p0), (1, .int p1)] := hl
    refine lv_aload_n hx hb d_M_afterCut_7 rfl (lv_at hl 1 rfl) ?_
    refine lv_iload_n hx hb d_M_afterCut_8 rfl (lv_at hl 2 rfl) ?_
    refine lv_iconst (v := 1) hx hb d_M_afterCut_9 (by decide) ?_
    obtain ⟨x4, c5, hF⟩ := ob_ex hF
    refine ga_cVi (As := [.int p1, .int (1 : Int32)]) C hw (c_M_total l D T z L c5) gy_M_172 t1 rfl hl.1 ⟨Nat.le_of_ble_eq_true rfl, Nat.le_of_ble_eq_true rfl, rfl, rfl, Nat.le_of_ble_eq_true rfl, Nat.le_of_ble_eq_true rfl⟩ (Nat.le_of_ble_eq_true rfl) rfl d_M_afterCut_10 (fun H locs hw => ?_)
    refine lv_istore_n hx hb d_M_afterCut_13 rfl hl (by decide) rfl (fun ls hl => ?_)
    have hl : lv_has ls 5 [(3, .int x4), (2, .int x2), (0, .ref p0), (1, .int p1)] := hl
    refine lv_aload_n hx hb d_M_afterCut_14 rfl (lv_at hl 2 rfl) ?_
    obtain ⟨r6, hr6, hF⟩ := ob_ex hF
    refine ga_getR C hw gf_M_68 t1 hr6 d_M_afterCut_15 ?_
    refine lv_iload_n hx hb d_M_afterCut_18 rfl (lv_at hl 3 rfl) ?_
    obtain ⟨t7, hF⟩ := gd_ex hF
    obtain ⟨b8, hF⟩ := gd_ex hF
    refine ga_iald C hw t7 b8 d_M_afterCut_19 ?_
    refine lv_aload_n hx hb d_M_afterCut_20 rfl (lv_at hl 2 rfl) ?_
    obtain ⟨r9, hr9, hF⟩ := ob_ex hF
    refine ga_getR C hw gf_M_65 t1 hr9 d_M_afterCut_21 ?_
    refine lv_iload_n hx hb d_M_afterCut_24 rfl (lv_at hl 3 rfl) ?_
    obtain ⟨t10, hF⟩ := gd_ex hF
    obtain ⟨b11, hF⟩ := gd_ex hF
    refine ga_iald C hw t10 b11 d_M_afterCut_25 ?_
    refine lv_isub hx hb d_M_afterCut_26 ?_
    refine lv_topi (fun v12 ev12 => ?_)
    replace hF := bnd_at hF ev12
    refine lv_istore hx hb d_M_afterCut_27 hl (by decide) rfl (fun ls hl => ?_)
    have hl : lv_has ls 5 [(4, .int v12), (3, .int x4), (2, .int x2), (0, .ref p0), (1, .int p1)] := hl
    refine lv_aload_n hx hb d_M_afterCut_29 rfl (lv_at hl 3 rfl) ?_
    obtain ⟨r13, hr13, hF⟩ := ob_ex hF
    refine ga_getR C hw gf_M_44 t1 hr13 d_M_afterCut_30 ?_
    refine lv_iload_n hx hb d_M_afterCut_33 rfl (lv_at hl 4 rfl) ?_
    refine lv_dup2_11 hx hb d_M_afterCut_34 rfl rfl ?_
    obtain ⟨t14, hF⟩ := gd_ex hF
    obtain ⟨b15, hF⟩ := gd_ex hF
    refine ga_iald C hw t14 b15 d_M_afterCut_35 ?_
    refine lv_iconst (v := 1) hx hb d_M_afterCut_36 (by decide) ?_
    refine lv_iadd hx hb d_M_afterCut_37 ?_
    obtain ⟨I16, eI16, hF⟩ := bnd_ex hF
    refine ga_iast C hw t14 b15 eI16 d_M_afterCut_38 (fun H locs hw => ?_)
    refine lv_iload hx hb d_M_afterCut_39 (lv_at hl 0 rfl) ?_
    refine lv_iload_n hx hb d_M_afterCut_41 rfl (lv_at hl 2 rfl) ?_
    by_cases h17 : x2 < v12
    · rw [if_pos h17] at hF
      refine lv_icmp_gt (tgt := 75) hx hb d_M_afterCut_42 (by decide) (fun _ => ?_) (fun hn => absurd h17 hn)
      refine lv_iload hx hb d_M_afterCut_75 (lv_at hl 0 rfl) ?_
      refine lv_iload_n hx hb d_M_afterCut_77 rfl (lv_at hl 2 rfl) ?_
      refine lv_iload_n hx hb d_M_afterCut_78 rfl (lv_at hl 1 rfl) ?_
      refine lv_iadd hx hb d_M_afterCut_79 ?_
      by_cases h18 : (x2 + x4) < v12
      · rw [if_pos h18] at hF
        refine lv_icmp_gt (tgt := 97) hx hb d_M_afterCut_80 (by decide) (fun _ => ?_) (fun hn => absurd h18 hn)
        refine lv_aload_n hx hb d_M_afterCut_97 rfl (lv_at hl 3 rfl) ?_
        obtain ⟨r19, hr19, hF⟩ := ob_ex hF
        refine ga_getR C hw gf_M_59 t1 hr19 d_M_afterCut_98 ?_
        refine lv_iload_n hx hb d_M_afterCut_101 rfl (lv_at hl 4 rfl) ?_
        refine lv_aload_n hx hb d_M_afterCut_102 rfl (lv_at hl 3 rfl) ?_
        obtain ⟨r20, hr20, hF⟩ := ob_ex hF
        refine ga_getR C hw gf_M_74 t1 hr20 d_M_afterCut_103 ?_
        refine lv_iload_n hx hb d_M_afterCut_106 rfl (lv_at hl 4 rfl) ?_
        obtain ⟨t21, hF⟩ := gd_ex hF
        obtain ⟨b22, hF⟩ := gd_ex hF
        refine ga_iald C hw t21 b22 d_M_afterCut_107 ?_
        refine lv_iconst (v := 1) hx hb d_M_afterCut_108 (by decide) ?_
        refine lv_iadd hx hb d_M_afterCut_109 ?_
        obtain ⟨t23, hF⟩ := gd_ex hF
        obtain ⟨b24, hF⟩ := gd_ex hF
        obtain ⟨I25, eI25, hF⟩ := bnd_ex hF
        refine ga_iast C hw t23 b24 eI25 d_M_afterCut_110 (fun H locs hw => ?_)
        refine lv_aload_n hx hb d_M_afterCut_111 rfl (lv_at hl 3 rfl) ?_
        refine ga_getR C hw gf_M_65 t1 hr9 d_M_afterCut_112 ?_
        refine lv_iload_n hx hb d_M_afterCut_115 rfl (lv_at hl 4 rfl) ?_
        refine lv_aload_n hx hb d_M_afterCut_116 rfl (lv_at hl 3 rfl) ?_
        refine ga_getR C hw gf_M_65 t1 hr9 d_M_afterCut_117 ?_
        refine lv_iload_n hx hb d_M_afterCut_120 rfl (lv_at hl 4 rfl) ?_
        refine ga_iald C hw t10 b11 d_M_afterCut_121 ?_
        refine lv_iload_n hx hb d_M_afterCut_122 rfl (lv_at hl 2 rfl) ?_
        refine lv_iadd hx hb d_M_afterCut_123 ?_
        refine lv_iload_n hx hb d_M_afterCut_124 rfl (lv_at hl 1 rfl) ?_
        refine lv_iadd hx hb d_M_afterCut_125 ?_
        obtain ⟨I26, eI26, hF⟩ := bnd_ex hF
        refine ga_iast C hw t10 b11 eI26 d_M_afterCut_126 (fun H locs hw => ?_)
        refine lv_aload_n hx hb d_M_afterCut_127 rfl (lv_at hl 3 rfl) ?_
        obtain ⟨r27, hr27, hF⟩ := ob_ex hF
        refine ga_getR C hw gf_M_50 t1 hr27 d_M_afterCut_128 ?_
        refine lv_iload_n hx hb d_M_afterCut_131 rfl (lv_at hl 4 rfl) ?_
        refine lv_aload_n hx hb d_M_afterCut_132 rfl (lv_at hl 3 rfl) ?_
        refine ga_getR C hw gf_M_50 t1 hr27 d_M_afterCut_133 ?_
        refine lv_iload_n hx hb d_M_afterCut_136 rfl (lv_at hl 4 rfl) ?_
        obtain ⟨t28, hF⟩ := gd_ex hF
        obtain ⟨b29, hF⟩ := gd_ex hF
        refine ga_iald C hw t28 b29 d_M_afterCut_137 ?_
        refine lv_iload_n hx hb d_M_afterCut_138 rfl (lv_at hl 2 rfl) ?_
        refine lv_isub hx hb d_M_afterCut_139 ?_
        refine lv_iload_n hx hb d_M_afterCut_140 rfl (lv_at hl 1 rfl) ?_
        refine lv_isub hx hb d_M_afterCut_141 ?_
        obtain ⟨I30, eI30, hF⟩ := bnd_ex hF
        refine ga_iast C hw t28 b29 eI30 d_M_afterCut_142 (fun H locs hw => ?_)
        refine lv_aload_n hx hb d_M_afterCut_143 rfl (lv_at hl 3 rfl) ?_
        refine lv_iload_n hx hb d_M_afterCut_144 rfl (lv_at hl 4 rfl) ?_
        refine lv_iconst (v := 3) hx hb d_M_afterCut_145 (by decide) ?_
        obtain ⟨I31, J32, c33, hF⟩ := bd2_ex hF
        refine ga_cVv (As := [.int p1, .int (3 : Int32)]) C hw (c_M_askAll l D T z L c33) gy_M_168 t1 rfl hl.1 ⟨Nat.le_of_ble_eq_true rfl, Nat.le_of_ble_eq_true rfl, rfl, rfl, Nat.le_of_ble_eq_true rfl, Nat.le_of_ble_eq_true rfl⟩ (Nat.le_of_ble_eq_true rfl) rfl d_M_afterCut_146 (fun H locs hw => ?_)
        exact m_M_afterCut_b149 hret C _ _ hF _ _ _ (lv_sub hl [] rfl) hw
      · rw [if_neg h18] at hF
        refine lv_icmp_gt (tgt := 97) hx hb d_M_afterCut_80 (by decide) (fun hp => absurd hp h18) (fun _ => ?_)
        refine lv_aload_n hx hb d_M_afterCut_83 rfl (lv_at hl 3 rfl) ?_
        refine lv_iload_n hx hb d_M_afterCut_84 rfl (lv_at hl 4 rfl) ?_
        refine lv_aload_n hx hb d_M_afterCut_85 rfl (lv_at hl 3 rfl) ?_
        obtain ⟨r34, hr34, hF⟩ := ob_ex hF
        refine ga_getR C hw gf_M_74 t1 hr34 d_M_afterCut_86 ?_
        refine lv_iload_n hx hb d_M_afterCut_89 rfl (lv_at hl 4 rfl) ?_
        obtain ⟨t35, hF⟩ := gd_ex hF
        obtain ⟨b36, hF⟩ := gd_ex hF
        refine ga_iald C hw t35 b36 d_M_afterCut_90 ?_
        obtain ⟨I37, J38, c39, hF⟩ := bd2_ex hF
        refine ga_cVv (As := [.int p1, .int (I16 r34 p1.toNatClampNeg)]) C hw (c_M_isFound l D T z L c39) gy_M_183 t1 rfl hl.1 ⟨Nat.le_of_ble_eq_true rfl, Nat.le_of_ble_eq_true rfl, rfl, rfl, Nat.le_of_ble_eq_true rfl, Nat.le_of_ble_eq_true rfl⟩ (Nat.le_of_ble_eq_true rfl) rfl d_M_afterCut_91 (fun H locs hw => ?_)
        refine lv_goto (tgt := 149) hx hb d_M_afterCut_94 (by decide) ?_
        exact m_M_afterCut_b149 hret C _ _ hF _ _ _ (lv_sub hl [] rfl) hw
    · rw [if_neg h17] at hF
      refine lv_icmp_gt (tgt := 75) hx hb d_M_afterCut_42 (by decide) (fun hp => absurd hp h17) (fun _ => ?_)
      refine lv_aload_n hx hb d_M_afterCut_45 rfl (lv_at hl 3 rfl) ?_
      obtain ⟨r40, hr40, hF⟩ := ob_ex hF
      refine ga_getR C hw gf_M_62 t1 hr40 d_M_afterCut_46 ?_
      refine lv_iload_n hx hb d_M_afterCut_49 rfl (lv_at hl 4 rfl) ?_
      refine lv_aload_n hx hb d_M_afterCut_50 rfl (lv_at hl 3 rfl) ?_
      obtain ⟨r41, hr41, hF⟩ := ob_ex hF
      refine ga_getR C hw gf_M_74 t1 hr41 d_M_afterCut_51 ?_
      refine lv_iload_n hx hb d_M_afterCut_54 rfl (lv_at hl 4 rfl) ?_
      obtain ⟨t42, hF⟩ := gd_ex hF
      obtain ⟨b43, hF⟩ := gd_ex hF
      refine ga_iald C hw t42 b43 d_M_afterCut_55 ?_
      refine lv_iconst (v := 1) hx hb d_M_afterCut_56 (by decide) ?_
      refine lv_isub hx hb d_M_afterCut_57 ?_
      obtain ⟨t44, hF⟩ := gd_ex hF
      obtain ⟨b45, hF⟩ := gd_ex hF
      obtain ⟨I46, eI46, hF⟩ := bnd_ex hF
      refine ga_iast C hw t44 b45 eI46 d_M_afterCut_58 (fun H locs hw => ?_)
      refine lv_aload_n hx hb d_M_afterCut_59 rfl (lv_at hl 3 rfl) ?_
      obtain ⟨r47, hr47, hF⟩ := ob_ex hF
      refine ga_getR C hw gf_M_50 t1 hr47 d_M_afterCut_60 ?_
      refine lv_iload_n hx hb d_M_afterCut_63 rfl (lv_at hl 4 rfl) ?_
      refine lv_iload_n hx hb d_M_afterCut_64 rfl (lv_at hl 2 rfl) ?_
      obtain ⟨t48, hF⟩ := gd_ex hF
      obtain ⟨b49, hF⟩ := gd_ex hF
      obtain ⟨I50, eI50, hF⟩ := bnd_ex hF
      refine ga_iast C hw t48 b49 eI50 d_M_afterCut_65 (fun H locs hw => ?_)
      refine lv_aload_n hx hb d_M_afterCut_66 rfl (lv_at hl 3 rfl) ?_
      refine lv_iload_n hx hb d_M_afterCut_67 rfl (lv_at hl 4 rfl) ?_
      refine lv_iconst (v := 3) hx hb d_M_afterCut_68 (by decide) ?_
      obtain ⟨I51, J52, c53, hF⟩ := bd2_ex hF
      refine ga_cVv (As := [.int p1, .int (3 : Int32)]) C hw (c_M_askAll l D T z L c53) gy_M_168 t1 rfl hl.1 ⟨Nat.le_of_ble_eq_true rfl, Nat.le_of_ble_eq_true rfl, rfl, rfl, Nat.le_of_ble_eq_true rfl, Nat.le_of_ble_eq_true rfl⟩ (Nat.le_of_ble_eq_true rfl) rfl d_M_afterCut_69 (fun H locs hw => ?_)
      refine lv_goto (tgt := 149) hx hb d_M_afterCut_72 (by decide) ?_
      exact m_M_afterCut_b149 hret C _ _ hF _ _ _ (lv_sub hl [] rfl) hw
  refine key _ (fun pc ls H locs I1 J1 he hd hw => ?_)
  · cases he
    exact W.vret hx hb hr (fun t ht _ => ⟨⟨(), rfl, trivial, ga_o hw ht⟩, hw.2.2.2.1.F ht⟩) hw.2.2.2.1.2.2 hd
set_option maxHeartbeats 4000000 in
set_option maxRecDepth 100000 in
theorem m_M_givenUpTo_b63 {I : gMI} {J : gMJ} {zz : Int32} (hret : ∀ (pc : Nat) (ls : Array Slot) (H : Heap) (locs : List Loc) (x : Int32), (x) = zz → decode prog_10_method_25_code pc = .ok (.ireturn, 1) → ga_W D T z L S I J s H locs → W p l e rm_M_givenUpTo s m args below meth c H locs 0 0 Q (F0 m pc ls [.int x])) (C : CallFix p m c prog_10_method_25_code 8 s args ga_ws "RankHouseModel") (k25 : Nat → Int32 → Int64 → Int32 → Int32 → Int32 → Int32 → Option (Int32)) (hk25 : ∀ (l0 : Nat) (l1 : Int32) (l2 : Int64) (l4 : Int32) (l5 : Int32) (l6 : Int32) (l7 : Int32), k25 l0 l1 l2 l4 l5 l6 l7 = some zz → ∀ (ls : Array Slot) (H : Heap) (locs : List Loc), lv_has ls 8 [(0, .ref l0), (1, .int l1), (2, .long l2), (4, .int l4), (5, .int l5), (6, .int l6), (7, .int l7)] → ga_W D T z L S I J s H locs → W p l e rm_M_givenUpTo s m args below meth c H locs 0 0 Q (F0 m 25 ls [])) : ∀ (s0 : Int32) (s1 : Int32) (l0 : Nat) (l1 : Int32) (l2 : Int64) (l5 : Int32) (l6 : Int32) (l7 : Int32), f_M_givenUpTo_b63 S I J k25 s0 s1 l0 l1 l2 l5 l6 l7 = some zz → ∀ (ls : Array Slot) (H : Heap) (locs : List Loc), lv_has ls 8 [(0, .ref l0), (1, .int l1), (2, .long l2), (5, .int l5), (6, .int l6), (7, .int l7)] → ga_W D T z L S I J s H locs → W p l e rm_M_givenUpTo s m args below meth c H locs 0 0 Q (F0 m 63 ls [.int s0, .int s1]) := by
  intro s0 s1 l0 l1 l2 l5 l6 l7 hF ls H locs hl hw
  have hx := C.1
  have hb := C.2.1
  rw [f_M_givenUpTo_b63] at hF
  refine lv_iadd hx hb d_M_givenUpTo_63 ?_
  refine lv_topi (fun v1 ev1 => ?_)
  replace hF := bnd_at hF ev1
  refine lv_istore hx hb d_M_givenUpTo_64 hl (by decide) rfl (fun ls hl => ?_)
  have hl : lv_has ls 8 [(4, .int v1), (0, .ref l0), (1, .int l1), (2, .long l2), (5, .int l5), (6, .int l6), (7, .int l7)] := hl
  obtain ⟨v2, ev2, hF⟩ := bnd_ex hF
  refine lv_iinc (k := 6) (v := v2) hx hb d_M_givenUpTo_66 hl rfl (by rw [ev2]; rfl) (by decide) rfl (fun ls hl => ?_)
  have hl : lv_has ls 8 [(7, .int v2), (4, .int v1), (0, .ref l0), (1, .int l1), (2, .long l2), (5, .int l5), (6, .int l6)] := hl
  refine lv_goto (tgt := 25) hx hb d_M_givenUpTo_69 (by decide) ?_
  exact hk25 _ _ _ _ _ _ _ hF _ _ _ (lv_sub hl [2, 3, 4, 1, 5, 6, 0] rfl) hw
set_option maxHeartbeats 4000000 in
set_option maxRecDepth 100000 in
theorem m_M_givenUpTo_b25 {I : gMI} {J : gMJ} {zz : Int32} (hret : ∀ (pc : Nat) (ls : Array Slot) (H : Heap) (locs : List Loc) (x : Int32), (x) = zz → decode prog_10_method_25_code pc = .ok (.ireturn, 1) → ga_W D T z L S I J s H locs → W p l e rm_M_givenUpTo s m args below meth c H locs 0 0 Q (F0 m pc ls [.int x])) (C : CallFix p m c prog_10_method_25_code 8 s args ga_ws "RankHouseModel") (k6 : Nat → Int32 → Int64 → Int32 → Int32 → Option (Int32)) (hk6 : ∀ (l0 : Nat) (l1 : Int32) (l2 : Int64) (l4 : Int32) (l5 : Int32), k6 l0 l1 l2 l4 l5 = some zz → ∀ (ls : Array Slot) (H : Heap) (locs : List Loc), lv_has ls 8 [(0, .ref l0), (1, .int l1), (2, .long l2), (4, .int l4), (5, .int l5)] → ga_W D T z L S I J s H locs → W p l e rm_M_givenUpTo s m args below meth c H locs 0 0 Q (F0 m 6 ls [])) : ∀ (n : Nat) (l0 : Nat) (l1 : Int32) (l2 : Int64) (l4 : Int32) (l5 : Int32) (l6 : Int32) (l7 : Int32), f_M_givenUpTo_b25 S I J k6 n l0 l1 l2 l4 l5 l6 l7 = some zz → ∀ (ls : Array Slot) (H : Heap) (locs : List Loc), lv_has ls 8 [(0, .ref l0), (1, .int l1), (2, .long l2), (4, .int l4), (5, .int l5), (6, .int l6), (7, .int l7)] → ga_W D T z L S I J s H locs → W p l e rm_M_givenUpTo s m args below meth c H locs 0 0 Q (F0 m 25 ls []) := by
  intro n
  induction n with
  | zero =>
    intro l0 l1 l2 l4 l5 l6 l7 hF ls H locs hl hw
    rw [f_M_givenUpTo_b25] at hF
    cases hF
  | succ n ih =>
    intro l0 l1 l2 l4 l5 l6 l7 hF ls H locs hl hw
    have hx := C.1
    have hb := C.2.1
    rw [f_M_givenUpTo_b25] at hF
    refine lv_iload hx hb d_M_givenUpTo_25 (lv_at hl 6 rfl) ?_
    refine lv_aload_n hx hb d_M_givenUpTo_27 rfl (lv_at hl 0 rfl) ?_
    obtain ⟨t1, hF⟩ := gd_ex hF
    obtain ⟨r2, hr2, hF⟩ := ob_ex hF
    refine ga_getR C hw gf_M_96 t1 hr2 d_M_givenUpTo_28 ?_
    refine lv_iload hx hb d_M_givenUpTo_31 (lv_at hl 5 rfl) ?_
    obtain ⟨t3, hF⟩ := gd_ex hF
    obtain ⟨b4, hF⟩ := gd_ex hF
    refine ga_iald C hw t3 b4 d_M_givenUpTo_33 ?_
    by_cases h5 : (I r2 l6.toNatClampNeg) ≤ l7
    · rw [if_pos h5] at hF
      refine lv_icmp_ge (tgt := 72) hx hb d_M_givenUpTo_34 (by decide) (fun _ => ?_) (fun hn => absurd h5 hn)
      obtain ⟨v6, ev6, hF⟩ := bnd_ex hF
      refine lv_iinc (k := 4) (v := v6) hx hb d_M_givenUpTo_72 hl rfl (by rw [ev6]; rfl) (by decide) rfl (fun ls hl => ?_)
      have hl : lv_has ls 8 [(5, .int v6), (0, .ref l0), (1, .int l1), (2, .long l2), (4, .int l4), (6, .int l6), (7, .int l7)] := hl
      refine lv_goto (tgt := 6) hx hb d_M_givenUpTo_75 (by decide) ?_
      exact hk6 _ _ _ _ _ hF _ _ _ (lv_sub hl [1, 2, 3, 4, 0] rfl) hw
    · rw [if_neg h5] at hF
      refine lv_icmp_ge (tgt := 72) hx hb d_M_givenUpTo_34 (by decide) (fun hp => absurd hp h5) (fun _ => ?_)
      refine lv_iload hx hb d_M_givenUpTo_37 (lv_at hl 3 rfl) ?_
      refine lv_aload_n hx hb d_M_givenUpTo_39 rfl (lv_at hl 0 rfl) ?_
      obtain ⟨r7, hr7, hF⟩ := ob_ex hF
      refine ga_getR C hw gf_M_99 t1 hr7 d_M_givenUpTo_40 ?_
      refine lv_bipush (v := 64) hx hb d_M_givenUpTo_43 (by decide) ?_
      refine lv_iload hx hb d_M_givenUpTo_45 (lv_at hl 5 rfl) ?_
      refine lv_imul hx hb d_M_givenUpTo_47 ?_
      refine lv_iload hx hb d_M_givenUpTo_48 (lv_at hl 6 rfl) ?_
      refine lv_iadd hx hb d_M_givenUpTo_50 ?_
      obtain ⟨t8, hF⟩ := gd_ex hF
      obtain ⟨b9, hF⟩ := gd_ex hF
      refine ga_iald C hw t8 b9 d_M_givenUpTo_51 ?_
      refine lv_i2l hx hb d_M_givenUpTo_52 rfl ?_
      refine lv_lload_n hx hb d_M_givenUpTo_53 rfl (lv_at hl 2 rfl) ?_
      refine W.lcmp hx hb d_M_givenUpTo_54 ?_
      by_cases h10 : 0 < (lg_cmp ((I r7 (((64 : Int32) * l6) + l7).toNatClampNeg).toInt64) l2)
      · rw [if_pos h10] at hF
        refine lv_if_gt (tgt := 62) hx hb d_M_givenUpTo_55 (by decide) (fun _ => ?_) (fun hn => absurd h10 hn)
        refine lv_iconst (v := 0) hx hb d_M_givenUpTo_62 (by decide) ?_
        exact m_M_givenUpTo_b63 hret C _ ih _ _ _ _ _ _ _ _ hF _ _ _ (lv_sub hl [0, 1, 2, 4, 5, 6] rfl) hw
      · rw [if_neg h10] at hF
        refine lv_if_gt (tgt := 62) hx hb d_M_givenUpTo_55 (by decide) (fun hp => absurd hp h10) (fun _ => ?_)
        refine lv_iconst (v := 1) hx hb d_M_givenUpTo_58 (by decide) ?_
        refine lv_goto (tgt := 63) hx hb d_M_givenUpTo_59 (by decide) ?_
        exact m_M_givenUpTo_b63 hret C _ ih _ _ _ _ _ _ _ _ hF _ _ _ (lv_sub hl [0, 1, 2, 4, 5, 6] rfl) hw
set_option maxHeartbeats 4000000 in
set_option maxRecDepth 100000 in
theorem m_M_givenUpTo_b6 {I : gMI} {J : gMJ} {zz : Int32} (hret : ∀ (pc : Nat) (ls : Array Slot) (H : Heap) (locs : List Loc) (x : Int32), (x) = zz → decode prog_10_method_25_code pc = .ok (.ireturn, 1) → ga_W D T z L S I J s H locs → W p l e rm_M_givenUpTo s m args below meth c H locs 0 0 Q (F0 m pc ls [.int x])) (C : CallFix p m c prog_10_method_25_code 8 s args ga_ws "RankHouseModel") : ∀ (n : Nat) (l0 : Nat) (l1 : Int32) (l2 : Int64) (l4 : Int32) (l5 : Int32), f_M_givenUpTo_b6 S I J n l0 l1 l2 l4 l5 = some zz → ∀ (ls : Array Slot) (H : Heap) (locs : List Loc), lv_has ls 8 [(0, .ref l0), (1, .int l1), (2, .long l2), (4, .int l4), (5, .int l5)] → ga_W D T z L S I J s H locs → W p l e rm_M_givenUpTo s m args below meth c H locs 0 0 Q (F0 m 6 ls []) := by
  intro n
  induction n with
  | zero =>
    intro l0 l1 l2 l4 l5 hF ls H locs hl hw
    rw [f_M_givenUpTo_b6] at hF
    cases hF
  | succ n ih =>
    intro l0 l1 l2 l4 l5 hF ls H locs hl hw
    have hx := C.1
    have hb := C.2.1
    rw [f_M_givenUpTo_b6] at hF
    refine lv_iload hx hb d_M_givenUpTo_6 (lv_at hl 4 rfl) ?_
    refine lv_bipush (v := 8) hx hb d_M_givenUpTo_8 (by decide) ?_
    by_cases h1 : (8 : Int32) ≤ l5
    · rw [if_pos h1] at hF
      refine lv_icmp_ge (tgt := 78) hx hb d_M_givenUpTo_10 (by decide) (fun _ => ?_) (fun hn => absurd h1 hn)
      refine lv_iload hx hb d_M_givenUpTo_78 (lv_at hl 3 rfl) ?_
      exact hret _ _ _ _ _ (Option.some.inj hF) d_M_givenUpTo_80 hw
    · rw [if_neg h1] at hF
      refine lv_icmp_ge (tgt := 78) hx hb d_M_givenUpTo_10 (by decide) (fun hp => absurd hp h1) (fun _ => ?_)
      refine lv_bipush (v := 8) hx hb d_M_givenUpTo_13 (by decide) ?_
      refine lv_iload_n hx hb d_M_givenUpTo_15 rfl (lv_at hl 1 rfl) ?_
      refine lv_imul hx hb d_M_givenUpTo_16 ?_
      refine lv_iload hx hb d_M_givenUpTo_17 (lv_at hl 4 rfl) ?_
      refine lv_iadd hx hb d_M_givenUpTo_19 ?_
      refine lv_topi (fun v2 ev2 => ?_)
      replace hF := bnd_at hF ev2
      refine lv_istore hx hb d_M_givenUpTo_20 hl (by decide) rfl (fun ls hl => ?_)
      have hl : lv_has ls 8 [(6, .int v2), (0, .ref l0), (1, .int l1), (2, .long l2), (4, .int l4), (5, .int l5)] := hl
      refine lv_iconst (v := 0) hx hb d_M_givenUpTo_22 (by decide) ?_
      refine lv_istore hx hb d_M_givenUpTo_23 hl (by decide) rfl (fun ls hl => ?_)
      have hl : lv_has ls 8 [(7, .int (0 : Int32)), (6, .int v2), (0, .ref l0), (1, .int l1), (2, .long l2), (4, .int l4), (5, .int l5)] := hl
      exact m_M_givenUpTo_b25 hret C _ ih gFuel _ _ _ _ _ _ _ hF _ _ _ (lv_sub hl [2, 3, 4, 5, 6, 1, 0] rfl) hw
set_option maxHeartbeats 4000000 in
set_option maxRecDepth 100000 in
theorem c_M_givenUpTo (l : Launch) (D : va_G) (T : Nat → ClassId) (z : Nat) (L : List Nat) {S : gS} {I : gMI} {J : gMJ} {p0 : Nat} {p1 : Int32} {p2 : Int64} {r : Int32} (hF : f_M_givenUpTo S I J p0 p1 p2 = some (r)) : ga_Mi l y_M_givenUpTo prog_10_method_25_code 8 (Option.some Jvm.ClassFile.FieldType.int) rm_M_givenUpTo [.ref p0, .int p1, .long p2] D T z L S I J r I J := by
  refine Met.ofW (cc := prog_10_method_25_code) (maxL := 8) (ret := (Option.some Jvm.ClassFile.FieldType.int)) (by decide) rfl ?_
  intro p e s m args below meth c s₁ B hml hv
  obtain ⟨ha, hv⟩ := hv
  have hx := B.exec
  have hb := B.bytes
  have hr := B.returns
  have hts := atoms_spec (ws := .code y_M_givenUpTo prog_10_method_25_code 8 (Option.some Jvm.ClassFile.FieldType.int) :: ga_ws) B.pre
  have hown : s.vm.findClass "RankHouseModel" = some m.cls := findClass_of_methodNamed B.named
  have hlocks := B.notSynchronized
  have C : CallFix p m c prog_10_method_25_code 8 s args ga_ws "RankHouseModel" := ⟨hx, hb, hml, hown, fun w h => hts w (List.mem_cons_of_mem _ h)⟩
  have hw := ga_start hv
  have hl := lv_entry ([.ref p0, .int p1, .long p2]) (n := 8) (Nat.le_of_ble_eq_true rfl)
  rw [show entryFrame m args 8 = entryFrame m ([.ref p0, .int p1, .long p2] : List Value).toArray 8 by rw [ha], lg_entry_eq]
  generalize (lg_sl ([.ref p0, .int p1, .long p2]) ++ List.replicate (8 - (lg_sl ([.ref p0, .int p1, .long p2])).length) Slot.unset).toArray = ls at hl ⊢
  have hl : lv_has ls 8 [(0, .ref p0), (1, .int p1), (2, .long p2)] := hl
  have key : ∀ Q : State → Prop, (∀ (pc : Nat) (ls : Array Slot) (H : Heap) (locs : List Loc) (x : Int32), (x) = (r) → decode prog_10_method_25_code pc = .ok (.ireturn, 1) → ga_W D T z L S I J s H locs → W p l e rm_M_givenUpTo s m args below meth c H locs 0 0 Q (F0 m pc ls [.int x])) → W p l e rm_M_givenUpTo s m args below meth c s.heap [] 0 0 Q (F0 m 0 ls []) := by
    intro Q hret
    rw [f_M_givenUpTo] at hF
    refine lv_iconst (v := 0) hx hb d_M_givenUpTo_0 (by decide) ?_
    refine lv_istore hx hb d_M_givenUpTo_1 hl (by decide) rfl (fun ls hl => ?_)
    have hl : lv_has ls 8 [(4, .int (0 : Int32)), (0, .ref p0), (1, .int p1), (2, .long p2)] := hl
    refine lv_iconst (v := 0) hx hb d_M_givenUpTo_3 (by decide) ?_
    refine lv_istore hx hb d_M_givenUpTo_4 hl (by decide) rfl (fun ls hl => ?_)
    have hl : lv_has ls 8 [(5, .int (0 : Int32)), (4, .int (0 : Int32)), (0, .ref p0), (1, .int p1), (2, .long p2)] := hl
    exact m_M_givenUpTo_b6 hret C gFuel _ _ _ _ _ hF _ _ _ (lv_sub hl [2, 3, 4, 1, 0] rfl) hw
  refine key _ (fun pc ls H locs x he hd hw => ?_)
  · cases he
    exact W.iret hx hb hr (fun t ht _ => ⟨⟨_, (), rfl, rfl, ga_o hw ht⟩, hw.2.2.2.1.F ht⟩) hw.2.2.2.1.2.2 hd
set_option maxHeartbeats 4000000 in
set_option maxRecDepth 100000 in
theorem m_M_afterGive_b97 {zz : gMI × gMJ} (hret : ∀ (pc : Nat) (ls : Array Slot) (H : Heap) (locs : List Loc) (I1 : gMI) (J1 : gMJ), (I1, J1) = zz → decode prog_10_method_26_code pc = .ok (.return_, 1) → ga_W D T z L S I1 J1 s H locs → W p l e rm_M_afterGive s m args below meth c H locs 0 0 Q (F0 m pc ls [])) (C : CallFix p m c prog_10_method_26_code 8 s args ga_ws "RankHouseModel") (k38 : gMI → gMJ → Nat → Int32 → Int32 → Int32 → Int32 → Int32 → Int32 → Option (gMI × gMJ)) (hk38 : ∀ (I : gMI) (J : gMJ) (l0 : Nat) (l1 : Int32) (l2 : Int32) (l3 : Int32) (l4 : Int32) (l5 : Int32) (l6 : Int32), k38 I J l0 l1 l2 l3 l4 l5 l6 = some zz → ∀ (ls : Array Slot) (H : Heap) (locs : List Loc), lv_has ls 8 [(0, .ref l0), (1, .int l1), (2, .int l2), (3, .int l3), (4, .int l4), (5, .int l5), (6, .int l6)] → ga_W D T z L S I J s H locs → W p l e rm_M_afterGive s m args below meth c H locs 0 0 Q (F0 m 38 ls [])) : ∀ (I : gMI) (J : gMJ) (s0 : Int32) (l0 : Nat) (l1 : Int32) (l2 : Int32) (l4 : Int32) (l5 : Int32) (l6 : Int32), f_M_afterGive_b97 S k38 I J s0 l0 l1 l2 l4 l5 l6 = some zz → ∀ (ls : Array Slot) (H : Heap) (locs : List Loc), lv_has ls 8 [(0, .ref l0), (1, .int l1), (2, .int l2), (4, .int l4), (5, .int l5), (6, .int l6)] → ga_W D T z L S I J s H locs → W p l e rm_M_afterGive s m args below meth c H locs 0 0 Q (F0 m 97 ls [.int s0]) := by
  intro I J s0 l0 l1 l2 l4 l5 l6 hF ls H locs hl hw
  have hx := C.1
  have hb := C.2.1
  rw [f_M_afterGive_b97] at hF
  refine lv_istore_n hx hb d_M_afterGive_97 rfl hl (by decide) rfl (fun ls hl => ?_)
  have hl : lv_has ls 8 [(3, .int s0), (0, .ref l0), (1, .int l1), (2, .int l2), (4, .int l4), (5, .int l5), (6, .int l6)] := hl
  obtain ⟨v1, ev1, hF⟩ := bnd_ex hF
  refine lv_iinc (k := 6) (v := v1) hx hb d_M_afterGive_98 hl rfl (by rw [ev1]; rfl) (by decide) rfl (fun ls hl => ?_)
  have hl : lv_has ls 8 [(6, .int v1), (3, .int s0), (0, .ref l0), (1, .int l1), (2, .int l2), (4, .int l4), (5, .int l5)] := hl
  refine lv_goto (tgt := 38) hx hb d_M_afterGive_101 (by decide) ?_
  exact hk38 _ _ _ _ _ _ _ _ _ hF _ _ _ (lv_sub hl [2, 3, 4, 1, 5, 6, 0] rfl) hw
set_option maxHeartbeats 4000000 in
set_option maxRecDepth 100000 in
theorem m_M_afterGive_b96 {zz : gMI × gMJ} (hret : ∀ (pc : Nat) (ls : Array Slot) (H : Heap) (locs : List Loc) (I1 : gMI) (J1 : gMJ), (I1, J1) = zz → decode prog_10_method_26_code pc = .ok (.return_, 1) → ga_W D T z L S I1 J1 s H locs → W p l e rm_M_afterGive s m args below meth c H locs 0 0 Q (F0 m pc ls [])) (C : CallFix p m c prog_10_method_26_code 8 s args ga_ws "RankHouseModel") (k38 : gMI → gMJ → Nat → Int32 → Int32 → Int32 → Int32 → Int32 → Int32 → Option (gMI × gMJ)) (hk38 : ∀ (I : gMI) (J : gMJ) (l0 : Nat) (l1 : Int32) (l2 : Int32) (l3 : Int32) (l4 : Int32) (l5 : Int32) (l6 : Int32), k38 I J l0 l1 l2 l3 l4 l5 l6 = some zz → ∀ (ls : Array Slot) (H : Heap) (locs : List Loc), lv_has ls 8 [(0, .ref l0), (1, .int l1), (2, .int l2), (3, .int l3), (4, .int l4), (5, .int l5), (6, .int l6)] → ga_W D T z L S I J s H locs → W p l e rm_M_afterGive s m args below meth c H locs 0 0 Q (F0 m 38 ls [])) : ∀ (I : gMI) (J : gMJ) (l0 : Nat) (l1 : Int32) (l2 : Int32) (l3 : Int32) (l4 : Int32) (l5 : Int32) (l6 : Int32), f_M_afterGive_b96 S k38 I J l0 l1 l2 l3 l4 l5 l6 = some zz → ∀ (ls : Array Slot) (H : Heap) (locs : List Loc), lv_has ls 8 [(0, .ref l0), (1, .int l1), (2, .int l2), (3, .int l3), (4, .int l4), (5, .int l5), (6, .int l6)] → ga_W D T z L S I J s H locs → W p l e rm_M_afterGive s m args below meth c H locs 0 0 Q (F0 m 96 ls []) := by
  intro I J l0 l1 l2 l3 l4 l5 l6 hF ls H locs hl hw
  have hx := C.1
  have hb := C.2.1
  rw [f_M_afterGive_b96] at hF
  refine lv_iload_n hx hb d_M_afterGive_96 rfl (lv_at hl 3 rfl) ?_
  exact m_M_afterGive_b97 hret C k38 hk38 _ _ _ _ _ _ _ _ _ hF _ _ _ (lv_sub hl [0, 1, 2, 4, 5, 6] rfl) hw
set_option maxHeartbeats 4000000 in
set_option maxRecDepth 100000 in
theorem m_M_afterGive_b38 {zz : gMI × gMJ} (hret : ∀ (pc : Nat) (ls : Array Slot) (H : Heap) (locs : List Loc) (I1 : gMI) (J1 : gMJ), (I1, J1) = zz → decode prog_10_method_26_code pc = .ok (.return_, 1) → ga_W D T z L S I1 J1 s H locs → W p l e rm_M_afterGive s m args below meth c H locs 0 0 Q (F0 m pc ls [])) (C : CallFix p m c prog_10_method_26_code 8 s args ga_ws "RankHouseModel") (k19 : gMI → gMJ → Nat → Int32 → Int32 → Int32 → Int32 → Option (gMI × gMJ)) (hk19 : ∀ (I : gMI) (J : gMJ) (l0 : Nat) (l1 : Int32) (l2 : Int32) (l3 : Int32) (l4 : Int32), k19 I J l0 l1 l2 l3 l4 = some zz → ∀ (ls : Array Slot) (H : Heap) (locs : List Loc), lv_has ls 8 [(0, .ref l0), (1, .int l1), (2, .int l2), (3, .int l3), (4, .int l4)] → ga_W D T z L S I J s H locs → W p l e rm_M_afterGive s m args below meth c H locs 0 0 Q (F0 m 19 ls [])) : ∀ (n : Nat) (I : gMI) (J : gMJ) (l0 : Nat) (l1 : Int32) (l2 : Int32) (l3 : Int32) (l4 : Int32) (l5 : Int32) (l6 : Int32), f_M_afterGive_b38 S k19 n I J l0 l1 l2 l3 l4 l5 l6 = some zz → ∀ (ls : Array Slot) (H : Heap) (locs : List Loc), lv_has ls 8 [(0, .ref l0), (1, .int l1), (2, .int l2), (3, .int l3), (4, .int l4), (5, .int l5), (6, .int l6)] → ga_W D T z L S I J s H locs → W p l e rm_M_afterGive s m args below meth c H locs 0 0 Q (F0 m 38 ls []) := by
  intro n
  induction n with
  | zero =>
    intro I J l0 l1 l2 l3 l4 l5 l6 hF ls H locs hl hw
    rw [f_M_afterGive_b38] at hF
    cases hF
  | succ n ih =>
    intro I J l0 l1 l2 l3 l4 l5 l6 hF ls H locs hl hw
    have hx := C.1
    have hb := C.2.1
    rw [f_M_afterGive_b38] at hF
    refine lv_iload hx hb d_M_afterGive_38 (lv_at hl 6 rfl) ?_
    refine lv_aload_n hx hb d_M_afterGive_40 rfl (lv_at hl 0 rfl) ?_
    obtain ⟨t1, hF⟩ := gd_ex hF
    obtain ⟨r2, hr2, hF⟩ := ob_ex hF
    refine ga_getR C hw gf_M_96 t1 hr2 d_M_afterGive_41 ?_
    refine lv_iload hx hb d_M_afterGive_44 (lv_at hl 5 rfl) ?_
    obtain ⟨t3, hF⟩ := gd_ex hF
    obtain ⟨b4, hF⟩ := gd_ex hF
    refine ga_iald C hw t3 b4 d_M_afterGive_46 ?_
    by_cases h5 : (I r2 l5.toNatClampNeg) ≤ l6
    · rw [if_pos h5] at hF
      refine lv_icmp_ge (tgt := 104) hx hb d_M_afterGive_47 (by decide) (fun _ => ?_) (fun hn => absurd h5 hn)
      obtain ⟨v6, ev6, hF⟩ := bnd_ex hF
      refine lv_iinc (k := 4) (v := v6) hx hb d_M_afterGive_104 hl rfl (by rw [ev6]; rfl) (by decide) rfl (fun ls hl => ?_)
      have hl : lv_has ls 8 [(4, .int v6), (0, .ref l0), (1, .int l1), (2, .int l2), (3, .int l3), (5, .int l5), (6, .int l6)] := hl
      refine lv_goto (tgt := 19) hx hb d_M_afterGive_107 (by decide) ?_
      exact hk19 _ _ _ _ _ _ _ hF _ _ _ (lv_sub hl [1, 2, 3, 4, 0] rfl) hw
    · rw [if_neg h5] at hF
      refine lv_icmp_ge (tgt := 104) hx hb d_M_afterGive_47 (by decide) (fun hp => absurd hp h5) (fun _ => ?_)
      refine lv_aload_n hx hb d_M_afterGive_50 rfl (lv_at hl 0 rfl) ?_
      obtain ⟨r7, hr7, hF⟩ := ob_ex hF
      refine ga_getR C hw gf_M_99 t1 hr7 d_M_afterGive_51 ?_
      refine lv_bipush (v := 64) hx hb d_M_afterGive_54 (by decide) ?_
      refine lv_iload hx hb d_M_afterGive_56 (lv_at hl 5 rfl) ?_
      refine lv_imul hx hb d_M_afterGive_58 ?_
      refine lv_iload hx hb d_M_afterGive_59 (lv_at hl 6 rfl) ?_
      refine lv_iadd hx hb d_M_afterGive_61 ?_
      obtain ⟨t8, hF⟩ := gd_ex hF
      obtain ⟨b9, hF⟩ := gd_ex hF
      refine ga_iald C hw t8 b9 d_M_afterGive_62 ?_
      refine lv_topi (fun v10 ev10 => ?_)
      replace hF := bnd_at hF ev10
      refine lv_istore hx hb d_M_afterGive_63 hl (by decide) rfl (fun ls hl => ?_)
      have hl : lv_has ls 8 [(7, .int v10), (0, .ref l0), (1, .int l1), (2, .int l2), (3, .int l3), (4, .int l4), (5, .int l5), (6, .int l6)] := hl
      refine lv_aload_n hx hb d_M_afterGive_65 rfl (lv_at hl 1 rfl) ?_
      refine lv_iload_n hx hb d_M_afterGive_66 rfl (lv_at hl 2 rfl) ?_
      refine lv_iload hx hb d_M_afterGive_67 (lv_at hl 0 rfl) ?_
      refine lv_i2l hx hb d_M_afterGive_69 rfl ?_
      refine lv_lconst (v := 1) hx hb d_M_afterGive_70 (by decide) ?_
      refine lv_lsub hx hb d_M_afterGive_71 ?_
      obtain ⟨x11, c12, hF⟩ := ob_ex hF
      refine ga_cVi (As := [.int l1, .long (v10.toInt64 - (1 : Int64))]) C hw (c_M_givenUpTo l D T z L c12) gy_M_186 t1 rfl hl.1 ⟨Nat.le_of_ble_eq_true rfl, Nat.le_of_ble_eq_true rfl, rfl, rfl, Nat.le_of_ble_eq_true rfl, Nat.le_of_ble_eq_true rfl⟩ (Nat.le_of_ble_eq_true rfl) rfl d_M_afterGive_72 (fun H locs hw => ?_)
      refine lv_iload_n hx hb d_M_afterGive_75 rfl (lv_at hl 3 rfl) ?_
      by_cases h13 : l2 ≤ x11
      · rw [if_pos h13] at hF
        refine lv_icmp_ge (tgt := 96) hx hb d_M_afterGive_76 (by decide) (fun _ => ?_) (fun hn => absurd h13 hn)
        exact m_M_afterGive_b96 hret C _ ih _ _ _ _ _ _ _ _ _ hF _ _ _ (lv_sub hl [1, 2, 3, 4, 5, 6, 7] rfl) hw
      · rw [if_neg h13] at hF
        refine lv_icmp_ge (tgt := 96) hx hb d_M_afterGive_76 (by decide) (fun hp => absurd hp h13) (fun _ => ?_)
        refine lv_aload_n hx hb d_M_afterGive_79 rfl (lv_at hl 1 rfl) ?_
        refine lv_iload_n hx hb d_M_afterGive_80 rfl (lv_at hl 2 rfl) ?_
        refine lv_iload hx hb d_M_afterGive_81 (lv_at hl 0 rfl) ?_
        refine lv_i2l hx hb d_M_afterGive_83 rfl ?_
        obtain ⟨x14, c15, hF⟩ := ob_ex hF
        refine ga_cVi (As := [.int l1, .long v10.toInt64]) C hw (c_M_givenUpTo l D T z L c15) gy_M_186 t1 rfl hl.1 ⟨Nat.le_of_ble_eq_true rfl, Nat.le_of_ble_eq_true rfl, rfl, rfl, Nat.le_of_ble_eq_true rfl, Nat.le_of_ble_eq_true rfl⟩ (Nat.le_of_ble_eq_true rfl) rfl d_M_afterGive_84 (fun H locs hw => ?_)
        refine lv_iload_n hx hb d_M_afterGive_87 rfl (lv_at hl 3 rfl) ?_
        by_cases h16 : x14 < l2
        · rw [if_pos h16] at hF
          refine lv_icmp_lt (tgt := 96) hx hb d_M_afterGive_88 (by decide) (fun _ => ?_) (fun hn => absurd h16 hn)
          exact m_M_afterGive_b96 hret C _ ih _ _ _ _ _ _ _ _ _ hF _ _ _ (lv_sub hl [1, 2, 3, 4, 5, 6, 7] rfl) hw
        · rw [if_neg h16] at hF
          refine lv_icmp_lt (tgt := 96) hx hb d_M_afterGive_88 (by decide) (fun hp => absurd hp h16) (fun _ => ?_)
          refine lv_iload hx hb d_M_afterGive_91 (lv_at hl 0 rfl) ?_
          refine lv_goto (tgt := 97) hx hb d_M_afterGive_93 (by decide) ?_
          exact m_M_afterGive_b97 hret C _ ih _ _ _ _ _ _ _ _ _ hF _ _ _ (lv_sub hl [1, 2, 3, 5, 6, 7] rfl) hw
set_option maxHeartbeats 4000000 in
set_option maxRecDepth 100000 in
theorem m_M_afterGive_b19 {zz : gMI × gMJ} (hret : ∀ (pc : Nat) (ls : Array Slot) (H : Heap) (locs : List Loc) (I1 : gMI) (J1 : gMJ), (I1, J1) = zz → decode prog_10_method_26_code pc = .ok (.return_, 1) → ga_W D T z L S I1 J1 s H locs → W p l e rm_M_afterGive s m args below meth c H locs 0 0 Q (F0 m pc ls [])) (C : CallFix p m c prog_10_method_26_code 8 s args ga_ws "RankHouseModel") : ∀ (n : Nat) (I : gMI) (J : gMJ) (l0 : Nat) (l1 : Int32) (l2 : Int32) (l3 : Int32) (l4 : Int32), f_M_afterGive_b19 S n I J l0 l1 l2 l3 l4 = some zz → ∀ (ls : Array Slot) (H : Heap) (locs : List Loc), lv_has ls 8 [(0, .ref l0), (1, .int l1), (2, .int l2), (3, .int l3), (4, .int l4)] → ga_W D T z L S I J s H locs → W p l e rm_M_afterGive s m args below meth c H locs 0 0 Q (F0 m 19 ls []) := by
  intro n
  induction n with
  | zero =>
    intro I J l0 l1 l2 l3 l4 hF ls H locs hl hw
    rw [f_M_afterGive_b19] at hF
    cases hF
  | succ n ih =>
    intro I J l0 l1 l2 l3 l4 hF ls H locs hl hw
    have hx := C.1
    have hb := C.2.1
    rw [f_M_afterGive_b19] at hF
    refine lv_iload hx hb d_M_afterGive_19 (lv_at hl 4 rfl) ?_
    refine lv_bipush (v := 8) hx hb d_M_afterGive_21 (by decide) ?_
    by_cases h1 : (8 : Int32) ≤ l4
    · rw [if_pos h1] at hF
      refine lv_icmp_ge (tgt := 110) hx hb d_M_afterGive_23 (by decide) (fun _ => ?_) (fun hn => absurd h1 hn)
      refine lv_aload_n hx hb d_M_afterGive_110 rfl (lv_at hl 0 rfl) ?_
      refine lv_iload_n hx hb d_M_afterGive_111 rfl (lv_at hl 1 rfl) ?_
      refine lv_iload_n hx hb d_M_afterGive_112 rfl (lv_at hl 3 rfl) ?_
      obtain ⟨t2, hF⟩ := gd_ex hF
      obtain ⟨I3, J4, c5, hF⟩ := bd2_ex hF
      refine ga_cVv (As := [.int l1, .int l3]) C hw (c_M_isFound l D T z L c5) gy_M_183 t2 rfl hl.1 ⟨Nat.le_of_ble_eq_true rfl, Nat.le_of_ble_eq_true rfl, rfl, rfl, Nat.le_of_ble_eq_true rfl, Nat.le_of_ble_eq_true rfl⟩ (Nat.le_of_ble_eq_true rfl) rfl d_M_afterGive_113 (fun H locs hw => ?_)
      exact hret _ _ _ _ _ _ (Option.some.inj hF) d_M_afterGive_116 hw
    · rw [if_neg h1] at hF
      refine lv_icmp_ge (tgt := 110) hx hb d_M_afterGive_23 (by decide) (fun hp => absurd hp h1) (fun _ => ?_)
      refine lv_bipush (v := 8) hx hb d_M_afterGive_26 (by decide) ?_
      refine lv_iload_n hx hb d_M_afterGive_28 rfl (lv_at hl 1 rfl) ?_
      refine lv_imul hx hb d_M_afterGive_29 ?_
      refine lv_iload hx hb d_M_afterGive_30 (lv_at hl 4 rfl) ?_
      refine lv_iadd hx hb d_M_afterGive_32 ?_
      refine lv_topi (fun v6 ev6 => ?_)
      replace hF := bnd_at hF ev6
      refine lv_istore hx hb d_M_afterGive_33 hl (by decide) rfl (fun ls hl => ?_)
      have hl : lv_has ls 8 [(5, .int v6), (0, .ref l0), (1, .int l1), (2, .int l2), (3, .int l3), (4, .int l4)] := hl
      refine lv_iconst (v := 0) hx hb d_M_afterGive_35 (by decide) ?_
      refine lv_istore hx hb d_M_afterGive_36 hl (by decide) rfl (fun ls hl => ?_)
      have hl : lv_has ls 8 [(6, .int (0 : Int32)), (5, .int v6), (0, .ref l0), (1, .int l1), (2, .int l2), (3, .int l3), (4, .int l4)] := hl
      exact m_M_afterGive_b38 hret C _ ih gFuel _ _ _ _ _ _ _ _ _ hF _ _ _ (lv_sub hl [2, 3, 4, 5, 6, 1, 0] rfl) hw
set_option maxHeartbeats 4000000 in
set_option maxRecDepth 100000 in
theorem c_M_afterGive (l : Launch) (D : va_G) (T : Nat → ClassId) (z : Nat) (L : List Nat) {S : gS} {I : gMI} {J : gMJ} {p0 : Nat} {p1 : Int32} {RI : gMI} {RJ : gMJ} (hF : f_M_afterGive S I J p0 p1 = some (RI, RJ)) : ga_Mv l y_M_afterGive prog_10_method_26_code 8 (Option.none : Option Jvm.ClassFile.FieldType) rm_M_afterGive [.ref p0, .int p1] D T z L S I J RI RJ := by
  refine Met.ofW (cc := prog_10_method_26_code) (maxL := 8) (ret := (Option.none : Option Jvm.ClassFile.FieldType)) (by decide) rfl ?_
  intro p e s m args below meth c s₁ B hml hv
  obtain ⟨ha, hv⟩ := hv
  have hx := B.exec
  have hb := B.bytes
  have hr := B.returns
  have hts := atoms_spec (ws := .code y_M_afterGive prog_10_method_26_code 8 (Option.none : Option Jvm.ClassFile.FieldType) :: ga_ws) B.pre
  have hown : s.vm.findClass "RankHouseModel" = some m.cls := findClass_of_methodNamed B.named
  have hlocks := B.notSynchronized
  have C : CallFix p m c prog_10_method_26_code 8 s args ga_ws "RankHouseModel" := ⟨hx, hb, hml, hown, fun w h => hts w (List.mem_cons_of_mem _ h)⟩
  have hw := ga_start hv
  have hl := lv_entry ([.ref p0, .int p1]) (n := 8) (Nat.le_of_ble_eq_true rfl)
  rw [show entryFrame m args 8 = entryFrame m ([.ref p0, .int p1] : List Value).toArray 8 by rw [ha], lg_entry_eq]
  generalize (lg_sl ([.ref p0, .int p1]) ++ List.replicate (8 - (lg_sl ([.ref p0, .int p1])).length) Slot.unset).toArray = ls at hl ⊢
  have hl : lv_has ls 8 [(0, .ref p0), (1, .int p1)] := hl
  have key : ∀ Q : State → Prop, (∀ (pc : Nat) (ls : Array Slot) (H : Heap) (locs : List Loc) (I1 : gMI) (J1 : gMJ), (I1, J1) = (RI, RJ) → decode prog_10_method_26_code pc = .ok (.return_, 1) → ga_W D T z L S I1 J1 s H locs → W p l e rm_M_afterGive s m args below meth c H locs 0 0 Q (F0 m pc ls [])) → W p l e rm_M_afterGive s m args below meth c s.heap [] 0 0 Q (F0 m 0 ls []) := by
    intro Q hret
    rw [f_M_afterGive] at hF
    refine lv_aload_n hx hb d_M_afterGive_0 rfl (lv_at hl 0 rfl) ?_
    obtain ⟨t1, hF⟩ := gd_ex hF
    obtain ⟨r2, hr2, hF⟩ := ob_ex hF
    refine ga_getR C hw gf_M_68 t1 hr2 d_M_afterGive_1 ?_
    refine lv_iload_n hx hb d_M_afterGive_4 rfl (lv_at hl 1 rfl) ?_
    obtain ⟨t3, hF⟩ := gd_ex hF
    obtain ⟨b4, hF⟩ := gd_ex hF
    refine ga_iald C hw t3 b4 d_M_afterGive_5 ?_
    refine lv_aload_n hx hb d_M_afterGive_6 rfl (lv_at hl 0 rfl) ?_
    obtain ⟨r5, hr5, hF⟩ := ob_ex hF
    refine ga_getR C hw gf_M_65 t1 hr5 d_M_afterGive_7 ?_
    refine lv_iload_n hx hb d_M_afterGive_10 rfl (lv_at hl 1 rfl) ?_
    obtain ⟨t6, hF⟩ := gd_ex hF
    obtain ⟨b7, hF⟩ := gd_ex hF
    refine ga_iald C hw t6 b7 d_M_afterGive_11 ?_
    refine lv_isub hx hb d_M_afterGive_12 ?_
    refine lv_topi (fun v8 ev8 => ?_)
    replace hF := bnd_at hF ev8
    refine lv_istore_n hx hb d_M_afterGive_13 rfl hl (by decide) rfl (fun ls hl => ?_)
    have hl : lv_has ls 8 [(2, .int v8), (0, .ref p0), (1, .int p1)] := hl
    refine lv_iconst (v := 0) hx hb d_M_afterGive_14 (by decide) ?_
    refine lv_istore_n hx hb d_M_afterGive_15 rfl hl (by decide) rfl (fun ls hl => ?_)
    have hl : lv_has ls 8 [(3, .int (0 : Int32)), (2, .int v8), (0, .ref p0), (1, .int p1)] := hl
    refine lv_iconst (v := 0) hx hb d_M_afterGive_16 (by decide) ?_
    refine lv_istore hx hb d_M_afterGive_17 hl (by decide) rfl (fun ls hl => ?_)
    have hl : lv_has ls 8 [(4, .int (0 : Int32)), (3, .int (0 : Int32)), (2, .int v8), (0, .ref p0), (1, .int p1)] := hl
    exact m_M_afterGive_b19 hret C gFuel _ _ _ _ _ _ _ hF _ _ _ (lv_sub hl [3, 4, 2, 1, 0] rfl) hw
  refine key _ (fun pc ls H locs I1 J1 he hd hw => ?_)
  · cases he
    exact W.vret hx hb hr (fun t ht _ => ⟨⟨(), rfl, trivial, ga_o hw ht⟩, hw.2.2.2.1.F ht⟩) hw.2.2.2.1.2.2 hd
set_option maxHeartbeats 4000000 in
set_option maxRecDepth 100000 in
theorem m_M_afterAdd_b5 {zz : gMI × gMJ} (hret : ∀ (pc : Nat) (ls : Array Slot) (H : Heap) (locs : List Loc) (I1 : gMI) (J1 : gMJ), (I1, J1) = zz → decode prog_10_method_28_code pc = .ok (.return_, 1) → ga_W D T z L S I1 J1 s H locs → W p l e rm_M_afterAdd s m args below meth c H locs 0 0 Q (F0 m pc ls [])) (C : CallFix p m c prog_10_method_28_code 9 s args ga_ws "RankHouseModel") : ∀ (n : Nat) (I : gMI) (J : gMJ) (l0 : Nat) (l1 : Int32) (l2 : Int64) (l4 : Int32), f_M_afterAdd_b5 S n I J l0 l1 l2 l4 = some zz → ∀ (ls : Array Slot) (H : Heap) (locs : List Loc), lv_has ls 9 [(0, .ref l0), (1, .int l1), (2, .long l2), (4, .int l4)] → ga_W D T z L S I J s H locs → W p l e rm_M_afterAdd s m args below meth c H locs 0 0 Q (F0 m 5 ls []) := by
  intro n
  induction n with
  | zero =>
    intro I J l0 l1 l2 l4 hF ls H locs hl hw
    rw [f_M_afterAdd_b5] at hF
    cases hF
  | succ n ih =>
    intro I J l0 l1 l2 l4 hF ls H locs hl hw
    have hx := C.1
    have hb := C.2.1
    rw [f_M_afterAdd_b5] at hF
    refine lv_iload hx hb d_M_afterAdd_5 (lv_at hl 3 rfl) ?_
    refine lv_bipush (v := 8) hx hb d_M_afterAdd_7 (by decide) ?_
    by_cases h1 : (8 : Int32) ≤ l4
    · rw [if_pos h1] at hF
      refine lv_icmp_ge (tgt := 33) hx hb d_M_afterAdd_9 (by decide) (fun _ => ?_) (fun hn => absurd h1 hn)
      refine lv_aload_n hx hb d_M_afterAdd_33 rfl (lv_at hl 0 rfl) ?_
      refine lv_iload_n hx hb d_M_afterAdd_34 rfl (lv_at hl 1 rfl) ?_
      refine lv_iconst (v := 0) hx hb d_M_afterAdd_35 (by decide) ?_
      obtain ⟨t2, hF⟩ := gd_ex hF
      obtain ⟨x3, c4, hF⟩ := ob_ex hF
      refine ga_cVi (As := [.int l1, .int (0 : Int32)]) C hw (c_M_total l D T z L c4) gy_M_172 t2 rfl hl.1 ⟨Nat.le_of_ble_eq_true rfl, Nat.le_of_ble_eq_true rfl, rfl, rfl, Nat.le_of_ble_eq_true rfl, Nat.le_of_ble_eq_true rfl⟩ (Nat.le_of_ble_eq_true rfl) rfl d_M_afterAdd_36 (fun H locs hw => ?_)
      refine lv_aload_n hx hb d_M_afterAdd_39 rfl (lv_at hl 0 rfl) ?_
      refine lv_iload_n hx hb d_M_afterAdd_40 rfl (lv_at hl 1 rfl) ?_
      refine lv_iconst (v := 1) hx hb d_M_afterAdd_41 (by decide) ?_
      obtain ⟨x5, c6, hF⟩ := ob_ex hF
      refine ga_cVi (As := [.int l1, .int (1 : Int32)]) C hw (c_M_total l D T z L c6) gy_M_172 t2 rfl hl.1 ⟨Nat.le_of_ble_eq_true rfl, Nat.le_of_ble_eq_true rfl, rfl, rfl, Nat.le_of_ble_eq_true rfl, Nat.le_of_ble_eq_true rfl⟩ (Nat.le_of_ble_eq_true rfl) rfl d_M_afterAdd_42 (fun H locs hw => ?_)
      refine lv_iadd hx hb d_M_afterAdd_45 ?_
      refine lv_topi (fun v7 ev7 => ?_)
      replace hF := bnd_at hF ev7
      refine lv_istore hx hb d_M_afterAdd_46 hl (by decide) rfl (fun ls hl => ?_)
      have hl : lv_has ls 9 [(4, .int v7), (0, .ref l0), (1, .int l1), (2, .long l2)] := hl
      refine lv_aload_n hx hb d_M_afterAdd_48 rfl (lv_at hl 1 rfl) ?_
      obtain ⟨r8, hr8, hF⟩ := ob_ex hF
      refine ga_getR C hw gf_M_77 t2 hr8 d_M_afterAdd_49 ?_
      refine lv_iload_n hx hb d_M_afterAdd_52 rfl (lv_at hl 2 rfl) ?_
      obtain ⟨t9, hF⟩ := gd_ex hF
      obtain ⟨b10, hF⟩ := gd_ex hF
      refine ga_iald C hw t9 b10 d_M_afterAdd_53 ?_
      refine lv_i2l hx hb d_M_afterAdd_54 rfl ?_
      refine lv_iload hx hb d_M_afterAdd_55 (lv_at hl 0 rfl) ?_
      refine lv_aload_n hx hb d_M_afterAdd_57 rfl (lv_at hl 1 rfl) ?_
      refine lv_iload_n hx hb d_M_afterAdd_58 rfl (lv_at hl 2 rfl) ?_
      obtain ⟨x11, c12, hF⟩ := ob_ex hF
      refine ga_cVi (As := [.int l1]) C hw (c_M_firstRank l D T z L c12) gy_M_164 t2 rfl hl.1 ⟨Nat.le_of_ble_eq_true rfl, Nat.le_of_ble_eq_true rfl, rfl, rfl, Nat.le_of_ble_eq_true rfl, Nat.le_of_ble_eq_true rfl⟩ (Nat.le_of_ble_eq_true rfl) rfl d_M_afterAdd_59 (fun H locs hw => ?_)
      refine lv_isub hx hb d_M_afterAdd_62 ?_
      refine lv_iconst (v := 1) hx hb d_M_afterAdd_63 (by decide) ?_
      refine lv_iadd hx hb d_M_afterAdd_64 ?_
      refine lv_i2l hx hb d_M_afterAdd_65 rfl ?_
      refine lv_lmul hx hb d_M_afterAdd_66 ?_
      refine lv_topl (fun v13 ev13 => ?_)
      replace hF := bnd_at hF ev13
      refine lv_lstore hx hb d_M_afterAdd_67 hl (by decide) rfl (fun ls hl => ?_)
      have hl : lv_has ls 9 [(5, .long v13), (4, .int v7), (0, .ref l0), (1, .int l1), (2, .long l2)] := hl
      refine lv_aload_n hx hb d_M_afterAdd_69 rfl (lv_at hl 2 rfl) ?_
      obtain ⟨r14, hr14, hF⟩ := ob_ex hF
      refine ga_getR C hw gf_M_80 t2 hr14 d_M_afterAdd_70 ?_
      refine lv_iload_n hx hb d_M_afterAdd_73 rfl (lv_at hl 3 rfl) ?_
      obtain ⟨t15, hF⟩ := gd_ex hF
      obtain ⟨b16, hF⟩ := gd_ex hF
      refine ga_iald C hw t15 b16 d_M_afterAdd_74 ?_
      refine lv_i2l hx hb d_M_afterAdd_75 rfl ?_
      refine lv_aload_n hx hb d_M_afterAdd_76 rfl (lv_at hl 2 rfl) ?_
      refine lv_iload_n hx hb d_M_afterAdd_77 rfl (lv_at hl 3 rfl) ?_
      obtain ⟨x17, c18, hF⟩ := ob_ex hF
      refine ga_cVi (As := [.int l1]) C hw (c_M_lastRank l D T z L c18) gy_M_160 t2 rfl hl.1 ⟨Nat.le_of_ble_eq_true rfl, Nat.le_of_ble_eq_true rfl, rfl, rfl, Nat.le_of_ble_eq_true rfl, Nat.le_of_ble_eq_true rfl⟩ (Nat.le_of_ble_eq_true rfl) rfl d_M_afterAdd_78 (fun H locs hw => ?_)
      refine lv_iload hx hb d_M_afterAdd_81 (lv_at hl 1 rfl) ?_
      refine lv_isub hx hb d_M_afterAdd_83 ?_
      refine lv_aload_n hx hb d_M_afterAdd_84 rfl (lv_at hl 2 rfl) ?_
      refine lv_iload_n hx hb d_M_afterAdd_85 rfl (lv_at hl 3 rfl) ?_
      refine lv_iconst (v := 2) hx hb d_M_afterAdd_86 (by decide) ?_
      obtain ⟨x19, c20, hF⟩ := ob_ex hF
      refine ga_cVi (As := [.int l1, .int (2 : Int32)]) C hw (c_M_total l D T z L c20) gy_M_172 t2 rfl hl.1 ⟨Nat.le_of_ble_eq_true rfl, Nat.le_of_ble_eq_true rfl, rfl, rfl, Nat.le_of_ble_eq_true rfl, Nat.le_of_ble_eq_true rfl⟩ (Nat.le_of_ble_eq_true rfl) rfl d_M_afterAdd_87 (fun H locs hw => ?_)
      refine lv_isub hx hb d_M_afterAdd_90 ?_
      refine lv_i2l hx hb d_M_afterAdd_91 rfl ?_
      refine lv_lmul hx hb d_M_afterAdd_92 ?_
      refine lv_topl (fun v21 ev21 => ?_)
      replace hF := bnd_at hF ev21
      refine lv_lstore hx hb d_M_afterAdd_93 hl (by decide) rfl (fun ls hl => ?_)
      have hl : lv_has ls 9 [(7, .long v21), (5, .long v13), (4, .int v7), (0, .ref l0), (1, .int l1), (2, .long l2)] := hl
      refine lv_aload_n hx hb d_M_afterAdd_95 rfl (lv_at hl 3 rfl) ?_
      refine lv_iload_n hx hb d_M_afterAdd_96 rfl (lv_at hl 4 rfl) ?_
      refine lv_lload hx hb d_M_afterAdd_97 (lv_at hl 1 rfl) ?_
      refine lv_lload_n hx hb d_M_afterAdd_99 rfl (lv_at hl 5 rfl) ?_
      refine lv_ladd hx hb d_M_afterAdd_100 ?_
      refine lv_lload hx hb d_M_afterAdd_101 (lv_at hl 0 rfl) ?_
      refine lv_ladd hx hb d_M_afterAdd_103 ?_
      obtain ⟨I22, J23, c24, hF⟩ := bd2_ex hF
      refine ga_cVv (As := [.int l1, .long ((v13 + l2) + v21)]) C hw (c_M_answered l D T z L c24) gy_M_190 t2 rfl hl.1 ⟨Nat.le_of_ble_eq_true rfl, Nat.le_of_ble_eq_true rfl, rfl, rfl, Nat.le_of_ble_eq_true rfl, Nat.le_of_ble_eq_true rfl⟩ (Nat.le_of_ble_eq_true rfl) rfl d_M_afterAdd_104 (fun H locs hw => ?_)
      exact hret _ _ _ _ _ _ (Option.some.inj hF) d_M_afterAdd_107 hw
    · rw [if_neg h1] at hF
      refine lv_icmp_ge (tgt := 33) hx hb d_M_afterAdd_9 (by decide) (fun hp => absurd hp h1) (fun _ => ?_)
      refine lv_lload_n hx hb d_M_afterAdd_12 rfl (lv_at hl 2 rfl) ?_
      refine lv_aload_n hx hb d_M_afterAdd_13 rfl (lv_at hl 0 rfl) ?_
      obtain ⟨t25, hF⟩ := gd_ex hF
      obtain ⟨r26, hr26, hF⟩ := ob_ex hF
      refine ga_getR C hw gf_M_93 t25 hr26 d_M_afterAdd_14 ?_
      refine lv_bipush (v := 8) hx hb d_M_afterAdd_17 (by decide) ?_
      refine lv_iload_n hx hb d_M_afterAdd_19 rfl (lv_at hl 1 rfl) ?_
      refine lv_imul hx hb d_M_afterAdd_20 ?_
      refine lv_iload hx hb d_M_afterAdd_21 (lv_at hl 3 rfl) ?_
      refine lv_iadd hx hb d_M_afterAdd_23 ?_
      obtain ⟨t27, hF⟩ := gd_ex hF
      obtain ⟨b28, hF⟩ := gd_ex hF
      refine ga_lald C hw t27 b28 d_M_afterAdd_24 ?_
      refine lv_ladd hx hb d_M_afterAdd_25 ?_
      refine lv_topl (fun v29 ev29 => ?_)
      replace hF := bnd_at hF ev29
      refine lv_lstore_n hx hb d_M_afterAdd_26 rfl hl (by decide) rfl (fun ls hl => ?_)
      have hl : lv_has ls 9 [(2, .long v29), (0, .ref l0), (1, .int l1), (4, .int l4)] := hl
      obtain ⟨v30, ev30, hF⟩ := bnd_ex hF
      refine lv_iinc (k := 3) (v := v30) hx hb d_M_afterAdd_27 hl rfl (by rw [ev30]; rfl) (by decide) rfl (fun ls hl => ?_)
      have hl : lv_has ls 9 [(4, .int v30), (2, .long v29), (0, .ref l0), (1, .int l1)] := hl
      refine lv_goto (tgt := 5) hx hb d_M_afterAdd_30 (by decide) ?_
      exact ih _ _ _ _ _ _ hF _ _ _ (lv_sub hl [2, 3, 1, 0] rfl) hw
set_option maxHeartbeats 4000000 in
set_option maxRecDepth 100000 in
theorem c_M_afterAdd (l : Launch) (D : va_G) (T : Nat → ClassId) (z : Nat) (L : List Nat) {S : gS} {I : gMI} {J : gMJ} {p0 : Nat} {p1 : Int32} {RI : gMI} {RJ : gMJ} (hF : f_M_afterAdd S I J p0 p1 = some (RI, RJ)) : ga_Mv l y_M_afterAdd prog_10_method_28_code 9 (Option.none : Option Jvm.ClassFile.FieldType) rm_M_afterAdd [.ref p0, .int p1] D T z L S I J RI RJ := by
  refine Met.ofW (cc := prog_10_method_28_code) (maxL := 9) (ret := (Option.none : Option Jvm.ClassFile.FieldType)) (by decide) rfl ?_
  intro p e s m args below meth c s₁ B hml hv
  obtain ⟨ha, hv⟩ := hv
  have hx := B.exec
  have hb := B.bytes
  have hr := B.returns
  have hts := atoms_spec (ws := .code y_M_afterAdd prog_10_method_28_code 9 (Option.none : Option Jvm.ClassFile.FieldType) :: ga_ws) B.pre
  have hown : s.vm.findClass "RankHouseModel" = some m.cls := findClass_of_methodNamed B.named
  have hlocks := B.notSynchronized
  have C : CallFix p m c prog_10_method_28_code 9 s args ga_ws "RankHouseModel" := ⟨hx, hb, hml, hown, fun w h => hts w (List.mem_cons_of_mem _ h)⟩
  have hw := ga_start hv
  have hl := lv_entry ([.ref p0, .int p1]) (n := 9) (Nat.le_of_ble_eq_true rfl)
  rw [show entryFrame m args 9 = entryFrame m ([.ref p0, .int p1] : List Value).toArray 9 by rw [ha], lg_entry_eq]
  generalize (lg_sl ([.ref p0, .int p1]) ++ List.replicate (9 - (lg_sl ([.ref p0, .int p1])).length) Slot.unset).toArray = ls at hl ⊢
  have hl : lv_has ls 9 [(0, .ref p0), (1, .int p1)] := hl
  have key : ∀ Q : State → Prop, (∀ (pc : Nat) (ls : Array Slot) (H : Heap) (locs : List Loc) (I1 : gMI) (J1 : gMJ), (I1, J1) = (RI, RJ) → decode prog_10_method_28_code pc = .ok (.return_, 1) → ga_W D T z L S I1 J1 s H locs → W p l e rm_M_afterAdd s m args below meth c H locs 0 0 Q (F0 m pc ls [])) → W p l e rm_M_afterAdd s m args below meth c s.heap [] 0 0 Q (F0 m 0 ls []) := by
    intro Q hret
    rw [f_M_afterAdd] at hF
    refine lv_lconst (v := 0) hx hb d_M_afterAdd_0 (by decide) ?_
    refine lv_lstore_n hx hb d_M_afterAdd_1 rfl hl (by decide) rfl (fun ls hl => ?_)
    have hl : lv_has ls 9 [(2, .long (0 : Int64)), (0, .ref p0), (1, .int p1)] := hl
    refine lv_iconst (v := 0) hx hb d_M_afterAdd_2 (by decide) ?_
    refine lv_istore hx hb d_M_afterAdd_3 hl (by decide) rfl (fun ls hl => ?_)
    have hl : lv_has ls 9 [(4, .int (0 : Int32)), (2, .long (0 : Int64)), (0, .ref p0), (1, .int p1)] := hl
    exact m_M_afterAdd_b5 hret C gFuel _ _ _ _ _ _ hF _ _ _ (lv_sub hl [2, 3, 1, 0] rfl) hw
  refine key _ (fun pc ls H locs I1 J1 he hd hw => ?_)
  · cases he
    exact W.vret hx hb hr (fun t ht _ => ⟨⟨(), rfl, trivial, ga_o hw ht⟩, hw.2.2.2.1.F ht⟩) hw.2.2.2.1.2.2 hd
set_option maxHeartbeats 4000000 in
set_option maxRecDepth 100000 in
theorem m_M_goOn_b114 {zz : gMI × gMJ} (hret : ∀ (pc : Nat) (ls : Array Slot) (H : Heap) (locs : List Loc) (I1 : gMI) (J1 : gMJ), (I1, J1) = zz → decode prog_10_method_29_code pc = .ok (.return_, 1) → ga_W D T z L S I1 J1 s H locs → W p l e rm_M_goOn s m args below meth c H locs 0 0 Q (F0 m pc ls [])) (C : CallFix p m c prog_10_method_29_code 5 s args ga_ws "RankHouseModel") : ∀ (I : gMI) (J : gMJ), f_M_goOn_b114 S I J = some zz → ∀ (ls : Array Slot) (H : Heap) (locs : List Loc), lv_has ls 5 [] → ga_W D T z L S I J s H locs → W p l e rm_M_goOn s m args below meth c H locs 0 0 Q (F0 m 114 ls []) := by
  intro I J hF ls H locs hl hw
  have hx := C.1
  have hb := C.2.1
  rw [f_M_goOn_b114] at hF
  exact hret _ _ _ _ _ _ (Option.some.inj hF) d_M_goOn_114 hw
set_option maxHeartbeats 4000000 in
set_option maxRecDepth 100000 in
theorem m_M_goOn_b103 {zz : gMI × gMJ} (hret : ∀ (pc : Nat) (ls : Array Slot) (H : Heap) (locs : List Loc) (I1 : gMI) (J1 : gMJ), (I1, J1) = zz → decode prog_10_method_29_code pc = .ok (.return_, 1) → ga_W D T z L S I1 J1 s H locs → W p l e rm_M_goOn s m args below meth c H locs 0 0 Q (F0 m pc ls [])) (C : CallFix p m c prog_10_method_29_code 5 s args ga_ws "RankHouseModel") : ∀ (I : gMI) (J : gMJ) (s0 : Int64) (s1 : Int32) (s2 : Nat), f_M_goOn_b103 S I J s0 s1 s2 = some zz → ∀ (ls : Array Slot) (H : Heap) (locs : List Loc), lv_has ls 5 [] → ga_W D T z L S I J s H locs → W p l e rm_M_goOn s m args below meth c H locs 0 0 Q (F0 m 103 ls [.long s0, .int s1, .ref s2]) := by
  intro I J s0 s1 s2 hF ls H locs hl hw
  have hx := C.1
  have hb := C.2.1
  rw [f_M_goOn_b103] at hF
  obtain ⟨t1, hF⟩ := gd_ex hF
  obtain ⟨I2, J3, c4, hF⟩ := bd2_ex hF
  refine ga_cVv (As := [.int s1, .long s0]) C hw (c_M_answered l D T z L c4) gy_M_190 t1 rfl hl.1 ⟨Nat.le_of_ble_eq_true rfl, Nat.le_of_ble_eq_true rfl, rfl, rfl, Nat.le_of_ble_eq_true rfl, Nat.le_of_ble_eq_true rfl⟩ (Nat.le_of_ble_eq_true rfl) rfl d_M_goOn_103 (fun H locs hw => ?_)
  refine lv_goto (tgt := 114) hx hb d_M_goOn_106 (by decide) ?_
  exact m_M_goOn_b114 hret C _ _ hF _ _ _ hl hw
set_option maxHeartbeats 4000000 in
set_option maxRecDepth 100000 in
theorem c_M_goOn (l : Launch) (D : va_G) (T : Nat → ClassId) (z : Nat) (L : List Nat) {S : gS} {I : gMI} {J : gMJ} {p0 : Nat} {p1 : Int32} {RI : gMI} {RJ : gMJ} (hF : f_M_goOn S I J p0 p1 = some (RI, RJ)) : ga_Mv l y_M_goOn prog_10_method_29_code 5 (Option.none : Option Jvm.ClassFile.FieldType) rm_M_goOn [.ref p0, .int p1] D T z L S I J RI RJ := by
  refine Met.ofW (cc := prog_10_method_29_code) (maxL := 5) (ret := (Option.none : Option Jvm.ClassFile.FieldType)) (by decide) rfl ?_
  intro p e s m args below meth c s₁ B hml hv
  obtain ⟨ha, hv⟩ := hv
  have hx := B.exec
  have hb := B.bytes
  have hr := B.returns
  have hts := atoms_spec (ws := .code y_M_goOn prog_10_method_29_code 5 (Option.none : Option Jvm.ClassFile.FieldType) :: ga_ws) B.pre
  have hown : s.vm.findClass "RankHouseModel" = some m.cls := findClass_of_methodNamed B.named
  have hlocks := B.notSynchronized
  have C : CallFix p m c prog_10_method_29_code 5 s args ga_ws "RankHouseModel" := ⟨hx, hb, hml, hown, fun w h => hts w (List.mem_cons_of_mem _ h)⟩
  have hw := ga_start hv
  have hl := lv_entry ([.ref p0, .int p1]) (n := 5) (Nat.le_of_ble_eq_true rfl)
  rw [show entryFrame m args 5 = entryFrame m ([.ref p0, .int p1] : List Value).toArray 5 by rw [ha], lg_entry_eq]
  generalize (lg_sl ([.ref p0, .int p1]) ++ List.replicate (5 - (lg_sl ([.ref p0, .int p1])).length) Slot.unset).toArray = ls at hl ⊢
  have hl : lv_has ls 5 [(0, .ref p0), (1, .int p1)] := hl
  have key : ∀ Q : State → Prop, (∀ (pc : Nat) (ls : Array Slot) (H : Heap) (locs : List Loc) (I1 : gMI) (J1 : gMJ), (I1, J1) = (RI, RJ) → decode prog_10_method_29_code pc = .ok (.return_, 1) → ga_W D T z L S I1 J1 s H locs → W p l e rm_M_goOn s m args below meth c H locs 0 0 Q (F0 m pc ls [])) → W p l e rm_M_goOn s m args below meth c s.heap [] 0 0 Q (F0 m 0 ls []) := by
    intro Q hret
    rw [f_M_goOn] at hF
    refine lv_aload_n hx hb d_M_goOn_0 rfl (lv_at hl 0 rfl) ?_
    obtain ⟨t1, hF⟩ := gd_ex hF
    obtain ⟨r2, hr2, hF⟩ := ob_ex hF
    refine ga_getR C hw gf_M_53 t1 hr2 d_M_goOn_1 ?_
    refine lv_iload_n hx hb d_M_goOn_4 rfl (lv_at hl 1 rfl) ?_
    obtain ⟨t3, hF⟩ := gd_ex hF
    obtain ⟨b4, hF⟩ := gd_ex hF
    refine ga_iald C hw t3 b4 d_M_goOn_5 ?_
    refine lv_topi (fun v5 ev5 => ?_)
    replace hF := bnd_at hF ev5
    refine lv_istore_n hx hb d_M_goOn_6 rfl hl (by decide) rfl (fun ls hl => ?_)
    have hl : lv_has ls 5 [(2, .int v5), (0, .ref p0), (1, .int p1)] := hl
    refine lv_iload_n hx hb d_M_goOn_7 rfl (lv_at hl 0 rfl) ?_
    refine lv_iconst (v := 1) hx hb d_M_goOn_8 (by decide) ?_
    by_cases h6 : v5 = (1 : Int32)
    · rw [if_pos h6] at hF
      refine lv_icmp_ne (tgt := 20) hx hb d_M_goOn_9 (by decide) (fun hn => absurd h6 hn) (fun _ => ?_)
      refine lv_aload_n hx hb d_M_goOn_12 rfl (lv_at hl 1 rfl) ?_
      refine lv_iload_n hx hb d_M_goOn_13 rfl (lv_at hl 2 rfl) ?_
      obtain ⟨I34, J35, c36, hF⟩ := bd2_ex hF
      refine ga_cVv (As := [.int p1]) C hw (c_M_afterFreeze l D T z L c36) gy_M_194 t1 rfl hl.1 ⟨Nat.le_of_ble_eq_true rfl, Nat.le_of_ble_eq_true rfl, rfl, rfl, Nat.le_of_ble_eq_true rfl, Nat.le_of_ble_eq_true rfl⟩ (Nat.le_of_ble_eq_true rfl) rfl d_M_goOn_14 (fun H locs hw => ?_)
      refine lv_goto (tgt := 114) hx hb d_M_goOn_17 (by decide) ?_
      exact m_M_goOn_b114 hret C _ _ hF _ _ _ (lv_sub hl [] rfl) hw
    · rw [if_neg h6] at hF
      refine lv_icmp_ne (tgt := 20) hx hb d_M_goOn_9 (by decide) (fun _ => ?_) (fun hp => absurd hp h6)
      refine lv_iload_n hx hb d_M_goOn_20 rfl (lv_at hl 0 rfl) ?_
      refine lv_iconst (v := 3) hx hb d_M_goOn_21 (by decide) ?_
      by_cases h7 : v5 = (3 : Int32)
      · rw [if_pos h7] at hF
        refine lv_icmp_ne (tgt := 33) hx hb d_M_goOn_22 (by decide) (fun hn => absurd h7 hn) (fun _ => ?_)
        refine lv_aload_n hx hb d_M_goOn_25 rfl (lv_at hl 1 rfl) ?_
        refine lv_iload_n hx hb d_M_goOn_26 rfl (lv_at hl 2 rfl) ?_
        obtain ⟨I31, J32, c33, hF⟩ := bd2_ex hF
        refine ga_cVv (As := [.int p1]) C hw (c_M_afterSplit l D T z L c33) gy_M_197 t1 rfl hl.1 ⟨Nat.le_of_ble_eq_true rfl, Nat.le_of_ble_eq_true rfl, rfl, rfl, Nat.le_of_ble_eq_true rfl, Nat.le_of_ble_eq_true rfl⟩ (Nat.le_of_ble_eq_true rfl) rfl d_M_goOn_27 (fun H locs hw => ?_)
        refine lv_goto (tgt := 114) hx hb d_M_goOn_30 (by decide) ?_
        exact m_M_goOn_b114 hret C _ _ hF _ _ _ (lv_sub hl [] rfl) hw
      · rw [if_neg h7] at hF
        refine lv_icmp_ne (tgt := 33) hx hb d_M_goOn_22 (by decide) (fun _ => ?_) (fun hp => absurd hp h7)
        refine lv_iload_n hx hb d_M_goOn_33 rfl (lv_at hl 0 rfl) ?_
        refine lv_iconst (v := 5) hx hb d_M_goOn_34 (by decide) ?_
        by_cases h8 : v5 = (5 : Int32)
        · rw [if_pos h8] at hF
          refine lv_icmp_ne (tgt := 46) hx hb d_M_goOn_35 (by decide) (fun hn => absurd h8 hn) (fun _ => ?_)
          refine lv_aload_n hx hb d_M_goOn_38 rfl (lv_at hl 1 rfl) ?_
          refine lv_iload_n hx hb d_M_goOn_39 rfl (lv_at hl 2 rfl) ?_
          obtain ⟨I28, J29, c30, hF⟩ := bd2_ex hF
          refine ga_cVv (As := [.int p1]) C hw (c_M_afterCut l D T z L c30) gy_M_200 t1 rfl hl.1 ⟨Nat.le_of_ble_eq_true rfl, Nat.le_of_ble_eq_true rfl, rfl, rfl, Nat.le_of_ble_eq_true rfl, Nat.le_of_ble_eq_true rfl⟩ (Nat.le_of_ble_eq_true rfl) rfl d_M_goOn_40 (fun H locs hw => ?_)
          refine lv_goto (tgt := 114) hx hb d_M_goOn_43 (by decide) ?_
          exact m_M_goOn_b114 hret C _ _ hF _ _ _ (lv_sub hl [] rfl) hw
        · rw [if_neg h8] at hF
          refine lv_icmp_ne (tgt := 46) hx hb d_M_goOn_35 (by decide) (fun _ => ?_) (fun hp => absurd hp h8)
          refine lv_iload_n hx hb d_M_goOn_46 rfl (lv_at hl 0 rfl) ?_
          refine lv_bipush (v := 7) hx hb d_M_goOn_47 (by decide) ?_
          by_cases h9 : v5 = (7 : Int32)
          · rw [if_pos h9] at hF
            refine lv_icmp_ne (tgt := 60) hx hb d_M_goOn_49 (by decide) (fun hn => absurd h9 hn) (fun _ => ?_)
            refine lv_aload_n hx hb d_M_goOn_52 rfl (lv_at hl 1 rfl) ?_
            refine lv_iload_n hx hb d_M_goOn_53 rfl (lv_at hl 2 rfl) ?_
            obtain ⟨I25, J26, c27, hF⟩ := bd2_ex hF
            refine ga_cVv (As := [.int p1]) C hw (c_M_afterGive l D T z L c27) gy_M_203 t1 rfl hl.1 ⟨Nat.le_of_ble_eq_true rfl, Nat.le_of_ble_eq_true rfl, rfl, rfl, Nat.le_of_ble_eq_true rfl, Nat.le_of_ble_eq_true rfl⟩ (Nat.le_of_ble_eq_true rfl) rfl d_M_goOn_54 (fun H locs hw => ?_)
            refine lv_goto (tgt := 114) hx hb d_M_goOn_57 (by decide) ?_
            exact m_M_goOn_b114 hret C _ _ hF _ _ _ (lv_sub hl [] rfl) hw
          · rw [if_neg h9] at hF
            refine lv_icmp_ne (tgt := 60) hx hb d_M_goOn_49 (by decide) (fun _ => ?_) (fun hp => absurd hp h9)
            refine lv_iload_n hx hb d_M_goOn_60 rfl (lv_at hl 0 rfl) ?_
            refine lv_bipush (v := 9) hx hb d_M_goOn_61 (by decide) ?_
            by_cases h10 : v5 = (9 : Int32)
            · rw [if_pos h10] at hF
              refine lv_icmp_ne (tgt := 109) hx hb d_M_goOn_63 (by decide) (fun hn => absurd h10 hn) (fun _ => ?_)
              refine lv_aload_n hx hb d_M_goOn_66 rfl (lv_at hl 1 rfl) ?_
              refine lv_iload_n hx hb d_M_goOn_67 rfl (lv_at hl 2 rfl) ?_
              refine lv_iconst (v := 0) hx hb d_M_goOn_68 (by decide) ?_
              obtain ⟨x14, c15, hF⟩ := ob_ex hF
              refine ga_cVi (As := [.int p1, .int (0 : Int32)]) C hw (c_M_total l D T z L c15) gy_M_172 t1 rfl hl.1 ⟨Nat.le_of_ble_eq_true rfl, Nat.le_of_ble_eq_true rfl, rfl, rfl, Nat.le_of_ble_eq_true rfl, Nat.le_of_ble_eq_true rfl⟩ (Nat.le_of_ble_eq_true rfl) rfl d_M_goOn_69 (fun H locs hw => ?_)
              refine lv_i2l hx hb d_M_goOn_72 rfl ?_
              refine lv_topl (fun v16 ev16 => ?_)
              replace hF := bnd_at hF ev16
              refine lv_lstore_n hx hb d_M_goOn_73 rfl hl (by decide) rfl (fun ls hl => ?_)
              have hl : lv_has ls 5 [(3, .long v16), (2, .int v5), (0, .ref p0), (1, .int p1)] := hl
              refine lv_aload_n hx hb d_M_goOn_74 rfl (lv_at hl 2 rfl) ?_
              refine lv_iload_n hx hb d_M_goOn_75 rfl (lv_at hl 3 rfl) ?_
              refine lv_aload_n hx hb d_M_goOn_76 rfl (lv_at hl 2 rfl) ?_
              obtain ⟨r17, hr17, hF⟩ := ob_ex hF
              refine ga_getR C hw gf_M_23 t1 hr17 d_M_goOn_77 ?_
              refine lv_iload_n hx hb d_M_goOn_80 rfl (lv_at hl 3 rfl) ?_
              obtain ⟨t18, hF⟩ := gd_ex hF
              obtain ⟨b19, hF⟩ := gd_ex hF
              refine ga_iald C hw t18 b19 d_M_goOn_81 ?_
              refine lv_iconst (v := 1) hx hb d_M_goOn_82 (by decide) ?_
              by_cases h20 : (I r17 p1.toNatClampNeg) = (1 : Int32)
              · rw [if_pos h20] at hF
                refine lv_icmp_ne (tgt := 90) hx hb d_M_goOn_83 (by decide) (fun hn => absurd h20 hn) (fun _ => ?_)
                refine lv_lload_n hx hb d_M_goOn_86 rfl (lv_at hl 0 rfl) ?_
                refine lv_goto (tgt := 103) hx hb d_M_goOn_87 (by decide) ?_
                exact m_M_goOn_b103 hret C _ _ _ _ _ hF _ _ _ (lv_sub hl [] rfl) hw
              · rw [if_neg h20] at hF
                refine lv_icmp_ne (tgt := 90) hx hb d_M_goOn_83 (by decide) (fun _ => ?_) (fun hp => absurd hp h20)
                refine lv_ldc2 hx hb C.2.2.2.1 (C.2.2.2.2 _ gk_M_206) d_M_goOn_90 ?_
                refine lv_lload_n hx hb d_M_goOn_93 rfl (lv_at hl 0 rfl) ?_
                refine lv_lmul hx hb d_M_goOn_94 ?_
                refine lv_aload_n hx hb d_M_goOn_95 rfl (lv_at hl 2 rfl) ?_
                obtain ⟨r21, hr21, hF⟩ := ob_ex hF
                refine ga_getR C hw gf_M_47 t1 hr21 d_M_goOn_96 ?_
                refine lv_iload_n hx hb d_M_goOn_99 rfl (lv_at hl 3 rfl) ?_
                obtain ⟨t22, hF⟩ := gd_ex hF
                obtain ⟨b23, hF⟩ := gd_ex hF
                refine ga_iald C hw t22 b23 d_M_goOn_100 ?_
                refine lv_i2l hx hb d_M_goOn_101 rfl ?_
                obtain ⟨h24, hF⟩ := gd_ex hF
                refine lv_ldiv hx hb d_M_goOn_102 h24 ?_
                exact m_M_goOn_b103 hret C _ _ _ _ _ hF _ _ _ (lv_sub hl [] rfl) hw
            · rw [if_neg h10] at hF
              refine lv_icmp_ne (tgt := 109) hx hb d_M_goOn_63 (by decide) (fun _ => ?_) (fun hp => absurd hp h10)
              refine lv_aload_n hx hb d_M_goOn_109 rfl (lv_at hl 1 rfl) ?_
              refine lv_iload_n hx hb d_M_goOn_110 rfl (lv_at hl 2 rfl) ?_
              obtain ⟨I11, J12, c13, hF⟩ := bd2_ex hF
              refine ga_cVv (As := [.int p1]) C hw (c_M_afterAdd l D T z L c13) gy_M_208 t1 rfl hl.1 ⟨Nat.le_of_ble_eq_true rfl, Nat.le_of_ble_eq_true rfl, rfl, rfl, Nat.le_of_ble_eq_true rfl, Nat.le_of_ble_eq_true rfl⟩ (Nat.le_of_ble_eq_true rfl) rfl d_M_goOn_111 (fun H locs hw => ?_)
              exact m_M_goOn_b114 hret C _ _ hF _ _ _ (lv_sub hl [] rfl) hw
  refine key _ (fun pc ls H locs I1 J1 he hd hw => ?_)
  · cases he
    exact W.vret hx hb hr (fun t ht _ => ⟨⟨(), rfl, trivial, ga_o hw ht⟩, hw.2.2.2.1.F ht⟩) hw.2.2.2.1.2.2 hd
set_option maxHeartbeats 4000000 in
set_option maxRecDepth 100000 in
theorem m_M_take_b53 {zz : gMI × gMJ} (hret : ∀ (pc : Nat) (ls : Array Slot) (H : Heap) (locs : List Loc) (I1 : gMI) (J1 : gMJ), (I1, J1) = zz → decode prog_10_method_30_code pc = .ok (.return_, 1) → ga_W D T z L S I1 J1 s H locs → W p l e rm_M_take s m args below meth c H locs 0 0 Q (F0 m pc ls [])) (C : CallFix p m c prog_10_method_30_code 6 s args ga_ws "RankHouseModel") (k17 : gMI → gMJ → Nat → Int32 → Int32 → Int32 → Option (gMI × gMJ)) (hk17 : ∀ (I : gMI) (J : gMJ) (l0 : Nat) (l1 : Int32) (l3 : Int32) (l4 : Int32), k17 I J l0 l1 l3 l4 = some zz → ∀ (ls : Array Slot) (H : Heap) (locs : List Loc), lv_has ls 6 [(0, .ref l0), (1, .int l1), (3, .int l3), (4, .int l4)] → ga_W D T z L S I J s H locs → W p l e rm_M_take s m args below meth c H locs 0 0 Q (F0 m 17 ls [])) : ∀ (I : gMI) (J : gMJ) (s0 : Int32) (s1 : Int32) (s2 : Nat) (l0 : Nat) (l1 : Int32) (l3 : Int32) (l4 : Int32), f_M_take_b53 S k17 I J s0 s1 s2 l0 l1 l3 l4 = some zz → ∀ (ls : Array Slot) (H : Heap) (locs : List Loc), lv_has ls 6 [(0, .ref l0), (1, .int l1), (3, .int l3), (4, .int l4)] → ga_W D T z L S I J s H locs → W p l e rm_M_take s m args below meth c H locs 0 0 Q (F0 m 53 ls [.int s0, .int s1, .ref s2]) := by
  intro I J s0 s1 s2 l0 l1 l3 l4 hF ls H locs hl hw
  have hx := C.1
  have hb := C.2.1
  rw [f_M_take_b53] at hF
  obtain ⟨t1, hF⟩ := gd_ex hF
  obtain ⟨b2, hF⟩ := gd_ex hF
  obtain ⟨I3, eI3, hF⟩ := bnd_ex hF
  refine ga_iast C hw t1 b2 eI3 d_M_take_53 (fun H locs hw => ?_)
  obtain ⟨v4, ev4, hF⟩ := bnd_ex hF
  refine lv_iinc (k := 3) (v := v4) hx hb d_M_take_54 hl rfl (by rw [ev4]; rfl) (by decide) rfl (fun ls hl => ?_)
  have hl : lv_has ls 6 [(4, .int v4), (0, .ref l0), (1, .int l1), (3, .int l3)] := hl
  refine lv_goto (tgt := 17) hx hb d_M_take_57 (by decide) ?_
  exact hk17 _ _ _ _ _ _ hF _ _ _ (lv_sub hl [1, 2, 3, 0] rfl) hw
set_option maxHeartbeats 4000000 in
set_option maxRecDepth 100000 in
theorem m_M_take_b153 {zz : gMI × gMJ} (hret : ∀ (pc : Nat) (ls : Array Slot) (H : Heap) (locs : List Loc) (I1 : gMI) (J1 : gMJ), (I1, J1) = zz → decode prog_10_method_30_code pc = .ok (.return_, 1) → ga_W D T z L S I1 J1 s H locs → W p l e rm_M_take s m args below meth c H locs 0 0 Q (F0 m pc ls [])) (C : CallFix p m c prog_10_method_30_code 6 s args ga_ws "RankHouseModel") (k121 : gMI → gMJ → Nat → Int32 → Int32 → Int32 → Option (gMI × gMJ)) (hk121 : ∀ (I : gMI) (J : gMJ) (l0 : Nat) (l1 : Int32) (l4 : Int32) (l5 : Int32), k121 I J l0 l1 l4 l5 = some zz → ∀ (ls : Array Slot) (H : Heap) (locs : List Loc), lv_has ls 6 [(0, .ref l0), (1, .int l1), (4, .int l4), (5, .int l5)] → ga_W D T z L S I J s H locs → W p l e rm_M_take s m args below meth c H locs 0 0 Q (F0 m 121 ls [])) : ∀ (I : gMI) (J : gMJ) (s0 : Int32) (l0 : Nat) (l1 : Int32) (l5 : Int32), f_M_take_b153 S k121 I J s0 l0 l1 l5 = some zz → ∀ (ls : Array Slot) (H : Heap) (locs : List Loc), lv_has ls 6 [(0, .ref l0), (1, .int l1), (5, .int l5)] → ga_W D T z L S I J s H locs → W p l e rm_M_take s m args below meth c H locs 0 0 Q (F0 m 153 ls [.int s0]) := by
  intro I J s0 l0 l1 l5 hF ls H locs hl hw
  have hx := C.1
  have hb := C.2.1
  rw [f_M_take_b153] at hF
  refine lv_istore hx hb d_M_take_153 hl (by decide) rfl (fun ls hl => ?_)
  have hl : lv_has ls 6 [(4, .int s0), (0, .ref l0), (1, .int l1), (5, .int l5)] := hl
  obtain ⟨v1, ev1, hF⟩ := bnd_ex hF
  refine lv_iinc (k := 3) (v := v1) hx hb d_M_take_155 hl rfl (by rw [ev1]; rfl) (by decide) rfl (fun ls hl => ?_)
  have hl : lv_has ls 6 [(5, .int v1), (4, .int s0), (0, .ref l0), (1, .int l1)] := hl
  refine lv_goto (tgt := 121) hx hb d_M_take_158 (by decide) ?_
  exact hk121 _ _ _ _ _ _ hF _ _ _ (lv_sub hl [2, 3, 1, 0] rfl) hw
set_option maxHeartbeats 4000000 in
set_option maxRecDepth 100000 in
theorem m_M_take_b152 {zz : gMI × gMJ} (hret : ∀ (pc : Nat) (ls : Array Slot) (H : Heap) (locs : List Loc) (I1 : gMI) (J1 : gMJ), (I1, J1) = zz → decode prog_10_method_30_code pc = .ok (.return_, 1) → ga_W D T z L S I1 J1 s H locs → W p l e rm_M_take s m args below meth c H locs 0 0 Q (F0 m pc ls [])) (C : CallFix p m c prog_10_method_30_code 6 s args ga_ws "RankHouseModel") (k121 : gMI → gMJ → Nat → Int32 → Int32 → Int32 → Option (gMI × gMJ)) (hk121 : ∀ (I : gMI) (J : gMJ) (l0 : Nat) (l1 : Int32) (l4 : Int32) (l5 : Int32), k121 I J l0 l1 l4 l5 = some zz → ∀ (ls : Array Slot) (H : Heap) (locs : List Loc), lv_has ls 6 [(0, .ref l0), (1, .int l1), (4, .int l4), (5, .int l5)] → ga_W D T z L S I J s H locs → W p l e rm_M_take s m args below meth c H locs 0 0 Q (F0 m 121 ls [])) : ∀ (I : gMI) (J : gMJ) (l0 : Nat) (l1 : Int32) (l5 : Int32), f_M_take_b152 S k121 I J l0 l1 l5 = some zz → ∀ (ls : Array Slot) (H : Heap) (locs : List Loc), lv_has ls 6 [(0, .ref l0), (1, .int l1), (5, .int l5)] → ga_W D T z L S I J s H locs → W p l e rm_M_take s m args below meth c H locs 0 0 Q (F0 m 152 ls []) := by
  intro I J l0 l1 l5 hF ls H locs hl hw
  have hx := C.1
  have hb := C.2.1
  rw [f_M_take_b152] at hF
  refine lv_iconst (v := 0) hx hb d_M_take_152 (by decide) ?_
  exact m_M_take_b153 hret C k121 hk121 _ _ _ _ _ _ hF _ _ _ hl hw
set_option maxHeartbeats 4000000 in
set_option maxRecDepth 100000 in
theorem m_M_take_b171 {zz : gMI × gMJ} (hret : ∀ (pc : Nat) (ls : Array Slot) (H : Heap) (locs : List Loc) (I1 : gMI) (J1 : gMJ), (I1, J1) = zz → decode prog_10_method_30_code pc = .ok (.return_, 1) → ga_W D T z L S I1 J1 s H locs → W p l e rm_M_take s m args below meth c H locs 0 0 Q (F0 m pc ls [])) (C : CallFix p m c prog_10_method_30_code 6 s args ga_ws "RankHouseModel") : ∀ (I : gMI) (J : gMJ), f_M_take_b171 S I J = some zz → ∀ (ls : Array Slot) (H : Heap) (locs : List Loc), lv_has ls 6 [] → ga_W D T z L S I J s H locs → W p l e rm_M_take s m args below meth c H locs 0 0 Q (F0 m 171 ls []) := by
  intro I J hF ls H locs hl hw
  have hx := C.1
  have hb := C.2.1
  rw [f_M_take_b171] at hF
  exact hret _ _ _ _ _ _ (Option.some.inj hF) d_M_take_171 hw
set_option maxHeartbeats 4000000 in
set_option maxRecDepth 100000 in
theorem m_M_take_b121 {zz : gMI × gMJ} (hret : ∀ (pc : Nat) (ls : Array Slot) (H : Heap) (locs : List Loc) (I1 : gMI) (J1 : gMJ), (I1, J1) = zz → decode prog_10_method_30_code pc = .ok (.return_, 1) → ga_W D T z L S I1 J1 s H locs → W p l e rm_M_take s m args below meth c H locs 0 0 Q (F0 m pc ls [])) (C : CallFix p m c prog_10_method_30_code 6 s args ga_ws "RankHouseModel") : ∀ (n : Nat) (I : gMI) (J : gMJ) (l0 : Nat) (l1 : Int32) (l4 : Int32) (l5 : Int32), f_M_take_b121 S n I J l0 l1 l4 l5 = some zz → ∀ (ls : Array Slot) (H : Heap) (locs : List Loc), lv_has ls 6 [(0, .ref l0), (1, .int l1), (4, .int l4), (5, .int l5)] → ga_W D T z L S I J s H locs → W p l e rm_M_take s m args below meth c H locs 0 0 Q (F0 m 121 ls []) := by
  intro n
  induction n with
  | zero =>
    intro I J l0 l1 l4 l5 hF ls H locs hl hw
    rw [f_M_take_b121] at hF
    cases hF
  | succ n ih =>
    intro I J l0 l1 l4 l5 hF ls H locs hl hw
    have hx := C.1
    have hb := C.2.1
    rw [f_M_take_b121] at hF
    refine lv_iload hx hb d_M_take_121 (lv_at hl 3 rfl) ?_
    refine lv_bipush (v := 8) hx hb d_M_take_123 (by decide) ?_
    by_cases h1 : (8 : Int32) ≤ l5
    · rw [if_pos h1] at hF
      refine lv_icmp_ge (tgt := 161) hx hb d_M_take_125 (by decide) (fun _ => ?_) (fun hn => absurd h1 hn)
      refine lv_iload hx hb d_M_take_161 (lv_at hl 2 rfl) ?_
      by_cases h2 : l4 = 0
      · rw [if_pos h2] at hF
        refine lv_if_eq (tgt := 171) hx hb d_M_take_163 (by decide) (fun _ => ?_) (fun hn => absurd h2 hn)
        exact m_M_take_b171 hret C _ _ hF _ _ _ (lv_sub hl [] rfl) hw
      · rw [if_neg h2] at hF
        refine lv_if_eq (tgt := 171) hx hb d_M_take_163 (by decide) (fun hp => absurd hp h2) (fun _ => ?_)
        refine lv_aload_n hx hb d_M_take_166 rfl (lv_at hl 0 rfl) ?_
        refine lv_iload_n hx hb d_M_take_167 rfl (lv_at hl 1 rfl) ?_
        obtain ⟨t3, hF⟩ := gd_ex hF
        obtain ⟨I4, J5, c6, hF⟩ := bd2_ex hF
        refine ga_cVv (As := [.int l1]) C hw (c_M_goOn l D T z L c6) gy_M_211 t3 rfl hl.1 ⟨Nat.le_of_ble_eq_true rfl, Nat.le_of_ble_eq_true rfl, rfl, rfl, Nat.le_of_ble_eq_true rfl, Nat.le_of_ble_eq_true rfl⟩ (Nat.le_of_ble_eq_true rfl) rfl d_M_take_168 (fun H locs hw => ?_)
        exact m_M_take_b171 hret C _ _ hF _ _ _ (lv_sub hl [] rfl) hw
    · rw [if_neg h1] at hF
      refine lv_icmp_ge (tgt := 161) hx hb d_M_take_125 (by decide) (fun hp => absurd hp h1) (fun _ => ?_)
      refine lv_iload hx hb d_M_take_128 (lv_at hl 2 rfl) ?_
      by_cases h7 : l4 = 0
      · rw [if_pos h7] at hF
        refine lv_if_eq (tgt := 152) hx hb d_M_take_130 (by decide) (fun _ => ?_) (fun hn => absurd h7 hn)
        exact m_M_take_b152 hret C _ ih _ _ _ _ _ hF _ _ _ (lv_sub hl [0, 1, 3] rfl) hw
      · rw [if_neg h7] at hF
        refine lv_if_eq (tgt := 152) hx hb d_M_take_130 (by decide) (fun hp => absurd hp h7) (fun _ => ?_)
        refine lv_aload_n hx hb d_M_take_133 rfl (lv_at hl 0 rfl) ?_
        obtain ⟨t8, hF⟩ := gd_ex hF
        obtain ⟨r9, hr9, hF⟩ := ob_ex hF
        refine ga_getR C hw gf_M_87 t8 hr9 d_M_take_134 ?_
        refine lv_bipush (v := 8) hx hb d_M_take_137 (by decide) ?_
        refine lv_iload_n hx hb d_M_take_139 rfl (lv_at hl 1 rfl) ?_
        refine lv_imul hx hb d_M_take_140 ?_
        refine lv_iload hx hb d_M_take_141 (lv_at hl 3 rfl) ?_
        refine lv_iadd hx hb d_M_take_143 ?_
        obtain ⟨t10, hF⟩ := gd_ex hF
        obtain ⟨b11, hF⟩ := gd_ex hF
        refine ga_zald C hw t10 b11 d_M_take_144 ?_
        by_cases h12 : (I r9 (((8 : Int32) * l1) + l5).toNatClampNeg) = 0
        · rw [if_pos h12] at hF
          refine lv_if_eq (tgt := 152) hx hb d_M_take_145 (by decide) (fun _ => ?_) (fun hn => absurd h12 hn)
          exact m_M_take_b152 hret C _ ih _ _ _ _ _ hF _ _ _ (lv_sub hl [0, 1, 3] rfl) hw
        · rw [if_neg h12] at hF
          refine lv_if_eq (tgt := 152) hx hb d_M_take_145 (by decide) (fun hp => absurd hp h12) (fun _ => ?_)
          refine lv_iconst (v := 1) hx hb d_M_take_148 (by decide) ?_
          refine lv_goto (tgt := 153) hx hb d_M_take_149 (by decide) ?_
          exact m_M_take_b153 hret C _ ih _ _ _ _ _ _ hF _ _ _ (lv_sub hl [0, 1, 3] rfl) hw
set_option maxHeartbeats 4000000 in
set_option maxRecDepth 100000 in
theorem m_M_take_b83 {zz : gMI × gMJ} (hret : ∀ (pc : Nat) (ls : Array Slot) (H : Heap) (locs : List Loc) (I1 : gMI) (J1 : gMJ), (I1, J1) = zz → decode prog_10_method_30_code pc = .ok (.return_, 1) → ga_W D T z L S I1 J1 s H locs → W p l e rm_M_take s m args below meth c H locs 0 0 Q (F0 m pc ls [])) (C : CallFix p m c prog_10_method_30_code 6 s args ga_ws "RankHouseModel") : ∀ (n : Nat) (I : gMI) (J : gMJ) (l0 : Nat) (l1 : Int32) (l3 : Int32) (l4 : Int32), f_M_take_b83 S n I J l0 l1 l3 l4 = some zz → ∀ (ls : Array Slot) (H : Heap) (locs : List Loc), lv_has ls 6 [(0, .ref l0), (1, .int l1), (3, .int l3), (4, .int l4)] → ga_W D T z L S I J s H locs → W p l e rm_M_take s m args below meth c H locs 0 0 Q (F0 m 83 ls []) := by
  intro n
  induction n with
  | zero =>
    intro I J l0 l1 l3 l4 hF ls H locs hl hw
    rw [f_M_take_b83] at hF
    cases hF
  | succ n ih =>
    intro I J l0 l1 l3 l4 hF ls H locs hl hw
    have hx := C.1
    have hb := C.2.1
    rw [f_M_take_b83] at hF
    refine lv_iload hx hb d_M_take_83 (lv_at hl 3 rfl) ?_
    refine lv_bipush (v := 64) hx hb d_M_take_85 (by decide) ?_
    by_cases h1 : (64 : Int32) ≤ l4
    · rw [if_pos h1] at hF
      refine lv_icmp_ge (tgt := 115) hx hb d_M_take_87 (by decide) (fun _ => ?_) (fun hn => absurd h1 hn)
      refine lv_iconst (v := 1) hx hb d_M_take_115 (by decide) ?_
      refine lv_istore hx hb d_M_take_116 hl (by decide) rfl (fun ls hl => ?_)
      have hl : lv_has ls 6 [(4, .int (1 : Int32)), (0, .ref l0), (1, .int l1), (3, .int l3)] := hl
      refine lv_iconst (v := 0) hx hb d_M_take_118 (by decide) ?_
      refine lv_istore hx hb d_M_take_119 hl (by decide) rfl (fun ls hl => ?_)
      have hl : lv_has ls 6 [(5, .int (0 : Int32)), (4, .int (1 : Int32)), (0, .ref l0), (1, .int l1), (3, .int l3)] := hl
      exact m_M_take_b121 hret C gFuel _ _ _ _ _ _ hF _ _ _ (lv_sub hl [2, 3, 1, 0] rfl) hw
    · rw [if_neg h1] at hF
      refine lv_icmp_ge (tgt := 115) hx hb d_M_take_87 (by decide) (fun hp => absurd hp h1) (fun _ => ?_)
      refine lv_aload_n hx hb d_M_take_90 rfl (lv_at hl 0 rfl) ?_
      obtain ⟨t2, hF⟩ := gd_ex hF
      obtain ⟨r3, hr3, hF⟩ := ob_ex hF
      refine ga_getR C hw gf_M_99 t2 hr3 d_M_take_91 ?_
      refine lv_bipush (v := 64) hx hb d_M_take_94 (by decide) ?_
      refine lv_iload_n hx hb d_M_take_96 rfl (lv_at hl 2 rfl) ?_
      refine lv_imul hx hb d_M_take_97 ?_
      refine lv_iload hx hb d_M_take_98 (lv_at hl 3 rfl) ?_
      refine lv_iadd hx hb d_M_take_100 ?_
      refine lv_aload_n hx hb d_M_take_101 rfl (lv_at hl 0 rfl) ?_
      obtain ⟨r4, hr4, hF⟩ := ob_ex hF
      refine ga_getR C hw gf_M_111 t2 hr4 d_M_take_102 ?_
      refine lv_iload hx hb d_M_take_105 (lv_at hl 3 rfl) ?_
      obtain ⟨t5, hF⟩ := gd_ex hF
      obtain ⟨b6, hF⟩ := gd_ex hF
      refine ga_iald C hw t5 b6 d_M_take_107 ?_
      obtain ⟨t7, hF⟩ := gd_ex hF
      obtain ⟨b8, hF⟩ := gd_ex hF
      obtain ⟨I9, eI9, hF⟩ := bnd_ex hF
      refine ga_iast C hw t7 b8 eI9 d_M_take_108 (fun H locs hw => ?_)
      obtain ⟨v10, ev10, hF⟩ := bnd_ex hF
      refine lv_iinc (k := 3) (v := v10) hx hb d_M_take_109 hl rfl (by rw [ev10]; rfl) (by decide) rfl (fun ls hl => ?_)
      have hl : lv_has ls 6 [(4, .int v10), (0, .ref l0), (1, .int l1), (3, .int l3)] := hl
      refine lv_goto (tgt := 83) hx hb d_M_take_112 (by decide) ?_
      exact ih _ _ _ _ _ _ hF _ _ _ (lv_sub hl [1, 2, 3, 0] rfl) hw
set_option maxHeartbeats 4000000 in
set_option maxRecDepth 100000 in
theorem m_M_take_b17 {zz : gMI × gMJ} (hret : ∀ (pc : Nat) (ls : Array Slot) (H : Heap) (locs : List Loc) (I1 : gMI) (J1 : gMJ), (I1, J1) = zz → decode prog_10_method_30_code pc = .ok (.return_, 1) → ga_W D T z L S I1 J1 s H locs → W p l e rm_M_take s m args below meth c H locs 0 0 Q (F0 m pc ls [])) (C : CallFix p m c prog_10_method_30_code 6 s args ga_ws "RankHouseModel") : ∀ (n : Nat) (I : gMI) (J : gMJ) (l0 : Nat) (l1 : Int32) (l3 : Int32) (l4 : Int32), f_M_take_b17 S n I J l0 l1 l3 l4 = some zz → ∀ (ls : Array Slot) (H : Heap) (locs : List Loc), lv_has ls 6 [(0, .ref l0), (1, .int l1), (3, .int l3), (4, .int l4)] → ga_W D T z L S I J s H locs → W p l e rm_M_take s m args below meth c H locs 0 0 Q (F0 m 17 ls []) := by
  intro n
  induction n with
  | zero =>
    intro I J l0 l1 l3 l4 hF ls H locs hl hw
    rw [f_M_take_b17] at hF
    cases hF
  | succ n ih =>
    intro I J l0 l1 l3 l4 hF ls H locs hl hw
    have hx := C.1
    have hb := C.2.1
    rw [f_M_take_b17] at hF
    refine lv_iload hx hb d_M_take_17 (lv_at hl 3 rfl) ?_
    refine lv_iconst (v := 4) hx hb d_M_take_19 (by decide) ?_
    by_cases h1 : (4 : Int32) ≤ l4
    · rw [if_pos h1] at hF
      refine lv_icmp_ge (tgt := 60) hx hb d_M_take_20 (by decide) (fun _ => ?_) (fun hn => absurd h1 hn)
      refine lv_aload_n hx hb d_M_take_60 rfl (lv_at hl 0 rfl) ?_
      obtain ⟨t2, hF⟩ := gd_ex hF
      obtain ⟨r3, hr3, hF⟩ := ob_ex hF
      refine ga_getR C hw gf_M_93 t2 hr3 d_M_take_61 ?_
      refine lv_iload_n hx hb d_M_take_64 rfl (lv_at hl 2 rfl) ?_
      refine lv_aload_n hx hb d_M_take_65 rfl (lv_at hl 0 rfl) ?_
      refine ga_getJ C hw gf_M_133 t2 d_M_take_66 ?_
      obtain ⟨t4, hF⟩ := gd_ex hF
      obtain ⟨b5, hF⟩ := gd_ex hF
      obtain ⟨J6, eJ6, hF⟩ := bnd_ex hF
      refine ga_last C hw t4 b5 eJ6 d_M_take_69 (fun H locs hw => ?_)
      refine lv_aload_n hx hb d_M_take_70 rfl (lv_at hl 0 rfl) ?_
      obtain ⟨r7, hr7, hF⟩ := ob_ex hF
      refine ga_getR C hw gf_M_96 t2 hr7 d_M_take_71 ?_
      refine lv_iload_n hx hb d_M_take_74 rfl (lv_at hl 2 rfl) ?_
      refine lv_aload_n hx hb d_M_take_75 rfl (lv_at hl 0 rfl) ?_
      refine ga_getI C hw gf_M_130 t2 d_M_take_76 ?_
      obtain ⟨t8, hF⟩ := gd_ex hF
      obtain ⟨b9, hF⟩ := gd_ex hF
      obtain ⟨I10, eI10, hF⟩ := bnd_ex hF
      refine ga_iast C hw t8 b9 eI10 d_M_take_79 (fun H locs hw => ?_)
      refine lv_iconst (v := 0) hx hb d_M_take_80 (by decide) ?_
      refine lv_istore hx hb d_M_take_81 hl (by decide) rfl (fun ls hl => ?_)
      have hl : lv_has ls 6 [(4, .int (0 : Int32)), (0, .ref l0), (1, .int l1), (3, .int l3)] := hl
      exact m_M_take_b83 hret C gFuel _ _ _ _ _ _ hF _ _ _ (lv_sub hl [1, 2, 3, 0] rfl) hw
    · rw [if_neg h1] at hF
      refine lv_icmp_ge (tgt := 60) hx hb d_M_take_20 (by decide) (fun hp => absurd hp h1) (fun _ => ?_)
      refine lv_aload_n hx hb d_M_take_23 rfl (lv_at hl 0 rfl) ?_
      obtain ⟨t11, hF⟩ := gd_ex hF
      obtain ⟨r12, hr12, hF⟩ := ob_ex hF
      refine ga_getR C hw gf_M_90 t11 hr12 d_M_take_24 ?_
      refine lv_iconst (v := 4) hx hb d_M_take_27 (by decide) ?_
      refine lv_iload_n hx hb d_M_take_28 rfl (lv_at hl 2 rfl) ?_
      refine lv_imul hx hb d_M_take_29 ?_
      refine lv_iload hx hb d_M_take_30 (lv_at hl 3 rfl) ?_
      refine lv_iadd hx hb d_M_take_32 ?_
      refine lv_iload hx hb d_M_take_33 (lv_at hl 3 rfl) ?_
      refine lv_aload_n hx hb d_M_take_35 rfl (lv_at hl 0 rfl) ?_
      refine ga_getI C hw gf_M_130 t11 d_M_take_36 ?_
      by_cases h13 : (I l0 37) ≤ l4
      · rw [if_pos h13] at hF
        refine lv_icmp_ge (tgt := 52) hx hb d_M_take_39 (by decide) (fun _ => ?_) (fun hn => absurd h13 hn)
        refine lv_iconst (v := 0) hx hb d_M_take_52 (by decide) ?_
        exact m_M_take_b53 hret C _ ih _ _ _ _ _ _ _ _ _ hF _ _ _ hl hw
      · rw [if_neg h13] at hF
        refine lv_icmp_ge (tgt := 52) hx hb d_M_take_39 (by decide) (fun hp => absurd hp h13) (fun _ => ?_)
        refine lv_aload_n hx hb d_M_take_42 rfl (lv_at hl 0 rfl) ?_
        obtain ⟨r14, hr14, hF⟩ := ob_ex hF
        refine ga_getR C hw gf_M_111 t11 hr14 d_M_take_43 ?_
        refine lv_iload hx hb d_M_take_46 (lv_at hl 3 rfl) ?_
        obtain ⟨t15, hF⟩ := gd_ex hF
        obtain ⟨b16, hF⟩ := gd_ex hF
        refine ga_iald C hw t15 b16 d_M_take_48 ?_
        refine lv_goto (tgt := 53) hx hb d_M_take_49 (by decide) ?_
        exact m_M_take_b53 hret C _ ih _ _ _ _ _ _ _ _ _ hF _ _ _ hl hw
set_option maxHeartbeats 4000000 in
set_option maxRecDepth 100000 in
theorem c_M_take (l : Launch) (D : va_G) (T : Nat → ClassId) (z : Nat) (L : List Nat) {S : gS} {I : gMI} {J : gMJ} {p0 : Nat} {p1 : Int32} {p2 : Int32} {RI : gMI} {RJ : gMJ} (hF : f_M_take S I J p0 p1 p2 = some (RI, RJ)) : ga_Mv l y_M_take prog_10_method_30_code 6 (Option.none : Option Jvm.ClassFile.FieldType) rm_M_take [.ref p0, .int p1, .int p2] D T z L S I J RI RJ := by
  refine Met.ofW (cc := prog_10_method_30_code) (maxL := 6) (ret := (Option.none : Option Jvm.ClassFile.FieldType)) (by decide) rfl ?_
  intro p e s m args below meth c s₁ B hml hv
  obtain ⟨ha, hv⟩ := hv
  have hx := B.exec
  have hb := B.bytes
  have hr := B.returns
  have hts := atoms_spec (ws := .code y_M_take prog_10_method_30_code 6 (Option.none : Option Jvm.ClassFile.FieldType) :: ga_ws) B.pre
  have hown : s.vm.findClass "RankHouseModel" = some m.cls := findClass_of_methodNamed B.named
  have hlocks := B.notSynchronized
  have C : CallFix p m c prog_10_method_30_code 6 s args ga_ws "RankHouseModel" := ⟨hx, hb, hml, hown, fun w h => hts w (List.mem_cons_of_mem _ h)⟩
  have hw := ga_start hv
  have hl := lv_entry ([.ref p0, .int p1, .int p2]) (n := 6) (Nat.le_of_ble_eq_true rfl)
  rw [show entryFrame m args 6 = entryFrame m ([.ref p0, .int p1, .int p2] : List Value).toArray 6 by rw [ha], lg_entry_eq]
  generalize (lg_sl ([.ref p0, .int p1, .int p2]) ++ List.replicate (6 - (lg_sl ([.ref p0, .int p1, .int p2])).length) Slot.unset).toArray = ls at hl ⊢
  have hl : lv_has ls 6 [(0, .ref p0), (1, .int p1), (2, .int p2)] := hl
  have key : ∀ Q : State → Prop, (∀ (pc : Nat) (ls : Array Slot) (H : Heap) (locs : List Loc) (I1 : gMI) (J1 : gMJ), (I1, J1) = (RI, RJ) → decode prog_10_method_30_code pc = .ok (.return_, 1) → ga_W D T z L S I1 J1 s H locs → W p l e rm_M_take s m args below meth c H locs 0 0 Q (F0 m pc ls [])) → W p l e rm_M_take s m args below meth c s.heap [] 0 0 Q (F0 m 0 ls []) := by
    intro Q hret
    rw [f_M_take] at hF
    refine lv_bipush (v := 8) hx hb d_M_take_0 (by decide) ?_
    refine lv_iload_n hx hb d_M_take_2 rfl (lv_at hl 1 rfl) ?_
    refine lv_imul hx hb d_M_take_3 ?_
    refine lv_iload_n hx hb d_M_take_4 rfl (lv_at hl 2 rfl) ?_
    refine lv_iadd hx hb d_M_take_5 ?_
    refine lv_topi (fun v1 ev1 => ?_)
    replace hF := bnd_at hF ev1
    refine lv_istore_n hx hb d_M_take_6 rfl hl (by decide) rfl (fun ls hl => ?_)
    have hl : lv_has ls 6 [(3, .int v1), (0, .ref p0), (1, .int p1), (2, .int p2)] := hl
    refine lv_aload_n hx hb d_M_take_7 rfl (lv_at hl 1 rfl) ?_
    obtain ⟨t2, hF⟩ := gd_ex hF
    obtain ⟨r3, hr3, hF⟩ := ob_ex hF
    refine ga_getR C hw gf_M_87 t2 hr3 d_M_take_8 ?_
    refine lv_iload_n hx hb d_M_take_11 rfl (lv_at hl 0 rfl) ?_
    refine lv_iconst (v := 1) hx hb d_M_take_12 (by decide) ?_
    obtain ⟨t4, hF⟩ := gd_ex hF
    obtain ⟨b5, hF⟩ := gd_ex hF
    obtain ⟨I6, eI6, hF⟩ := bnd_ex hF
    refine ga_zast C hw t4 b5 rfl eI6 d_M_take_13 (fun H locs hw => ?_)
    refine lv_iconst (v := 0) hx hb d_M_take_14 (by decide) ?_
    refine lv_istore hx hb d_M_take_15 hl (by decide) rfl (fun ls hl => ?_)
    have hl : lv_has ls 6 [(4, .int (0 : Int32)), (3, .int v1), (0, .ref p0), (1, .int p1), (2, .int p2)] := hl
    exact m_M_take_b17 hret C gFuel _ _ _ _ _ _ hF _ _ _ (lv_sub hl [2, 3, 1, 0] rfl) hw
  refine key _ (fun pc ls H locs I1 J1 he hd hw => ?_)
  · cases he
    exact W.vret hx hb hr (fun t ht _ => ⟨⟨(), rfl, trivial, ga_o hw ht⟩, hw.2.2.2.1.F ht⟩) hw.2.2.2.1.2.2 hd
set_option maxHeartbeats 4000000 in
set_option maxRecDepth 100000 in
theorem m_M_remove_b86 {zz : gMI × gMJ} (hret : ∀ (pc : Nat) (ls : Array Slot) (H : Heap) (locs : List Loc) (I1 : gMI) (J1 : gMJ), (I1, J1) = zz → decode prog_10_method_31_code pc = .ok (.return_, 1) → ga_W D T z L S I1 J1 s H locs → W p l e rm_M_remove s m args below meth c H locs 0 0 Q (F0 m pc ls [])) (C : CallFix p m c prog_10_method_31_code 3 s args ga_ws "RankHouseModel") : ∀ (n : Nat) (I : gMI) (J : gMJ) (l0 : Nat) (l2 : Int32), f_M_remove_b86 S n I J l0 l2 = some zz → ∀ (ls : Array Slot) (H : Heap) (locs : List Loc), lv_has ls 3 [(0, .ref l0), (2, .int l2)] → ga_W D T z L S I J s H locs → W p l e rm_M_remove s m args below meth c H locs 0 0 Q (F0 m 86 ls []) := by
  intro n
  induction n with
  | zero =>
    intro I J l0 l2 hF ls H locs hl hw
    rw [f_M_remove_b86] at hF
    cases hF
  | succ n ih =>
    intro I J l0 l2 hF ls H locs hl hw
    have hx := C.1
    have hb := C.2.1
    rw [f_M_remove_b86] at hF
    refine lv_iload_n hx hb d_M_remove_86 rfl (lv_at hl 1 rfl) ?_
    refine lv_aload_n hx hb d_M_remove_87 rfl (lv_at hl 0 rfl) ?_
    obtain ⟨t1, hF⟩ := gd_ex hF
    refine ga_getI C hw gf_M_127 t1 d_M_remove_88 ?_
    by_cases h2 : (I l0 32) ≤ l2
    · rw [if_pos h2] at hF
      refine lv_icmp_ge (tgt := 114) hx hb d_M_remove_91 (by decide) (fun _ => ?_) (fun hn => absurd h2 hn)
      exact hret _ _ _ _ _ _ (Option.some.inj hF) d_M_remove_114 hw
    · rw [if_neg h2] at hF
      refine lv_icmp_ge (tgt := 114) hx hb d_M_remove_91 (by decide) (fun hp => absurd hp h2) (fun _ => ?_)
      refine lv_aload_n hx hb d_M_remove_94 rfl (lv_at hl 0 rfl) ?_
      obtain ⟨r3, hr3, hF⟩ := ob_ex hF
      refine ga_getR C hw gf_M_108 t1 hr3 d_M_remove_95 ?_
      refine lv_iload_n hx hb d_M_remove_98 rfl (lv_at hl 1 rfl) ?_
      refine lv_aload_n hx hb d_M_remove_99 rfl (lv_at hl 0 rfl) ?_
      refine ga_getR C hw gf_M_108 t1 hr3 d_M_remove_100 ?_
      refine lv_iload_n hx hb d_M_remove_103 rfl (lv_at hl 1 rfl) ?_
      refine lv_iconst (v := 1) hx hb d_M_remove_104 (by decide) ?_
      refine lv_iadd hx hb d_M_remove_105 ?_
      obtain ⟨t4, hF⟩ := gd_ex hF
      obtain ⟨b5, hF⟩ := gd_ex hF
      refine ga_lald C hw t4 b5 d_M_remove_106 ?_
      obtain ⟨b6, hF⟩ := gd_ex hF
      obtain ⟨J7, eJ7, hF⟩ := bnd_ex hF
      refine ga_last C hw t4 b6 eJ7 d_M_remove_107 (fun H locs hw => ?_)
      obtain ⟨v8, ev8, hF⟩ := bnd_ex hF
      refine lv_iinc (k := 1) (v := v8) hx hb d_M_remove_108 hl rfl (by rw [ev8]; rfl) (by decide) rfl (fun ls hl => ?_)
      have hl : lv_has ls 3 [(2, .int v8), (0, .ref l0)] := hl
      refine lv_goto (tgt := 86) hx hb d_M_remove_111 (by decide) ?_
      exact ih _ _ _ _ hF _ _ _ (lv_sub hl [1, 0] rfl) hw
set_option maxHeartbeats 4000000 in
set_option maxRecDepth 100000 in
theorem m_M_remove_b52 {zz : gMI × gMJ} (hret : ∀ (pc : Nat) (ls : Array Slot) (H : Heap) (locs : List Loc) (I1 : gMI) (J1 : gMJ), (I1, J1) = zz → decode prog_10_method_31_code pc = .ok (.return_, 1) → ga_W D T z L S I1 J1 s H locs → W p l e rm_M_remove s m args below meth c H locs 0 0 Q (F0 m pc ls [])) (C : CallFix p m c prog_10_method_31_code 3 s args ga_ws "RankHouseModel") : ∀ (n : Nat) (I : gMI) (J : gMJ) (l0 : Nat) (l1 : Int32) (l2 : Int32), f_M_remove_b52 S n I J l0 l1 l2 = some zz → ∀ (ls : Array Slot) (H : Heap) (locs : List Loc), lv_has ls 3 [(0, .ref l0), (1, .int l1), (2, .int l2)] → ga_W D T z L S I J s H locs → W p l e rm_M_remove s m args below meth c H locs 0 0 Q (F0 m 52 ls []) := by
  intro n
  induction n with
  | zero =>
    intro I J l0 l1 l2 hF ls H locs hl hw
    rw [f_M_remove_b52] at hF
    cases hF
  | succ n ih =>
    intro I J l0 l1 l2 hF ls H locs hl hw
    have hx := C.1
    have hb := C.2.1
    rw [f_M_remove_b52] at hF
    refine lv_iload_n hx hb d_M_remove_52 rfl (lv_at hl 2 rfl) ?_
    refine lv_bipush (v := 64) hx hb d_M_remove_53 (by decide) ?_
    refine lv_aload_n hx hb d_M_remove_55 rfl (lv_at hl 0 rfl) ?_
    obtain ⟨t1, hF⟩ := gd_ex hF
    refine ga_getI C hw gf_M_127 t1 d_M_remove_56 ?_
    refine lv_imul hx hb d_M_remove_59 ?_
    by_cases h2 : ((64 : Int32) * (I l0 32)) ≤ l2
    · rw [if_pos h2] at hF
      refine lv_icmp_ge (tgt := 84) hx hb d_M_remove_60 (by decide) (fun _ => ?_) (fun hn => absurd h2 hn)
      refine lv_iload_n hx hb d_M_remove_84 rfl (lv_at hl 1 rfl) ?_
      refine lv_istore_n hx hb d_M_remove_85 rfl hl (by decide) rfl (fun ls hl => ?_)
      have hl : lv_has ls 3 [(2, .int l1), (0, .ref l0), (1, .int l1)] := hl
      exact m_M_remove_b86 hret C gFuel _ _ _ _ hF _ _ _ (lv_sub hl [1, 0] rfl) hw
    · rw [if_neg h2] at hF
      refine lv_icmp_ge (tgt := 84) hx hb d_M_remove_60 (by decide) (fun hp => absurd hp h2) (fun _ => ?_)
      refine lv_aload_n hx hb d_M_remove_63 rfl (lv_at hl 0 rfl) ?_
      obtain ⟨r3, hr3, hF⟩ := ob_ex hF
      refine ga_getR C hw gf_M_105 t1 hr3 d_M_remove_64 ?_
      refine lv_iload_n hx hb d_M_remove_67 rfl (lv_at hl 2 rfl) ?_
      refine lv_aload_n hx hb d_M_remove_68 rfl (lv_at hl 0 rfl) ?_
      refine ga_getR C hw gf_M_105 t1 hr3 d_M_remove_69 ?_
      refine lv_iload_n hx hb d_M_remove_72 rfl (lv_at hl 2 rfl) ?_
      refine lv_bipush (v := 64) hx hb d_M_remove_73 (by decide) ?_
      refine lv_iadd hx hb d_M_remove_75 ?_
      obtain ⟨t4, hF⟩ := gd_ex hF
      obtain ⟨b5, hF⟩ := gd_ex hF
      refine ga_iald C hw t4 b5 d_M_remove_76 ?_
      obtain ⟨b6, hF⟩ := gd_ex hF
      obtain ⟨I7, eI7, hF⟩ := bnd_ex hF
      refine ga_iast C hw t4 b6 eI7 d_M_remove_77 (fun H locs hw => ?_)
      obtain ⟨v8, ev8, hF⟩ := bnd_ex hF
      refine lv_iinc (k := 2) (v := v8) hx hb d_M_remove_78 hl rfl (by rw [ev8]; rfl) (by decide) rfl (fun ls hl => ?_)
      have hl : lv_has ls 3 [(2, .int v8), (0, .ref l0), (1, .int l1)] := hl
      refine lv_goto (tgt := 52) hx hb d_M_remove_81 (by decide) ?_
      exact ih _ _ _ _ _ hF _ _ _ (lv_sub hl [1, 2, 0] rfl) hw
set_option maxHeartbeats 4000000 in
set_option maxRecDepth 100000 in
theorem m_M_remove_b15 {zz : gMI × gMJ} (hret : ∀ (pc : Nat) (ls : Array Slot) (H : Heap) (locs : List Loc) (I1 : gMI) (J1 : gMJ), (I1, J1) = zz → decode prog_10_method_31_code pc = .ok (.return_, 1) → ga_W D T z L S I1 J1 s H locs → W p l e rm_M_remove s m args below meth c H locs 0 0 Q (F0 m pc ls [])) (C : CallFix p m c prog_10_method_31_code 3 s args ga_ws "RankHouseModel") : ∀ (n : Nat) (I : gMI) (J : gMJ) (l0 : Nat) (l1 : Int32) (l2 : Int32), f_M_remove_b15 S n I J l0 l1 l2 = some zz → ∀ (ls : Array Slot) (H : Heap) (locs : List Loc), lv_has ls 3 [(0, .ref l0), (1, .int l1), (2, .int l2)] → ga_W D T z L S I J s H locs → W p l e rm_M_remove s m args below meth c H locs 0 0 Q (F0 m 15 ls []) := by
  intro n
  induction n with
  | zero =>
    intro I J l0 l1 l2 hF ls H locs hl hw
    rw [f_M_remove_b15] at hF
    cases hF
  | succ n ih =>
    intro I J l0 l1 l2 hF ls H locs hl hw
    have hx := C.1
    have hb := C.2.1
    rw [f_M_remove_b15] at hF
    refine lv_iload_n hx hb d_M_remove_15 rfl (lv_at hl 2 rfl) ?_
    refine lv_bipush (v := 7) hx hb d_M_remove_16 (by decide) ?_
    refine lv_aload_n hx hb d_M_remove_18 rfl (lv_at hl 0 rfl) ?_
    obtain ⟨t1, hF⟩ := gd_ex hF
    refine ga_getI C hw gf_M_127 t1 d_M_remove_19 ?_
    refine lv_imul hx hb d_M_remove_22 ?_
    by_cases h2 : ((7 : Int32) * (I l0 32)) ≤ l2
    · rw [if_pos h2] at hF
      refine lv_icmp_ge (tgt := 47) hx hb d_M_remove_23 (by decide) (fun _ => ?_) (fun hn => absurd h2 hn)
      refine lv_bipush (v := 64) hx hb d_M_remove_47 (by decide) ?_
      refine lv_iload_n hx hb d_M_remove_49 rfl (lv_at hl 1 rfl) ?_
      refine lv_imul hx hb d_M_remove_50 ?_
      refine lv_topi (fun v3 ev3 => ?_)
      replace hF := bnd_at hF ev3
      refine lv_istore_n hx hb d_M_remove_51 rfl hl (by decide) rfl (fun ls hl => ?_)
      have hl : lv_has ls 3 [(2, .int v3), (0, .ref l0), (1, .int l1)] := hl
      exact m_M_remove_b52 hret C gFuel _ _ _ _ _ hF _ _ _ (lv_sub hl [1, 2, 0] rfl) hw
    · rw [if_neg h2] at hF
      refine lv_icmp_ge (tgt := 47) hx hb d_M_remove_23 (by decide) (fun hp => absurd hp h2) (fun _ => ?_)
      refine lv_aload_n hx hb d_M_remove_26 rfl (lv_at hl 0 rfl) ?_
      obtain ⟨r4, hr4, hF⟩ := ob_ex hF
      refine ga_getR C hw gf_M_102 t1 hr4 d_M_remove_27 ?_
      refine lv_iload_n hx hb d_M_remove_30 rfl (lv_at hl 2 rfl) ?_
      refine lv_aload_n hx hb d_M_remove_31 rfl (lv_at hl 0 rfl) ?_
      refine ga_getR C hw gf_M_102 t1 hr4 d_M_remove_32 ?_
      refine lv_iload_n hx hb d_M_remove_35 rfl (lv_at hl 2 rfl) ?_
      refine lv_bipush (v := 7) hx hb d_M_remove_36 (by decide) ?_
      refine lv_iadd hx hb d_M_remove_38 ?_
      obtain ⟨t5, hF⟩ := gd_ex hF
      obtain ⟨b6, hF⟩ := gd_ex hF
      refine ga_iald C hw t5 b6 d_M_remove_39 ?_
      obtain ⟨b7, hF⟩ := gd_ex hF
      obtain ⟨I8, eI8, hF⟩ := bnd_ex hF
      refine ga_iast C hw t5 b7 eI8 d_M_remove_40 (fun H locs hw => ?_)
      obtain ⟨v9, ev9, hF⟩ := bnd_ex hF
      refine lv_iinc (k := 2) (v := v9) hx hb d_M_remove_41 hl rfl (by rw [ev9]; rfl) (by decide) rfl (fun ls hl => ?_)
      have hl : lv_has ls 3 [(2, .int v9), (0, .ref l0), (1, .int l1)] := hl
      refine lv_goto (tgt := 15) hx hb d_M_remove_44 (by decide) ?_
      exact ih _ _ _ _ _ hF _ _ _ (lv_sub hl [1, 2, 0] rfl) hw
set_option maxHeartbeats 4000000 in
set_option maxRecDepth 100000 in
theorem c_M_remove (l : Launch) (D : va_G) (T : Nat → ClassId) (z : Nat) (L : List Nat) {S : gS} {I : gMI} {J : gMJ} {p0 : Nat} {p1 : Int32} {RI : gMI} {RJ : gMJ} (hF : f_M_remove S I J p0 p1 = some (RI, RJ)) : ga_Mv l y_M_remove prog_10_method_31_code 3 (Option.none : Option Jvm.ClassFile.FieldType) rm_M_remove [.ref p0, .int p1] D T z L S I J RI RJ := by
  refine Met.ofW (cc := prog_10_method_31_code) (maxL := 3) (ret := (Option.none : Option Jvm.ClassFile.FieldType)) (by decide) rfl ?_
  intro p e s m args below meth c s₁ B hml hv
  obtain ⟨ha, hv⟩ := hv
  have hx := B.exec
  have hb := B.bytes
  have hr := B.returns
  have hts := atoms_spec (ws := .code y_M_remove prog_10_method_31_code 3 (Option.none : Option Jvm.ClassFile.FieldType) :: ga_ws) B.pre
  have hown : s.vm.findClass "RankHouseModel" = some m.cls := findClass_of_methodNamed B.named
  have hlocks := B.notSynchronized
  have C : CallFix p m c prog_10_method_31_code 3 s args ga_ws "RankHouseModel" := ⟨hx, hb, hml, hown, fun w h => hts w (List.mem_cons_of_mem _ h)⟩
  have hw := ga_start hv
  have hl := lv_entry ([.ref p0, .int p1]) (n := 3) (Nat.le_of_ble_eq_true rfl)
  rw [show entryFrame m args 3 = entryFrame m ([.ref p0, .int p1] : List Value).toArray 3 by rw [ha], lg_entry_eq]
  generalize (lg_sl ([.ref p0, .int p1]) ++ List.replicate (3 - (lg_sl ([.ref p0, .int p1])).length) Slot.unset).toArray = ls at hl ⊢
  have hl : lv_has ls 3 [(0, .ref p0), (1, .int p1)] := hl
  have key : ∀ Q : State → Prop, (∀ (pc : Nat) (ls : Array Slot) (H : Heap) (locs : List Loc) (I1 : gMI) (J1 : gMJ), (I1, J1) = (RI, RJ) → decode prog_10_method_31_code pc = .ok (.return_, 1) → ga_W D T z L S I1 J1 s H locs → W p l e rm_M_remove s m args below meth c H locs 0 0 Q (F0 m pc ls [])) → W p l e rm_M_remove s m args below meth c s.heap [] 0 0 Q (F0 m 0 ls []) := by
    intro Q hret
    rw [f_M_remove] at hF
    refine lv_aload_n hx hb d_M_remove_0 rfl (lv_at hl 0 rfl) ?_
    refine lv_dup hx hb d_M_remove_1 rfl ?_
    obtain ⟨t1, hF⟩ := gd_ex hF
    refine ga_getI C hw gf_M_127 t1 d_M_remove_2 ?_
    refine lv_iconst (v := 1) hx hb d_M_remove_5 (by decide) ?_
    refine lv_isub hx hb d_M_remove_6 ?_
    obtain ⟨I2, eI2, hF⟩ := bnd_ex hF
    refine ga_putI C hw gp_M_127 t1 rfl rfl eI2 d_M_remove_7 (fun H locs hw => ?_)
    refine lv_bipush (v := 7) hx hb d_M_remove_10 (by decide) ?_
    refine lv_iload_n hx hb d_M_remove_12 rfl (lv_at hl 1 rfl) ?_
    refine lv_imul hx hb d_M_remove_13 ?_
    refine lv_topi (fun v3 ev3 => ?_)
    replace hF := bnd_at hF ev3
    refine lv_istore_n hx hb d_M_remove_14 rfl hl (by decide) rfl (fun ls hl => ?_)
    have hl : lv_has ls 3 [(2, .int v3), (0, .ref p0), (1, .int p1)] := hl
    exact m_M_remove_b15 hret C gFuel _ _ _ _ _ hF _ _ _ (lv_sub hl [1, 2, 0] rfl) hw
  refine key _ (fun pc ls H locs I1 J1 he hd hw => ?_)
  · cases he
    exact W.vret hx hb hr (fun t ht _ => ⟨⟨(), rfl, trivial, ga_o hw ht⟩, hw.2.2.2.1.F ht⟩) hw.2.2.2.1.2.2 hd
set_option maxHeartbeats 4000000 in
set_option maxRecDepth 100000 in
theorem m_M_bring_b163 {zz : gMI × gMJ} (hret : ∀ (pc : Nat) (ls : Array Slot) (H : Heap) (locs : List Loc) (I1 : gMI) (J1 : gMJ), (I1, J1) = zz → decode prog_10_method_32_code pc = .ok (.return_, 1) → ga_W D T z L S I1 J1 s H locs → W p l e rm_M_bring s m args below meth c H locs 0 0 Q (F0 m pc ls [])) (C : CallFix p m c prog_10_method_32_code 10 s args ga_ws "RankHouseModel") : ∀ (I : gMI) (J : gMJ), f_M_bring_b163 S I J = some zz → ∀ (ls : Array Slot) (H : Heap) (locs : List Loc), lv_has ls 10 [] → ga_W D T z L S I J s H locs → W p l e rm_M_bring s m args below meth c H locs 0 0 Q (F0 m 163 ls []) := by
  intro I J hF ls H locs hl hw
  have hx := C.1
  have hb := C.2.1
  rw [f_M_bring_b163] at hF
  exact hret _ _ _ _ _ _ (Option.some.inj hF) d_M_bring_163 hw
set_option maxHeartbeats 4000000 in
set_option maxRecDepth 100000 in
theorem m_M_bring_b252 {zz : gMI × gMJ} (hret : ∀ (pc : Nat) (ls : Array Slot) (H : Heap) (locs : List Loc) (I1 : gMI) (J1 : gMJ), (I1, J1) = zz → decode prog_10_method_32_code pc = .ok (.return_, 1) → ga_W D T z L S I1 J1 s H locs → W p l e rm_M_bring s m args below meth c H locs 0 0 Q (F0 m pc ls [])) (C : CallFix p m c prog_10_method_32_code 10 s args ga_ws "RankHouseModel") : ∀ (I : gMI) (J : gMJ), f_M_bring_b252 S I J = some zz → ∀ (ls : Array Slot) (H : Heap) (locs : List Loc), lv_has ls 10 [] → ga_W D T z L S I J s H locs → W p l e rm_M_bring s m args below meth c H locs 0 0 Q (F0 m 252 ls []) := by
  intro I J hF ls H locs hl hw
  have hx := C.1
  have hb := C.2.1
  rw [f_M_bring_b252] at hF
  exact hret _ _ _ _ _ _ (Option.some.inj hF) d_M_bring_252 hw
set_option maxHeartbeats 4000000 in
set_option maxRecDepth 100000 in
theorem m_M_bring_b237 {zz : gMI × gMJ} (hret : ∀ (pc : Nat) (ls : Array Slot) (H : Heap) (locs : List Loc) (I1 : gMI) (J1 : gMJ), (I1, J1) = zz → decode prog_10_method_32_code pc = .ok (.return_, 1) → ga_W D T z L S I1 J1 s H locs → W p l e rm_M_bring s m args below meth c H locs 0 0 Q (F0 m pc ls [])) (C : CallFix p m c prog_10_method_32_code 10 s args ga_ws "RankHouseModel") : ∀ (I : gMI) (J : gMJ) (s0 : Int32) (l0 : Nat) (l6 : Int32) (l8 : Int32), f_M_bring_b237 S I J s0 l0 l6 l8 = some zz → ∀ (ls : Array Slot) (H : Heap) (locs : List Loc), lv_has ls 10 [(0, .ref l0), (6, .int l6), (8, .int l8)] → ga_W D T z L S I J s H locs → W p l e rm_M_bring s m args below meth c H locs 0 0 Q (F0 m 237 ls [.int s0]) := by
  intro I J s0 l0 l6 l8 hF ls H locs hl hw
  have hx := C.1
  have hb := C.2.1
  rw [f_M_bring_b237] at hF
  refine lv_istore hx hb d_M_bring_237 hl (by decide) rfl (fun ls hl => ?_)
  have hl : lv_has ls 10 [(9, .int s0), (0, .ref l0), (6, .int l6), (8, .int l8)] := hl
  refine lv_iload hx hb d_M_bring_239 (lv_at hl 0 rfl) ?_
  by_cases h1 : s0 = 0
  · rw [if_pos h1] at hF
    refine lv_if_eq (tgt := 252) hx hb d_M_bring_241 (by decide) (fun _ => ?_) (fun hn => absurd h1 hn)
    exact m_M_bring_b252 hret C _ _ hF _ _ _ (lv_sub hl [] rfl) hw
  · rw [if_neg h1] at hF
    refine lv_if_eq (tgt := 252) hx hb d_M_bring_241 (by decide) (fun hp => absurd hp h1) (fun _ => ?_)
    refine lv_aload_n hx hb d_M_bring_244 rfl (lv_at hl 1 rfl) ?_
    refine lv_iload hx hb d_M_bring_245 (lv_at hl 3 rfl) ?_
    refine lv_iload hx hb d_M_bring_247 (lv_at hl 2 rfl) ?_
    obtain ⟨t2, hF⟩ := gd_ex hF
    obtain ⟨I3, J4, c5, hF⟩ := bd2_ex hF
    refine ga_cVv (As := [.int l8, .int l6]) C hw (c_M_take l D T z L c5) gy_M_220 t2 rfl hl.1 ⟨Nat.le_of_ble_eq_true rfl, Nat.le_of_ble_eq_true rfl, rfl, rfl, Nat.le_of_ble_eq_true rfl, Nat.le_of_ble_eq_true rfl⟩ (Nat.le_of_ble_eq_true rfl) rfl d_M_bring_249 (fun H locs hw => ?_)
    exact m_M_bring_b252 hret C _ _ hF _ _ _ (lv_sub hl [] rfl) hw
set_option maxHeartbeats 4000000 in
set_option maxRecDepth 100000 in
theorem m_M_bring_b236 {zz : gMI × gMJ} (hret : ∀ (pc : Nat) (ls : Array Slot) (H : Heap) (locs : List Loc) (I1 : gMI) (J1 : gMJ), (I1, J1) = zz → decode prog_10_method_32_code pc = .ok (.return_, 1) → ga_W D T z L S I1 J1 s H locs → W p l e rm_M_bring s m args below meth c H locs 0 0 Q (F0 m pc ls [])) (C : CallFix p m c prog_10_method_32_code 10 s args ga_ws "RankHouseModel") : ∀ (I : gMI) (J : gMJ) (l0 : Nat) (l6 : Int32) (l8 : Int32), f_M_bring_b236 S I J l0 l6 l8 = some zz → ∀ (ls : Array Slot) (H : Heap) (locs : List Loc), lv_has ls 10 [(0, .ref l0), (6, .int l6), (8, .int l8)] → ga_W D T z L S I J s H locs → W p l e rm_M_bring s m args below meth c H locs 0 0 Q (F0 m 236 ls []) := by
  intro I J l0 l6 l8 hF ls H locs hl hw
  have hx := C.1
  have hb := C.2.1
  rw [f_M_bring_b236] at hF
  refine lv_iconst (v := 0) hx hb d_M_bring_236 (by decide) ?_
  exact m_M_bring_b237 hret C _ _ _ _ _ _ hF _ _ _ hl hw
set_option maxHeartbeats 4000000 in
set_option maxRecDepth 100000 in
theorem m_M_bring_b337 {zz : gMI × gMJ} (hret : ∀ (pc : Nat) (ls : Array Slot) (H : Heap) (locs : List Loc) (I1 : gMI) (J1 : gMJ), (I1, J1) = zz → decode prog_10_method_32_code pc = .ok (.return_, 1) → ga_W D T z L S I1 J1 s H locs → W p l e rm_M_bring s m args below meth c H locs 0 0 Q (F0 m pc ls [])) (C : CallFix p m c prog_10_method_32_code 10 s args ga_ws "RankHouseModel") : ∀ (I : gMI) (J : gMJ), f_M_bring_b337 S I J = some zz → ∀ (ls : Array Slot) (H : Heap) (locs : List Loc), lv_has ls 10 [] → ga_W D T z L S I J s H locs → W p l e rm_M_bring s m args below meth c H locs 0 0 Q (F0 m 337 ls []) := by
  intro I J hF ls H locs hl hw
  have hx := C.1
  have hb := C.2.1
  rw [f_M_bring_b337] at hF
  exact hret _ _ _ _ _ _ (Option.some.inj hF) d_M_bring_337 hw
set_option maxHeartbeats 4000000 in
set_option maxRecDepth 100000 in
theorem m_M_bring_b295 {zz : gMI × gMJ} (hret : ∀ (pc : Nat) (ls : Array Slot) (H : Heap) (locs : List Loc) (I1 : gMI) (J1 : gMJ), (I1, J1) = zz → decode prog_10_method_32_code pc = .ok (.return_, 1) → ga_W D T z L S I1 J1 s H locs → W p l e rm_M_bring s m args below meth c H locs 0 0 Q (F0 m pc ls [])) (C : CallFix p m c prog_10_method_32_code 10 s args ga_ws "RankHouseModel") : ∀ (I : gMI) (J : gMJ) (l0 : Nat) (l2 : Int32) (l3 : Int32) (l4 : Int32) (l5 : Int32) (l6 : Int32) (l7 : Int32) (l8 : Int32), f_M_bring_b295 S I J l0 l2 l3 l4 l5 l6 l7 l8 = some zz → ∀ (ls : Array Slot) (H : Heap) (locs : List Loc), lv_has ls 10 [(0, .ref l0), (2, .int l2), (3, .int l3), (4, .int l4), (5, .int l5), (6, .int l6), (7, .int l7), (8, .int l8)] → ga_W D T z L S I J s H locs → W p l e rm_M_bring s m args below meth c H locs 0 0 Q (F0 m 295 ls []) := by
  intro I J l0 l2 l3 l4 l5 l6 l7 l8 hF ls H locs hl hw
  have hx := C.1
  have hb := C.2.1
  rw [f_M_bring_b295] at hF
  refine lv_aload_n hx hb d_M_bring_295 rfl (lv_at hl 0 rfl) ?_
  obtain ⟨t1, hF⟩ := gd_ex hF
  obtain ⟨r2, hr2, hF⟩ := ob_ex hF
  refine ga_getR C hw gf_M_56 t1 hr2 d_M_bring_296 ?_
  refine lv_bipush (v := 8) hx hb d_M_bring_299 (by decide) ?_
  refine lv_iload hx hb d_M_bring_301 (lv_at hl 7 rfl) ?_
  refine lv_imul hx hb d_M_bring_303 ?_
  refine lv_iload hx hb d_M_bring_304 (lv_at hl 6 rfl) ?_
  refine lv_iadd hx hb d_M_bring_306 ?_
  obtain ⟨t3, hF⟩ := gd_ex hF
  obtain ⟨b4, hF⟩ := gd_ex hF
  refine ga_iald C hw t3 b4 d_M_bring_307 ?_
  refine lv_iconst (v := -1) hx hb d_M_bring_308 (by decide) ?_
  by_cases h5 : (I r2 (((8 : Int32) * l8) + l7).toNatClampNeg) = (-1 : Int32)
  · rw [if_pos h5] at hF
    refine lv_icmp_eq (tgt := 337) hx hb d_M_bring_309 (by decide) (fun _ => ?_) (fun hn => absurd h5 hn)
    exact m_M_bring_b337 hret C _ _ hF _ _ _ (lv_sub hl [] rfl) hw
  · rw [if_neg h5] at hF
    refine lv_icmp_eq (tgt := 337) hx hb d_M_bring_309 (by decide) (fun hp => absurd hp h5) (fun _ => ?_)
    refine lv_aload_n hx hb d_M_bring_312 rfl (lv_at hl 0 rfl) ?_
    refine lv_iload_n hx hb d_M_bring_313 rfl (lv_at hl 1 rfl) ?_
    refine lv_iload hx hb d_M_bring_314 (lv_at hl 6 rfl) ?_
    refine lv_iload hx hb d_M_bring_316 (lv_at hl 7 rfl) ?_
    obtain ⟨I6, J7, c8, hF⟩ := bd2_ex hF
    refine ga_cVv (As := [.int l2, .int l7, .int l8]) C hw (c_M_readyAnswer l D T z L c8) gy_M_223 t1 rfl hl.1 ⟨Nat.le_of_ble_eq_true rfl, Nat.le_of_ble_eq_true rfl, rfl, rfl, Nat.le_of_ble_eq_true rfl, Nat.le_of_ble_eq_true rfl⟩ (Nat.le_of_ble_eq_true rfl) rfl d_M_bring_318 (fun H locs hw => ?_)
    refine lv_aload_n hx hb d_M_bring_321 rfl (lv_at hl 0 rfl) ?_
    refine lv_iload_n hx hb d_M_bring_322 rfl (lv_at hl 1 rfl) ?_
    refine lv_iconst (v := 1) hx hb d_M_bring_323 (by decide) ?_
    refine lv_iadd hx hb d_M_bring_324 ?_
    refine lv_iload_n hx hb d_M_bring_325 rfl (lv_at hl 2 rfl) ?_
    refine lv_iload hx hb d_M_bring_326 (lv_at hl 3 rfl) ?_
    refine lv_iload hx hb d_M_bring_328 (lv_at hl 4 rfl) ?_
    refine lv_iload hx hb d_M_bring_330 (lv_at hl 6 rfl) ?_
    refine lv_iload hx hb d_M_bring_332 (lv_at hl 5 rfl) ?_
    obtain ⟨I9, J10, c11, hF⟩ := bd2_ex hF
    refine ga_cVv (As := [.int (l2 + (1 : Int32)), .int l3, .int l4, .int l5, .int l7, .int l6]) C hw (c_M_send l D T z L c11) gy_M_146 t1 rfl hl.1 ⟨Nat.le_of_ble_eq_true rfl, Nat.le_of_ble_eq_true rfl, rfl, rfl, Nat.le_of_ble_eq_true rfl, Nat.le_of_ble_eq_true rfl⟩ (Nat.le_of_ble_eq_true rfl) rfl d_M_bring_334 (fun H locs hw => ?_)
    exact m_M_bring_b337 hret C _ _ hF _ _ _ (lv_sub hl [] rfl) hw
set_option maxHeartbeats 4000000 in
set_option maxRecDepth 100000 in
theorem m_M_bring_b93 {zz : gMI × gMJ} (hret : ∀ (pc : Nat) (ls : Array Slot) (H : Heap) (locs : List Loc) (I1 : gMI) (J1 : gMJ), (I1, J1) = zz → decode prog_10_method_32_code pc = .ok (.return_, 1) → ga_W D T z L S I1 J1 s H locs → W p l e rm_M_bring s m args below meth c H locs 0 0 Q (F0 m pc ls [])) (C : CallFix p m c prog_10_method_32_code 10 s args ga_ws "RankHouseModel") : ∀ (n : Nat) (I : gMI) (J : gMJ) (l0 : Nat) (l1 : Int32) (l2 : Int32) (l3 : Int32) (l4 : Int32) (l5 : Int32) (l6 : Int32) (l7 : Int32) (l8 : Int32), f_M_bring_b93 S n I J l0 l1 l2 l3 l4 l5 l6 l7 l8 = some zz → ∀ (ls : Array Slot) (H : Heap) (locs : List Loc), lv_has ls 10 [(0, .ref l0), (1, .int l1), (2, .int l2), (3, .int l3), (4, .int l4), (5, .int l5), (6, .int l6), (7, .int l7), (8, .int l8)] → ga_W D T z L S I J s H locs → W p l e rm_M_bring s m args below meth c H locs 0 0 Q (F0 m 93 ls []) := by
  intro n
  induction n with
  | zero =>
    intro I J l0 l1 l2 l3 l4 l5 l6 l7 l8 hF ls H locs hl hw
    rw [f_M_bring_b93] at hF
    cases hF
  | succ n ih =>
    intro I J l0 l1 l2 l3 l4 l5 l6 l7 l8 hF ls H locs hl hw
    have hx := C.1
    have hb := C.2.1
    rw [f_M_bring_b93] at hF
    refine lv_iload hx hb d_M_bring_93 (lv_at hl 8 rfl) ?_
    refine lv_bipush (v := 64) hx hb d_M_bring_95 (by decide) ?_
    by_cases h1 : (64 : Int32) ≤ l8
    · rw [if_pos h1] at hF
      refine lv_icmp_ge (tgt := 125) hx hb d_M_bring_97 (by decide) (fun _ => ?_) (fun hn => absurd h1 hn)
      refine lv_aload_n hx hb d_M_bring_125 rfl (lv_at hl 0 rfl) ?_
      refine lv_aload_n hx hb d_M_bring_126 rfl (lv_at hl 0 rfl) ?_
      obtain ⟨t2, hF⟩ := gd_ex hF
      obtain ⟨r3, hr3, hF⟩ := ob_ex hF
      refine ga_getR C hw gf_M_108 t2 hr3 d_M_bring_127 ?_
      refine lv_iload_n hx hb d_M_bring_130 rfl (lv_at hl 1 rfl) ?_
      obtain ⟨t4, hF⟩ := gd_ex hF
      obtain ⟨b5, hF⟩ := gd_ex hF
      refine ga_lald C hw t4 b5 d_M_bring_131 ?_
      obtain ⟨J6, eJ6, hF⟩ := bnd_ex hF
      refine ga_putJ C hw gp_M_133 t2 eJ6 d_M_bring_132 (fun H locs hw => ?_)
      refine lv_aload_n hx hb d_M_bring_135 rfl (lv_at hl 0 rfl) ?_
      refine lv_iload_n hx hb d_M_bring_136 rfl (lv_at hl 1 rfl) ?_
      obtain ⟨I7, J8, c9, hF⟩ := bd2_ex hF
      refine ga_cVv (As := [.int l1]) C hw (c_M_remove l D T z L c9) gy_M_214 t2 rfl hl.1 ⟨Nat.le_of_ble_eq_true rfl, Nat.le_of_ble_eq_true rfl, rfl, rfl, Nat.le_of_ble_eq_true rfl, Nat.le_of_ble_eq_true rfl⟩ (Nat.le_of_ble_eq_true rfl) rfl d_M_bring_137 (fun H locs hw => ?_)
      refine lv_aload_n hx hb d_M_bring_140 rfl (lv_at hl 0 rfl) ?_
      refine lv_iload_n hx hb d_M_bring_141 rfl (lv_at hl 3 rfl) ?_
      obtain ⟨x10, c11, hF⟩ := ob_ex hF
      refine ga_cVi (As := [.int l3]) C hw (c_M_placeOf l D T z L c11) gy_M_217 t2 rfl hl.1 ⟨Nat.le_of_ble_eq_true rfl, Nat.le_of_ble_eq_true rfl, rfl, rfl, Nat.le_of_ble_eq_true rfl, Nat.le_of_ble_eq_true rfl⟩ (Nat.le_of_ble_eq_true rfl) rfl d_M_bring_142 (fun H locs hw => ?_)
      refine lv_istore hx hb d_M_bring_145 hl (by decide) rfl (fun ls hl => ?_)
      have hl : lv_has ls 10 [(8, .int x10), (0, .ref l0), (1, .int l1), (2, .int l2), (3, .int l3), (4, .int l4), (5, .int l5), (6, .int l6), (7, .int l7)] := hl
      refine lv_iload hx hb d_M_bring_147 (lv_at hl 0 rfl) ?_
      refine lv_iconst (v := -1) hx hb d_M_bring_149 (by decide) ?_
      by_cases h12 : x10 = (-1 : Int32)
      · rw [if_pos h12] at hF
        refine lv_icmp_eq (tgt := 163) hx hb d_M_bring_150 (by decide) (fun _ => ?_) (fun hn => absurd h12 hn)
        exact m_M_bring_b163 hret C _ _ hF _ _ _ (lv_sub hl [] rfl) hw
      · rw [if_neg h12] at hF
        refine lv_icmp_eq (tgt := 163) hx hb d_M_bring_150 (by decide) (fun hp => absurd hp h12) (fun _ => ?_)
        refine lv_aload_n hx hb d_M_bring_153 rfl (lv_at hl 1 rfl) ?_
        obtain ⟨r13, hr13, hF⟩ := ob_ex hF
        refine ga_getR C hw gf_M_7 t2 hr13 d_M_bring_154 ?_
        refine lv_iload hx hb d_M_bring_157 (lv_at hl 8 rfl) ?_
        obtain ⟨t14, hF⟩ := gd_ex hF
        obtain ⟨b15, hF⟩ := gd_ex hF
        refine ga_zald C hw t14 b15 d_M_bring_159 ?_
        by_cases h16 : (I7 r13 l7.toNatClampNeg) = 0
        · rw [if_pos h16] at hF
          refine lv_if_eq (tgt := 164) hx hb d_M_bring_160 (by decide) (fun _ => ?_) (fun hn => absurd h16 hn)
          refine lv_iload_n hx hb d_M_bring_164 rfl (lv_at hl 3 rfl) ?_
          refine lv_iconst (v := 2) hx hb d_M_bring_165 (by decide) ?_
          refine lv_irem hx hb d_M_bring_166 (by decide) ?_
          by_cases h17 : (l2 - l2 / (2 : Int32) * (2 : Int32)) = 0
          · rw [if_pos h17] at hF
            refine lv_if_ne (tgt := 253) hx hb d_M_bring_167 (by decide) (fun hn => absurd h17 hn) (fun _ => ?_)
            refine lv_aload_n hx hb d_M_bring_170 rfl (lv_at hl 1 rfl) ?_
            obtain ⟨r27, hr27, hF⟩ := ob_ex hF
            refine ga_getR C hw gf_M_32 t2 hr27 d_M_bring_171 ?_
            refine lv_iload hx hb d_M_bring_174 (lv_at hl 0 rfl) ?_
            obtain ⟨t28, hF⟩ := gd_ex hF
            obtain ⟨b29, hF⟩ := gd_ex hF
            refine ga_iald C hw t28 b29 d_M_bring_176 ?_
            refine lv_iload hx hb d_M_bring_177 (lv_at hl 8 rfl) ?_
            by_cases h30 : (I7 r27 x10.toNatClampNeg) = l7
            · rw [if_pos h30] at hF
              refine lv_icmp_ne (tgt := 236) hx hb d_M_bring_179 (by decide) (fun hn => absurd h30 hn) (fun _ => ?_)
              refine lv_aload_n hx hb d_M_bring_182 rfl (lv_at hl 1 rfl) ?_
              obtain ⟨r31, hr31, hF⟩ := ob_ex hF
              refine ga_getR C hw gf_M_41 t2 hr31 d_M_bring_183 ?_
              refine lv_iload hx hb d_M_bring_186 (lv_at hl 0 rfl) ?_
              obtain ⟨t32, hF⟩ := gd_ex hF
              obtain ⟨b33, hF⟩ := gd_ex hF
              refine ga_iald C hw t32 b33 d_M_bring_188 ?_
              by_cases h34 : (I7 r31 x10.toNatClampNeg) = 0
              · rw [if_pos h34] at hF
                refine lv_if_ne (tgt := 236) hx hb d_M_bring_189 (by decide) (fun hn => absurd h34 hn) (fun _ => ?_)
                refine lv_aload_n hx hb d_M_bring_192 rfl (lv_at hl 1 rfl) ?_
                obtain ⟨r35, hr35, hF⟩ := ob_ex hF
                refine ga_getR C hw gf_M_35 t2 hr35 d_M_bring_193 ?_
                refine lv_iload hx hb d_M_bring_196 (lv_at hl 0 rfl) ?_
                obtain ⟨t36, hF⟩ := gd_ex hF
                obtain ⟨b37, hF⟩ := gd_ex hF
                refine ga_iald C hw t36 b37 d_M_bring_198 ?_
                refine lv_iload hx hb d_M_bring_199 (lv_at hl 5 rfl) ?_
                by_cases h38 : (I7 r35 x10.toNatClampNeg) = l4
                · rw [if_pos h38] at hF
                  refine lv_icmp_ne (tgt := 236) hx hb d_M_bring_201 (by decide) (fun hn => absurd h38 hn) (fun _ => ?_)
                  refine lv_aload_n hx hb d_M_bring_204 rfl (lv_at hl 1 rfl) ?_
                  obtain ⟨r39, hr39, hF⟩ := ob_ex hF
                  refine ga_getR C hw gf_M_38 t2 hr39 d_M_bring_205 ?_
                  refine lv_iload hx hb d_M_bring_208 (lv_at hl 0 rfl) ?_
                  obtain ⟨t40, hF⟩ := gd_ex hF
                  obtain ⟨b41, hF⟩ := gd_ex hF
                  refine ga_iald C hw t40 b41 d_M_bring_210 ?_
                  refine lv_iload hx hb d_M_bring_211 (lv_at hl 6 rfl) ?_
                  by_cases h42 : (I7 r39 x10.toNatClampNeg) = l5
                  · rw [if_pos h42] at hF
                    refine lv_icmp_ne (tgt := 236) hx hb d_M_bring_213 (by decide) (fun hn => absurd h42 hn) (fun _ => ?_)
                    refine lv_aload_n hx hb d_M_bring_216 rfl (lv_at hl 1 rfl) ?_
                    obtain ⟨r43, hr43, hF⟩ := ob_ex hF
                    refine ga_getR C hw gf_M_87 t2 hr43 d_M_bring_217 ?_
                    refine lv_bipush (v := 8) hx hb d_M_bring_220 (by decide) ?_
                    refine lv_iload hx hb d_M_bring_222 (lv_at hl 0 rfl) ?_
                    refine lv_imul hx hb d_M_bring_224 ?_
                    refine lv_iload hx hb d_M_bring_225 (lv_at hl 7 rfl) ?_
                    refine lv_iadd hx hb d_M_bring_227 ?_
                    obtain ⟨t44, hF⟩ := gd_ex hF
                    obtain ⟨b45, hF⟩ := gd_ex hF
                    refine ga_zald C hw t44 b45 d_M_bring_228 ?_
                    by_cases h46 : (I7 r43 (((8 : Int32) * x10) + l6).toNatClampNeg) = 0
                    · rw [if_pos h46] at hF
                      refine lv_if_ne (tgt := 236) hx hb d_M_bring_229 (by decide) (fun hn => absurd h46 hn) (fun _ => ?_)
                      refine lv_iconst (v := 1) hx hb d_M_bring_232 (by decide) ?_
                      refine lv_goto (tgt := 237) hx hb d_M_bring_233 (by decide) ?_
                      exact m_M_bring_b237 hret C _ _ _ _ _ _ hF _ _ _ (lv_sub hl [1, 7, 0] rfl) hw
                    · rw [if_neg h46] at hF
                      refine lv_if_ne (tgt := 236) hx hb d_M_bring_229 (by decide) (fun _ => ?_) (fun hp => absurd hp h46)
                      exact m_M_bring_b236 hret C _ _ _ _ _ hF _ _ _ (lv_sub hl [1, 7, 0] rfl) hw
                  · rw [if_neg h42] at hF
                    refine lv_icmp_ne (tgt := 236) hx hb d_M_bring_213 (by decide) (fun _ => ?_) (fun hp => absurd hp h42)
                    exact m_M_bring_b236 hret C _ _ _ _ _ hF _ _ _ (lv_sub hl [1, 7, 0] rfl) hw
                · rw [if_neg h38] at hF
                  refine lv_icmp_ne (tgt := 236) hx hb d_M_bring_201 (by decide) (fun _ => ?_) (fun hp => absurd hp h38)
                  exact m_M_bring_b236 hret C _ _ _ _ _ hF _ _ _ (lv_sub hl [1, 7, 0] rfl) hw
              · rw [if_neg h34] at hF
                refine lv_if_ne (tgt := 236) hx hb d_M_bring_189 (by decide) (fun _ => ?_) (fun hp => absurd hp h34)
                exact m_M_bring_b236 hret C _ _ _ _ _ hF _ _ _ (lv_sub hl [1, 7, 0] rfl) hw
            · rw [if_neg h30] at hF
              refine lv_icmp_ne (tgt := 236) hx hb d_M_bring_179 (by decide) (fun _ => ?_) (fun hp => absurd hp h30)
              exact m_M_bring_b236 hret C _ _ _ _ _ hF _ _ _ (lv_sub hl [1, 7, 0] rfl) hw
          · rw [if_neg h17] at hF
            refine lv_if_ne (tgt := 253) hx hb d_M_bring_167 (by decide) (fun _ => ?_) (fun hp => absurd hp h17)
            refine lv_iload_n hx hb d_M_bring_253 rfl (lv_at hl 3 rfl) ?_
            refine lv_iconst (v := 1) hx hb d_M_bring_254 (by decide) ?_
            by_cases h18 : l2 = (1 : Int32)
            · rw [if_pos h18] at hF
              refine lv_icmp_ne (tgt := 295) hx hb d_M_bring_255 (by decide) (fun hn => absurd h18 hn) (fun _ => ?_)
              refine lv_aload_n hx hb d_M_bring_258 rfl (lv_at hl 1 rfl) ?_
              obtain ⟨r19, hr19, hF⟩ := ob_ex hF
              refine ga_getR C hw gf_M_56 t2 hr19 d_M_bring_259 ?_
              refine lv_bipush (v := 8) hx hb d_M_bring_262 (by decide) ?_
              refine lv_iload hx hb d_M_bring_264 (lv_at hl 0 rfl) ?_
              refine lv_imul hx hb d_M_bring_266 ?_
              refine lv_iload hx hb d_M_bring_267 (lv_at hl 8 rfl) ?_
              refine lv_iadd hx hb d_M_bring_269 ?_
              obtain ⟨t20, hF⟩ := gd_ex hF
              obtain ⟨b21, hF⟩ := gd_ex hF
              refine ga_iald C hw t20 b21 d_M_bring_270 ?_
              refine lv_iconst (v := -1) hx hb d_M_bring_271 (by decide) ?_
              by_cases h22 : (I7 r19 (((8 : Int32) * x10) + l7).toNatClampNeg) = (-1 : Int32)
              · rw [if_pos h22] at hF
                refine lv_icmp_ne (tgt := 295) hx hb d_M_bring_272 (by decide) (fun hn => absurd h22 hn) (fun _ => ?_)
                refine lv_aload_n hx hb d_M_bring_275 rfl (lv_at hl 1 rfl) ?_
                refine ga_getR C hw gf_M_56 t2 hr19 d_M_bring_276 ?_
                refine lv_bipush (v := 8) hx hb d_M_bring_279 (by decide) ?_
                refine lv_iload hx hb d_M_bring_281 (lv_at hl 0 rfl) ?_
                refine lv_imul hx hb d_M_bring_283 ?_
                refine lv_iload hx hb d_M_bring_284 (lv_at hl 8 rfl) ?_
                refine lv_iadd hx hb d_M_bring_286 ?_
                refine lv_aload_n hx hb d_M_bring_287 rfl (lv_at hl 1 rfl) ?_
                obtain ⟨r23, hr23, hF⟩ := ob_ex hF
                refine ga_getR C hw gf_M_13 t2 hr23 d_M_bring_288 ?_
                refine lv_iload hx hb d_M_bring_291 (lv_at hl 8 rfl) ?_
                obtain ⟨t24, hF⟩ := gd_ex hF
                obtain ⟨b25, hF⟩ := gd_ex hF
                refine ga_iald C hw t24 b25 d_M_bring_293 ?_
                obtain ⟨I26, eI26, hF⟩ := bnd_ex hF
                refine ga_iast C hw t20 b21 eI26 d_M_bring_294 (fun H locs hw => ?_)
                exact m_M_bring_b295 hret C _ _ _ _ _ _ _ _ _ _ hF _ _ _ (lv_sub hl [1, 3, 4, 5, 6, 7, 8, 0] rfl) hw
              · rw [if_neg h22] at hF
                refine lv_icmp_ne (tgt := 295) hx hb d_M_bring_272 (by decide) (fun _ => ?_) (fun hp => absurd hp h22)
                exact m_M_bring_b295 hret C _ _ _ _ _ _ _ _ _ _ hF _ _ _ (lv_sub hl [1, 3, 4, 5, 6, 7, 8, 0] rfl) hw
            · rw [if_neg h18] at hF
              refine lv_icmp_ne (tgt := 295) hx hb d_M_bring_255 (by decide) (fun _ => ?_) (fun hp => absurd hp h18)
              exact m_M_bring_b295 hret C _ _ _ _ _ _ _ _ _ _ hF _ _ _ (lv_sub hl [1, 3, 4, 5, 6, 7, 8, 0] rfl) hw
        · rw [if_neg h16] at hF
          refine lv_if_eq (tgt := 164) hx hb d_M_bring_160 (by decide) (fun hp => absurd hp h16) (fun _ => ?_)
          exact m_M_bring_b163 hret C _ _ hF _ _ _ (lv_sub hl [] rfl) hw
    · rw [if_neg h1] at hF
      refine lv_icmp_ge (tgt := 125) hx hb d_M_bring_97 (by decide) (fun hp => absurd hp h1) (fun _ => ?_)
      refine lv_aload_n hx hb d_M_bring_100 rfl (lv_at hl 0 rfl) ?_
      obtain ⟨t47, hF⟩ := gd_ex hF
      obtain ⟨r48, hr48, hF⟩ := ob_ex hF
      refine ga_getR C hw gf_M_111 t47 hr48 d_M_bring_101 ?_
      refine lv_iload hx hb d_M_bring_104 (lv_at hl 8 rfl) ?_
      refine lv_aload_n hx hb d_M_bring_106 rfl (lv_at hl 0 rfl) ?_
      obtain ⟨r49, hr49, hF⟩ := ob_ex hF
      refine ga_getR C hw gf_M_105 t47 hr49 d_M_bring_107 ?_
      refine lv_bipush (v := 64) hx hb d_M_bring_110 (by decide) ?_
      refine lv_iload_n hx hb d_M_bring_112 rfl (lv_at hl 1 rfl) ?_
      refine lv_imul hx hb d_M_bring_113 ?_
      refine lv_iload hx hb d_M_bring_114 (lv_at hl 8 rfl) ?_
      refine lv_iadd hx hb d_M_bring_116 ?_
      obtain ⟨t50, hF⟩ := gd_ex hF
      obtain ⟨b51, hF⟩ := gd_ex hF
      refine ga_iald C hw t50 b51 d_M_bring_117 ?_
      obtain ⟨t52, hF⟩ := gd_ex hF
      obtain ⟨b53, hF⟩ := gd_ex hF
      obtain ⟨I54, eI54, hF⟩ := bnd_ex hF
      refine ga_iast C hw t52 b53 eI54 d_M_bring_118 (fun H locs hw => ?_)
      obtain ⟨v55, ev55, hF⟩ := bnd_ex hF
      refine lv_iinc (k := 8) (v := v55) hx hb d_M_bring_119 hl rfl (by rw [ev55]; rfl) (by decide) rfl (fun ls hl => ?_)
      have hl : lv_has ls 10 [(8, .int v55), (0, .ref l0), (1, .int l1), (2, .int l2), (3, .int l3), (4, .int l4), (5, .int l5), (6, .int l6), (7, .int l7)] := hl
      refine lv_goto (tgt := 93) hx hb d_M_bring_122 (by decide) ?_
      exact ih _ _ _ _ _ _ _ _ _ _ _ hF _ _ _ (lv_sub hl [1, 2, 3, 4, 5, 6, 7, 8, 0] rfl) hw
end WALK
