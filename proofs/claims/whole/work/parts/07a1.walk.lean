section WALK
variable {p : Program} {l : Launch} {e : Env} {s : State} {m : MethodId} {args : Array Value} {below : List Frame} {meth : Method} {c : Code} {Q : State → Prop} {D : va_G} {T : Nat → ClassId} {z : Nat} {L : List Nat} {S : gS}
set_option maxHeartbeats 4000000 in
set_option maxRecDepth 100000 in
theorem m_SortedRow_below_b45 {I : gMI} {J : gMJ} {zz : Int32} (hret : ∀ (pc : Nat) (ls : Array Slot) (H : Heap) (locs : List Loc) (x : Int32), (x) = zz → decode prog_8_method_5_code pc = .ok (.ireturn, 1) → ga_W D T z L S I J s H locs → W p l e rm_SortedRow_below s m args below meth c H locs 0 0 Q (F0 m pc ls [.int x])) (C : CallFix p m c prog_8_method_5_code 6 s args ga_ws "RankHouse$SortedRow") (k7 : Nat → Int64 → Int32 → Int32 → Option (Int32)) (hk7 : ∀ (l0 : Nat) (l1 : Int64) (l3 : Int32) (l4 : Int32), k7 l0 l1 l3 l4 = some zz → ∀ (ls : Array Slot) (H : Heap) (locs : List Loc), lv_has ls 6 [(0, .ref l0), (1, .long l1), (3, .int l3), (4, .int l4)] → ga_W D T z L S I J s H locs → W p l e rm_SortedRow_below s m args below meth c H locs 0 0 Q (F0 m 7 ls [])) : ∀ (l0 : Nat) (l1 : Int64) (l3 : Int32) (l4 : Int32), f_SortedRow_below_b45 S I J k7 l0 l1 l3 l4 = some zz → ∀ (ls : Array Slot) (H : Heap) (locs : List Loc), lv_has ls 6 [(0, .ref l0), (1, .long l1), (3, .int l3), (4, .int l4)] → ga_W D T z L S I J s H locs → W p l e rm_SortedRow_below s m args below meth c H locs 0 0 Q (F0 m 45 ls []) := by
  intro l0 l1 l3 l4 hF ls H locs hl hw
  have hx := C.1
  have hb := C.2.1
  rw [f_SortedRow_below_b45] at hF
  refine lv_iload hx hb d_SortedRow_below_45 (lv_at hl 3 rfl) ?_
  refine lv_iconst (v := 2) hx hb d_SortedRow_below_47 (by decide) ?_
  refine lv_idiv hx hb d_SortedRow_below_48 (by decide) ?_
  refine lv_topi (fun v1 ev1 => ?_)
  replace hF := bnd_at hF ev1
  refine lv_istore hx hb d_SortedRow_below_49 hl (by decide) rfl (fun ls hl => ?_)
  have hl : lv_has ls 6 [(4, .int v1), (0, .ref l0), (1, .long l1), (3, .int l3)] := hl
  refine lv_goto (tgt := 7) hx hb d_SortedRow_below_51 (by decide) ?_
  exact hk7 _ _ _ _ hF _ _ _ (lv_sub hl [1, 2, 3, 0] rfl) hw
set_option maxHeartbeats 4000000 in
set_option maxRecDepth 100000 in
theorem m_SortedRow_below_b7 {I : gMI} {J : gMJ} {zz : Int32} (hret : ∀ (pc : Nat) (ls : Array Slot) (H : Heap) (locs : List Loc) (x : Int32), (x) = zz → decode prog_8_method_5_code pc = .ok (.ireturn, 1) → ga_W D T z L S I J s H locs → W p l e rm_SortedRow_below s m args below meth c H locs 0 0 Q (F0 m pc ls [.int x])) (C : CallFix p m c prog_8_method_5_code 6 s args ga_ws "RankHouse$SortedRow") : ∀ (n : Nat) (l0 : Nat) (l1 : Int64) (l3 : Int32) (l4 : Int32), f_SortedRow_below_b7 S I J n l0 l1 l3 l4 = some zz → ∀ (ls : Array Slot) (H : Heap) (locs : List Loc), lv_has ls 6 [(0, .ref l0), (1, .long l1), (3, .int l3), (4, .int l4)] → ga_W D T z L S I J s H locs → W p l e rm_SortedRow_below s m args below meth c H locs 0 0 Q (F0 m 7 ls []) := by
  intro n
  induction n with
  | zero =>
    intro l0 l1 l3 l4 hF ls H locs hl hw
    rw [f_SortedRow_below_b7] at hF
    cases hF
  | succ n ih =>
    intro l0 l1 l3 l4 hF ls H locs hl hw
    have hx := C.1
    have hb := C.2.1
    rw [f_SortedRow_below_b7] at hF
    refine lv_iload hx hb d_SortedRow_below_7 (lv_at hl 3 rfl) ?_
    by_cases h1 : l4 ≤ 0
    · rw [if_pos h1] at hF
      refine lv_if_le (tgt := 54) hx hb d_SortedRow_below_9 (by decide) (fun _ => ?_) (fun hn => absurd h1 hn)
      refine lv_iload_n hx hb d_SortedRow_below_54 rfl (lv_at hl 2 rfl) ?_
      exact hret _ _ _ _ _ (Option.some.inj hF) d_SortedRow_below_55 hw
    · rw [if_neg h1] at hF
      refine lv_if_le (tgt := 54) hx hb d_SortedRow_below_9 (by decide) (fun hp => absurd hp h1) (fun _ => ?_)
      refine lv_iload_n hx hb d_SortedRow_below_12 rfl (lv_at hl 2 rfl) ?_
      refine lv_iload hx hb d_SortedRow_below_13 (lv_at hl 3 rfl) ?_
      refine lv_iadd hx hb d_SortedRow_below_15 ?_
      refine lv_topi (fun v2 ev2 => ?_)
      replace hF := bnd_at hF ev2
      refine lv_istore hx hb d_SortedRow_below_16 hl (by decide) rfl (fun ls hl => ?_)
      have hl : lv_has ls 6 [(5, .int v2), (0, .ref l0), (1, .long l1), (3, .int l3), (4, .int l4)] := hl
      refine lv_iload hx hb d_SortedRow_below_18 (lv_at hl 0 rfl) ?_
      refine lv_aload_n hx hb d_SortedRow_below_20 rfl (lv_at hl 1 rfl) ?_
      obtain ⟨t3, hF⟩ := gd_ex hF
      refine ga_getI C hw gf_SortedRow_13 t3 d_SortedRow_below_21 ?_
      by_cases h4 : (I l0 1) < v2
      · rw [if_pos h4] at hF
        refine lv_icmp_gt (tgt := 45) hx hb d_SortedRow_below_24 (by decide) (fun _ => ?_) (fun hn => absurd h4 hn)
        exact m_SortedRow_below_b45 hret C _ ih _ _ _ _ hF _ _ _ (lv_sub hl [1, 2, 3, 4] rfl) hw
      · rw [if_neg h4] at hF
        refine lv_icmp_gt (tgt := 45) hx hb d_SortedRow_below_24 (by decide) (fun hp => absurd hp h4) (fun _ => ?_)
        refine lv_aload_n hx hb d_SortedRow_below_27 rfl (lv_at hl 1 rfl) ?_
        obtain ⟨r5, hr5, hF⟩ := ob_ex hF
        refine ga_getR C hw gf_SortedRow_7 t3 hr5 d_SortedRow_below_28 ?_
        refine lv_iload hx hb d_SortedRow_below_31 (lv_at hl 0 rfl) ?_
        refine lv_iconst (v := 1) hx hb d_SortedRow_below_33 (by decide) ?_
        refine lv_isub hx hb d_SortedRow_below_34 ?_
        obtain ⟨t6, hF⟩ := gd_ex hF
        obtain ⟨b7, hF⟩ := gd_ex hF
        refine ga_iald C hw t6 b7 d_SortedRow_below_35 ?_
        refine lv_i2l hx hb d_SortedRow_below_36 rfl ?_
        refine lv_lload_n hx hb d_SortedRow_below_37 rfl (lv_at hl 2 rfl) ?_
        refine W.lcmp hx hb d_SortedRow_below_38 ?_
        by_cases h8 : 0 ≤ (lg_cmp ((I r5 (v2 - (1 : Int32)).toNatClampNeg).toInt64) l1)
        · rw [if_pos h8] at hF
          refine lv_if_ge (tgt := 45) hx hb d_SortedRow_below_39 (by decide) (fun _ => ?_) (fun hn => absurd h8 hn)
          exact m_SortedRow_below_b45 hret C _ ih _ _ _ _ hF _ _ _ (lv_sub hl [1, 2, 3, 4] rfl) hw
        · rw [if_neg h8] at hF
          refine lv_if_ge (tgt := 45) hx hb d_SortedRow_below_39 (by decide) (fun hp => absurd hp h8) (fun _ => ?_)
          refine lv_iload hx hb d_SortedRow_below_42 (lv_at hl 0 rfl) ?_
          refine lv_istore_n hx hb d_SortedRow_below_44 rfl hl (by decide) rfl (fun ls hl => ?_)
          have hl : lv_has ls 6 [(3, .int v2), (5, .int v2), (0, .ref l0), (1, .long l1), (4, .int l4)] := hl
          exact m_SortedRow_below_b45 hret C _ ih _ _ _ _ hF _ _ _ (lv_sub hl [2, 3, 0, 4] rfl) hw
set_option maxHeartbeats 4000000 in
set_option maxRecDepth 100000 in
theorem c_SortedRow_below (l : Launch) (D : va_G) (T : Nat → ClassId) (z : Nat) (L : List Nat) {S : gS} {I : gMI} {J : gMJ} {p0 : Nat} {p1 : Int64} {r : Int32} (hF : f_SortedRow_below S I J p0 p1 = some (r)) : ga_Mi l y_SortedRow_below prog_8_method_5_code 6 (Option.some Jvm.ClassFile.FieldType.int) rm_SortedRow_below [.ref p0, .long p1] D T z L S I J r I J := by
  refine Met.ofW (cc := prog_8_method_5_code) (maxL := 6) (ret := (Option.some Jvm.ClassFile.FieldType.int)) (by decide) rfl ?_
  intro p e s m args below meth c s₁ B hml hv
  obtain ⟨ha, hv⟩ := hv
  have hx := B.exec
  have hb := B.bytes
  have hr := B.returns
  have hts := atoms_spec (ws := .code y_SortedRow_below prog_8_method_5_code 6 (Option.some Jvm.ClassFile.FieldType.int) :: ga_ws) B.pre
  have hown : s.vm.findClass "RankHouse$SortedRow" = some m.cls := findClass_of_methodNamed B.named
  have hlocks := B.notSynchronized
  have C : CallFix p m c prog_8_method_5_code 6 s args ga_ws "RankHouse$SortedRow" := ⟨hx, hb, hml, hown, fun w h => hts w (List.mem_cons_of_mem _ h)⟩
  have hw := ga_start hv
  have hl := lv_entry ([.ref p0, .long p1]) (n := 6) (Nat.le_of_ble_eq_true rfl)
  rw [show entryFrame m args 6 = entryFrame m ([.ref p0, .long p1] : List Value).toArray 6 by rw [ha], lg_entry_eq]
  generalize (lg_sl ([.ref p0, .long p1]) ++ List.replicate (6 - (lg_sl ([.ref p0, .long p1])).length) Slot.unset).toArray = ls at hl ⊢
  have hl : lv_has ls 6 [(0, .ref p0), (1, .long p1)] := hl
  have key : ∀ Q : State → Prop, (∀ (pc : Nat) (ls : Array Slot) (H : Heap) (locs : List Loc) (x : Int32), (x) = (r) → decode prog_8_method_5_code pc = .ok (.ireturn, 1) → ga_W D T z L S I J s H locs → W p l e rm_SortedRow_below s m args below meth c H locs 0 0 Q (F0 m pc ls [.int x])) → W p l e rm_SortedRow_below s m args below meth c s.heap [] 0 0 Q (F0 m 0 ls []) := by
    intro Q hret
    rw [f_SortedRow_below] at hF
    refine lv_iconst (v := 0) hx hb d_SortedRow_below_0 (by decide) ?_
    refine lv_istore_n hx hb d_SortedRow_below_1 rfl hl (by decide) rfl (fun ls hl => ?_)
    have hl : lv_has ls 6 [(3, .int (0 : Int32)), (0, .ref p0), (1, .long p1)] := hl
    refine lv_sipush (v := 256) hx hb d_SortedRow_below_2 (by decide) ?_
    refine lv_istore hx hb d_SortedRow_below_5 hl (by decide) rfl (fun ls hl => ?_)
    have hl : lv_has ls 6 [(4, .int (256 : Int32)), (3, .int (0 : Int32)), (0, .ref p0), (1, .long p1)] := hl
    exact m_SortedRow_below_b7 hret C gFuel _ _ _ _ hF _ _ _ (lv_sub hl [2, 3, 1, 0] rfl) hw
  refine key _ (fun pc ls H locs x he hd hw => ?_)
  · cases he
    exact W.iret hx hb hr (fun t ht _ => ⟨⟨_, (), rfl, rfl, ga_o hw ht⟩, hw.2.2.2.1.F ht⟩) hw.2.2.2.1.2.2 hd
set_option maxHeartbeats 4000000 in
set_option maxRecDepth 100000 in
theorem c_SortedRow_insert (l : Launch) (D : va_G) (T : Nat → ClassId) (z : Nat) (L : List Nat) {S : gS} {I : gMI} {J : gMJ} {p0 : Nat} {p1 : Int32} {RI : gMI} (hF : f_SortedRow_insert S I J p0 p1 = some (RI)) : ga_Mv l y_SortedRow_insert prog_8_method_2_code 3 (Option.none : Option Jvm.ClassFile.FieldType) rm_SortedRow_insert [.ref p0, .int p1] D T z L S I J RI J := by
  refine Met.ofW (cc := prog_8_method_2_code) (maxL := 3) (ret := (Option.none : Option Jvm.ClassFile.FieldType)) (by decide) rfl ?_
  intro p e s m args below meth c s₁ B hml hv
  obtain ⟨ha, hv⟩ := hv
  have hx := B.exec
  have hb := B.bytes
  have hr := B.returns
  have hts := atoms_spec (ws := .code y_SortedRow_insert prog_8_method_2_code 3 (Option.none : Option Jvm.ClassFile.FieldType) :: ga_ws) B.pre
  have hown : s.vm.findClass "RankHouse$SortedRow" = some m.cls := findClass_of_methodNamed B.named
  have hlocks := B.notSynchronized
  have C : CallFix p m c prog_8_method_2_code 3 s args ga_ws "RankHouse$SortedRow" := ⟨hx, hb, hml, hown, fun w h => hts w (List.mem_cons_of_mem _ h)⟩
  have hw := ga_start hv
  have hl := lv_entry ([.ref p0, .int p1]) (n := 3) (Nat.le_of_ble_eq_true rfl)
  rw [show entryFrame m args 3 = entryFrame m ([.ref p0, .int p1] : List Value).toArray 3 by rw [ha], lg_entry_eq]
  generalize (lg_sl ([.ref p0, .int p1]) ++ List.replicate (3 - (lg_sl ([.ref p0, .int p1])).length) Slot.unset).toArray = ls at hl ⊢
  have hl : lv_has ls 3 [(0, .ref p0), (1, .int p1)] := hl
  have key : ∀ Q : State → Prop, (∀ (pc : Nat) (ls : Array Slot) (H : Heap) (locs : List Loc) (I1 : gMI), (I1) = (RI) → decode prog_8_method_2_code pc = .ok (.return_, 1) → ga_W D T z L S I1 J s H locs → W p l e rm_SortedRow_insert s m args below meth c H locs 0 0 Q (F0 m pc ls [])) → W p l e rm_SortedRow_insert s m args below meth c s.heap [] 0 0 Q (F0 m 0 ls []) := by
    intro Q hret
    rw [f_SortedRow_insert] at hF
    refine lv_aload_n hx hb d_SortedRow_insert_0 rfl (lv_at hl 0 rfl) ?_
    obtain ⟨t1, hF⟩ := gd_ex hF
    refine ga_getI C hw gf_SortedRow_13 t1 d_SortedRow_insert_1 ?_
    refine lv_aload_n hx hb d_SortedRow_insert_4 rfl (lv_at hl 0 rfl) ?_
    obtain ⟨r2, hr2, hF⟩ := ob_ex hF
    refine ga_getR C hw gf_SortedRow_7 t1 hr2 d_SortedRow_insert_5 ?_
    obtain ⟨t3, hF⟩ := gd_ex hF
    refine ga_alen C hw t3 (by decide) (by decide) d_SortedRow_insert_8 ?_
    by_cases h4 : (I p0 1) < (Int32.ofNat (S.2.1 r2))
    · rw [if_pos h4] at hF
      refine lv_icmp_lt (tgt := 13) hx hb d_SortedRow_insert_9 (by decide) (fun _ => ?_) (fun hn => absurd h4 hn)
      refine lv_aload_n hx hb d_SortedRow_insert_13 rfl (lv_at hl 0 rfl) ?_
      refine lv_iload_n hx hb d_SortedRow_insert_14 rfl (lv_at hl 1 rfl) ?_
      refine lv_i2l hx hb d_SortedRow_insert_15 rfl ?_
      obtain ⟨x5, c6, hF⟩ := ob_ex hF
      refine ga_cVi (As := [.long p1.toInt64]) C hw (c_SortedRow_below l D T z L c6) gy_SortedRow_17 t1 rfl hl.1 ⟨Nat.le_of_ble_eq_true rfl, Nat.le_of_ble_eq_true rfl, rfl, rfl, Nat.le_of_ble_eq_true rfl, Nat.le_of_ble_eq_true rfl⟩ (Nat.le_of_ble_eq_true rfl) rfl d_SortedRow_insert_16 (fun H locs hw => ?_)
      refine lv_istore_n hx hb d_SortedRow_insert_19 rfl hl (by decide) rfl (fun ls hl => ?_)
      have hl : lv_has ls 3 [(2, .int x5), (0, .ref p0), (1, .int p1)] := hl
      refine lv_aload_n hx hb d_SortedRow_insert_20 rfl (lv_at hl 1 rfl) ?_
      refine ga_getR C hw gf_SortedRow_7 t1 hr2 d_SortedRow_insert_21 ?_
      refine lv_iload_n hx hb d_SortedRow_insert_24 rfl (lv_at hl 0 rfl) ?_
      refine lv_aload_n hx hb d_SortedRow_insert_25 rfl (lv_at hl 1 rfl) ?_
      refine ga_getR C hw gf_SortedRow_7 t1 hr2 d_SortedRow_insert_26 ?_
      refine lv_iload_n hx hb d_SortedRow_insert_29 rfl (lv_at hl 0 rfl) ?_
      refine lv_iconst (v := 1) hx hb d_SortedRow_insert_30 (by decide) ?_
      refine lv_iadd hx hb d_SortedRow_insert_31 ?_
      refine lv_aload_n hx hb d_SortedRow_insert_32 rfl (lv_at hl 1 rfl) ?_
      refine ga_getI C hw gf_SortedRow_13 t1 d_SortedRow_insert_33 ?_
      refine lv_iload_n hx hb d_SortedRow_insert_36 rfl (lv_at hl 0 rfl) ?_
      refine lv_isub hx hb d_SortedRow_insert_37 ?_
      obtain ⟨b7, hF⟩ := gd_ex hF
      obtain ⟨I8, eI8, hF⟩ := bnd_ex hF
      refine ga_copy C hw hl.1 gj_SortedRow_21 t3 t3 b7 eI8 (Nat.le_of_ble_eq_true rfl) (Nat.le_of_ble_eq_true rfl) d_SortedRow_insert_38 (fun H locs hw => ?_)
      refine lv_aload_n hx hb d_SortedRow_insert_41 rfl (lv_at hl 1 rfl) ?_
      refine ga_getR C hw gf_SortedRow_7 t1 hr2 d_SortedRow_insert_42 ?_
      refine lv_iload_n hx hb d_SortedRow_insert_45 rfl (lv_at hl 0 rfl) ?_
      refine lv_iload_n hx hb d_SortedRow_insert_46 rfl (lv_at hl 2 rfl) ?_
      obtain ⟨b9, hF⟩ := gd_ex hF
      obtain ⟨I10, eI10, hF⟩ := bnd_ex hF
      refine ga_iast C hw t3 b9 eI10 d_SortedRow_insert_47 (fun H locs hw => ?_)
      refine lv_aload_n hx hb d_SortedRow_insert_48 rfl (lv_at hl 1 rfl) ?_
      refine lv_dup hx hb d_SortedRow_insert_49 rfl ?_
      refine ga_getI C hw gf_SortedRow_13 t1 d_SortedRow_insert_50 ?_
      refine lv_iconst (v := 1) hx hb d_SortedRow_insert_53 (by decide) ?_
      refine lv_iadd hx hb d_SortedRow_insert_54 ?_
      obtain ⟨I11, eI11, hF⟩ := bnd_ex hF
      refine ga_putI C hw gp_SortedRow_13 t1 rfl rfl eI11 d_SortedRow_insert_55 (fun H locs hw => ?_)
      exact hret _ _ _ _ _ (Option.some.inj hF) d_SortedRow_insert_58 hw
    · rw [if_neg h4] at hF
      refine lv_icmp_lt (tgt := 13) hx hb d_SortedRow_insert_9 (by decide) (fun hp => absurd hp h4) (fun _ => ?_)
      exact hret _ _ _ _ _ (Option.some.inj hF) d_SortedRow_insert_12 hw
  refine key _ (fun pc ls H locs I1 he hd hw => ?_)
  · cases he
    exact W.vret hx hb hr (fun t ht _ => ⟨⟨(), rfl, trivial, ga_o hw ht⟩, hw.2.2.2.1.F ht⟩) hw.2.2.2.1.2.2 hd
set_option maxHeartbeats 4000000 in
set_option maxRecDepth 100000 in
theorem c_SortedRow_copy (l : Launch) (D : va_G) (T : Nat → ClassId) (z : Nat) (L : List Nat) {S : gS} {I : gMI} {J : gMJ} {p0 : Nat} {p1 : Nat} {RI : gMI} (hF : f_SortedRow_copy S I J p0 p1 = some (RI)) : ga_Mv l y_SortedRow_copy prog_8_method_3_code 2 (Option.none : Option Jvm.ClassFile.FieldType) rm_SortedRow_copy [.ref p0, .ref p1] D T z L S I J RI J := by
  refine Met.ofW (cc := prog_8_method_3_code) (maxL := 2) (ret := (Option.none : Option Jvm.ClassFile.FieldType)) (by decide) rfl ?_
  intro p e s m args below meth c s₁ B hml hv
  obtain ⟨ha, hv⟩ := hv
  have hx := B.exec
  have hb := B.bytes
  have hr := B.returns
  have hts := atoms_spec (ws := .code y_SortedRow_copy prog_8_method_3_code 2 (Option.none : Option Jvm.ClassFile.FieldType) :: ga_ws) B.pre
  have hown : s.vm.findClass "RankHouse$SortedRow" = some m.cls := findClass_of_methodNamed B.named
  have hlocks := B.notSynchronized
  have C : CallFix p m c prog_8_method_3_code 2 s args ga_ws "RankHouse$SortedRow" := ⟨hx, hb, hml, hown, fun w h => hts w (List.mem_cons_of_mem _ h)⟩
  have hw := ga_start hv
  have hl := lv_entry ([.ref p0, .ref p1]) (n := 2) (Nat.le_of_ble_eq_true rfl)
  rw [show entryFrame m args 2 = entryFrame m ([.ref p0, .ref p1] : List Value).toArray 2 by rw [ha], lg_entry_eq]
  generalize (lg_sl ([.ref p0, .ref p1]) ++ List.replicate (2 - (lg_sl ([.ref p0, .ref p1])).length) Slot.unset).toArray = ls at hl ⊢
  have hl : lv_has ls 2 [(0, .ref p0), (1, .ref p1)] := hl
  have key : ∀ Q : State → Prop, (∀ (pc : Nat) (ls : Array Slot) (H : Heap) (locs : List Loc) (I1 : gMI), (I1) = (RI) → decode prog_8_method_3_code pc = .ok (.return_, 1) → ga_W D T z L S I1 J s H locs → W p l e rm_SortedRow_copy s m args below meth c H locs 0 0 Q (F0 m pc ls [])) → W p l e rm_SortedRow_copy s m args below meth c s.heap [] 0 0 Q (F0 m 0 ls []) := by
    intro Q hret
    rw [f_SortedRow_copy] at hF
    refine lv_aload_n hx hb d_SortedRow_copy_0 rfl (lv_at hl 0 rfl) ?_
    refine lv_aload_n hx hb d_SortedRow_copy_1 rfl (lv_at hl 1 rfl) ?_
    obtain ⟨t1, hF⟩ := gd_ex hF
    refine ga_getI C hw gf_SortedRow_13 t1 d_SortedRow_copy_2 ?_
    refine lv_aload_n hx hb d_SortedRow_copy_5 rfl (lv_at hl 0 rfl) ?_
    obtain ⟨t2, hF⟩ := gd_ex hF
    obtain ⟨r3, hr3, hF⟩ := ob_ex hF
    refine ga_getR C hw gf_SortedRow_7 t2 hr3 d_SortedRow_copy_6 ?_
    obtain ⟨t4, hF⟩ := gd_ex hF
    refine ga_alen C hw t4 (by decide) (by decide) d_SortedRow_copy_9 ?_
    refine va_mmin hx hb (C.2.2.1.trans hl.1.symm) C.2.2.2.1 (C.2.2.2.2 _ gj_SortedRow_27) (C.2.2.2.2 _ gj_min1) (C.2.2.2.2 _ gj_math) (C.2.2.2.2 _ gj_min2) (Nat.le_of_ble_eq_true rfl) (Nat.le_of_ble_eq_true rfl) (Nat.le_of_ble_eq_true rfl) (Nat.le_of_ble_eq_true rfl) d_SortedRow_copy_10 ?_
    obtain ⟨I5, eI5, hF⟩ := bnd_ex hF
    refine ga_putI C hw gp_SortedRow_13 t2 rfl rfl eI5 d_SortedRow_copy_13 (fun H locs hw => ?_)
    refine lv_aload_n hx hb d_SortedRow_copy_16 rfl (lv_at hl 1 rfl) ?_
    obtain ⟨r6, hr6, hF⟩ := ob_ex hF
    refine ga_getR C hw gf_SortedRow_7 t1 hr6 d_SortedRow_copy_17 ?_
    refine lv_iconst (v := 0) hx hb d_SortedRow_copy_20 (by decide) ?_
    refine lv_aload_n hx hb d_SortedRow_copy_21 rfl (lv_at hl 0 rfl) ?_
    refine ga_getR C hw gf_SortedRow_7 t2 hr3 d_SortedRow_copy_22 ?_
    refine lv_iconst (v := 0) hx hb d_SortedRow_copy_25 (by decide) ?_
    refine lv_aload_n hx hb d_SortedRow_copy_26 rfl (lv_at hl 0 rfl) ?_
    refine ga_getI C hw gf_SortedRow_13 t2 d_SortedRow_copy_27 ?_
    obtain ⟨t7, hF⟩ := gd_ex hF
    obtain ⟨b8, hF⟩ := gd_ex hF
    obtain ⟨I9, eI9, hF⟩ := bnd_ex hF
    refine ga_copy C hw hl.1 gj_SortedRow_21 t7 t4 b8 eI9 (Nat.le_of_ble_eq_true rfl) (Nat.le_of_ble_eq_true rfl) d_SortedRow_copy_30 (fun H locs hw => ?_)
    exact hret _ _ _ _ _ (Option.some.inj hF) d_SortedRow_copy_33 hw
  refine key _ (fun pc ls H locs I1 he hd hw => ?_)
  · cases he
    exact W.vret hx hb hr (fun t ht _ => ⟨⟨(), rfl, trivial, ga_o hw ht⟩, hw.2.2.2.1.F ht⟩) hw.2.2.2.1.2.2 hd
set_option maxHeartbeats 4000000 in
set_option maxRecDepth 100000 in
theorem c_SortedRow_within (l : Launch) (D : va_G) (T : Nat → ClassId) (z : Nat) (L : List Nat) {S : gS} {I : gMI} {J : gMJ} {p0 : Nat} {p1 : Int64} {p3 : Int64} {r : Int32} (hF : f_SortedRow_within S I J p0 p1 p3 = some (r)) : ga_Mi l y_SortedRow_within prog_8_method_6_code 5 (Option.some Jvm.ClassFile.FieldType.int) rm_SortedRow_within [.ref p0, .long p1, .long p3] D T z L S I J r I J := by
  refine Met.ofW (cc := prog_8_method_6_code) (maxL := 5) (ret := (Option.some Jvm.ClassFile.FieldType.int)) (by decide) rfl ?_
  intro p e s m args below meth c s₁ B hml hv
  obtain ⟨ha, hv⟩ := hv
  have hx := B.exec
  have hb := B.bytes
  have hr := B.returns
  have hts := atoms_spec (ws := .code y_SortedRow_within prog_8_method_6_code 5 (Option.some Jvm.ClassFile.FieldType.int) :: ga_ws) B.pre
  have hown : s.vm.findClass "RankHouse$SortedRow" = some m.cls := findClass_of_methodNamed B.named
  have hlocks := B.notSynchronized
  have C : CallFix p m c prog_8_method_6_code 5 s args ga_ws "RankHouse$SortedRow" := ⟨hx, hb, hml, hown, fun w h => hts w (List.mem_cons_of_mem _ h)⟩
  have hw := ga_start hv
  have hl := lv_entry ([.ref p0, .long p1, .long p3]) (n := 5) (Nat.le_of_ble_eq_true rfl)
  rw [show entryFrame m args 5 = entryFrame m ([.ref p0, .long p1, .long p3] : List Value).toArray 5 by rw [ha], lg_entry_eq]
  generalize (lg_sl ([.ref p0, .long p1, .long p3]) ++ List.replicate (5 - (lg_sl ([.ref p0, .long p1, .long p3])).length) Slot.unset).toArray = ls at hl ⊢
  have hl : lv_has ls 5 [(0, .ref p0), (1, .long p1), (3, .long p3)] := hl
  have key : ∀ Q : State → Prop, (∀ (pc : Nat) (ls : Array Slot) (H : Heap) (locs : List Loc) (x : Int32), (x) = (r) → decode prog_8_method_6_code pc = .ok (.ireturn, 1) → ga_W D T z L S I J s H locs → W p l e rm_SortedRow_within s m args below meth c H locs 0 0 Q (F0 m pc ls [.int x])) → W p l e rm_SortedRow_within s m args below meth c s.heap [] 0 0 Q (F0 m 0 ls []) := by
    intro Q hret
    rw [f_SortedRow_within] at hF
    refine lv_iconst (v := 0) hx hb d_SortedRow_within_0 (by decide) ?_
    refine lv_aload_n hx hb d_SortedRow_within_1 rfl (lv_at hl 0 rfl) ?_
    refine lv_lload_n hx hb d_SortedRow_within_2 rfl (lv_at hl 2 rfl) ?_
    refine lv_lconst (v := 1) hx hb d_SortedRow_within_3 (by decide) ?_
    refine lv_ladd hx hb d_SortedRow_within_4 ?_
    obtain ⟨t1, hF⟩ := gd_ex hF
    obtain ⟨x2, c3, hF⟩ := ob_ex hF
    refine ga_cVi (As := [.long (p3 + (1 : Int64))]) C hw (c_SortedRow_below l D T z L c3) gy_SortedRow_17 t1 rfl hl.1 ⟨Nat.le_of_ble_eq_true rfl, Nat.le_of_ble_eq_true rfl, rfl, rfl, Nat.le_of_ble_eq_true rfl, Nat.le_of_ble_eq_true rfl⟩ (Nat.le_of_ble_eq_true rfl) rfl d_SortedRow_within_5 (fun H locs hw => ?_)
    refine lv_aload_n hx hb d_SortedRow_within_8 rfl (lv_at hl 0 rfl) ?_
    refine lv_lload_n hx hb d_SortedRow_within_9 rfl (lv_at hl 1 rfl) ?_
    obtain ⟨x4, c5, hF⟩ := ob_ex hF
    refine ga_cVi (As := [.long p1]) C hw (c_SortedRow_below l D T z L c5) gy_SortedRow_17 t1 rfl hl.1 ⟨Nat.le_of_ble_eq_true rfl, Nat.le_of_ble_eq_true rfl, rfl, rfl, Nat.le_of_ble_eq_true rfl, Nat.le_of_ble_eq_true rfl⟩ (Nat.le_of_ble_eq_true rfl) rfl d_SortedRow_within_10 (fun H locs hw => ?_)
    refine lv_isub hx hb d_SortedRow_within_13 ?_
    refine va_mmax hx hb (C.2.2.1.trans hl.1.symm) C.2.2.2.1 (C.2.2.2.2 _ gj_SortedRow_33) (C.2.2.2.2 _ gj_max1) (C.2.2.2.2 _ gj_math) (C.2.2.2.2 _ gj_max2) (Nat.le_of_ble_eq_true rfl) (Nat.le_of_ble_eq_true rfl) (Nat.le_of_ble_eq_true rfl) (Nat.le_of_ble_eq_true rfl) d_SortedRow_within_14 ?_
    exact hret _ _ _ _ _ (Option.some.inj hF) d_SortedRow_within_17 hw
  refine key _ (fun pc ls H locs x he hd hw => ?_)
  · cases he
    exact W.iret hx hb hr (fun t ht _ => ⟨⟨_, (), rfl, rfl, ga_o hw ht⟩, hw.2.2.2.1.F ht⟩) hw.2.2.2.1.2.2 hd
set_option maxHeartbeats 4000000 in
set_option maxRecDepth 100000 in
theorem m_SortedRow_at_b22 {I : gMI} {J : gMJ} {zz : Int32} (hret : ∀ (pc : Nat) (ls : Array Slot) (H : Heap) (locs : List Loc) (x : Int32), (x) = zz → decode prog_8_method_4_code pc = .ok (.ireturn, 1) → ga_W D T z L S I J s H locs → W p l e rm_SortedRow_at s m args below meth c H locs 0 0 Q (F0 m pc ls [.int x])) (C : CallFix p m c prog_8_method_4_code 2 s args ga_ws "RankHouse$SortedRow") : ∀ (s0 : Int32), f_SortedRow_at_b22 S I J s0 = some zz → ∀ (ls : Array Slot) (H : Heap) (locs : List Loc), lv_has ls 2 [] → ga_W D T z L S I J s H locs → W p l e rm_SortedRow_at s m args below meth c H locs 0 0 Q (F0 m 22 ls [.int s0]) := by
  intro s0 hF ls H locs hl hw
  have hx := C.1
  have hb := C.2.1
  rw [f_SortedRow_at_b22] at hF
  exact hret _ _ _ _ _ (Option.some.inj hF) d_SortedRow_at_22 hw
set_option maxHeartbeats 4000000 in
set_option maxRecDepth 100000 in
theorem m_SortedRow_at_b21 {I : gMI} {J : gMJ} {zz : Int32} (hret : ∀ (pc : Nat) (ls : Array Slot) (H : Heap) (locs : List Loc) (x : Int32), (x) = zz → decode prog_8_method_4_code pc = .ok (.ireturn, 1) → ga_W D T z L S I J s H locs → W p l e rm_SortedRow_at s m args below meth c H locs 0 0 Q (F0 m pc ls [.int x])) (C : CallFix p m c prog_8_method_4_code 2 s args ga_ws "RankHouse$SortedRow") : f_SortedRow_at_b21 S I J = some zz → ∀ (ls : Array Slot) (H : Heap) (locs : List Loc), lv_has ls 2 [] → ga_W D T z L S I J s H locs → W p l e rm_SortedRow_at s m args below meth c H locs 0 0 Q (F0 m 21 ls []) := by
  intro hF ls H locs hl hw
  have hx := C.1
  have hb := C.2.1
  rw [f_SortedRow_at_b21] at hF
  refine lv_iconst (v := 0) hx hb d_SortedRow_at_21 (by decide) ?_
  exact m_SortedRow_at_b22 hret C _ hF _ _ _ hl hw
set_option maxHeartbeats 4000000 in
set_option maxRecDepth 100000 in
theorem c_SortedRow_at (l : Launch) (D : va_G) (T : Nat → ClassId) (z : Nat) (L : List Nat) {S : gS} {I : gMI} {J : gMJ} {p0 : Nat} {p1 : Int32} {r : Int32} (hF : f_SortedRow_at S I J p0 p1 = some (r)) : ga_Mi l y_SortedRow_at prog_8_method_4_code 2 (Option.some Jvm.ClassFile.FieldType.int) rm_SortedRow_at [.ref p0, .int p1] D T z L S I J r I J := by
  refine Met.ofW (cc := prog_8_method_4_code) (maxL := 2) (ret := (Option.some Jvm.ClassFile.FieldType.int)) (by decide) rfl ?_
  intro p e s m args below meth c s₁ B hml hv
  obtain ⟨ha, hv⟩ := hv
  have hx := B.exec
  have hb := B.bytes
  have hr := B.returns
  have hts := atoms_spec (ws := .code y_SortedRow_at prog_8_method_4_code 2 (Option.some Jvm.ClassFile.FieldType.int) :: ga_ws) B.pre
  have hown : s.vm.findClass "RankHouse$SortedRow" = some m.cls := findClass_of_methodNamed B.named
  have hlocks := B.notSynchronized
  have C : CallFix p m c prog_8_method_4_code 2 s args ga_ws "RankHouse$SortedRow" := ⟨hx, hb, hml, hown, fun w h => hts w (List.mem_cons_of_mem _ h)⟩
  have hw := ga_start hv
  have hl := lv_entry ([.ref p0, .int p1]) (n := 2) (Nat.le_of_ble_eq_true rfl)
  rw [show entryFrame m args 2 = entryFrame m ([.ref p0, .int p1] : List Value).toArray 2 by rw [ha], lg_entry_eq]
  generalize (lg_sl ([.ref p0, .int p1]) ++ List.replicate (2 - (lg_sl ([.ref p0, .int p1])).length) Slot.unset).toArray = ls at hl ⊢
  have hl : lv_has ls 2 [(0, .ref p0), (1, .int p1)] := hl
  have key : ∀ Q : State → Prop, (∀ (pc : Nat) (ls : Array Slot) (H : Heap) (locs : List Loc) (x : Int32), (x) = (r) → decode prog_8_method_4_code pc = .ok (.ireturn, 1) → ga_W D T z L S I J s H locs → W p l e rm_SortedRow_at s m args below meth c H locs 0 0 Q (F0 m pc ls [.int x])) → W p l e rm_SortedRow_at s m args below meth c s.heap [] 0 0 Q (F0 m 0 ls []) := by
    intro Q hret
    rw [f_SortedRow_at] at hF
    refine lv_iload_n hx hb d_SortedRow_at_0 rfl (lv_at hl 1 rfl) ?_
    by_cases h1 : p1 < 0
    · rw [if_pos h1] at hF
      refine lv_if_lt (tgt := 21) hx hb d_SortedRow_at_1 (by decide) (fun _ => ?_) (fun hn => absurd h1 hn)
      exact m_SortedRow_at_b21 hret C hF _ _ _ (lv_sub hl [] rfl) hw
    · rw [if_neg h1] at hF
      refine lv_if_lt (tgt := 21) hx hb d_SortedRow_at_1 (by decide) (fun hp => absurd hp h1) (fun _ => ?_)
      refine lv_iload_n hx hb d_SortedRow_at_4 rfl (lv_at hl 1 rfl) ?_
      refine lv_aload_n hx hb d_SortedRow_at_5 rfl (lv_at hl 0 rfl) ?_
      obtain ⟨t2, hF⟩ := gd_ex hF
      refine ga_getI C hw gf_SortedRow_13 t2 d_SortedRow_at_6 ?_
      by_cases h3 : (I p0 1) ≤ p1
      · rw [if_pos h3] at hF
        refine lv_icmp_ge (tgt := 21) hx hb d_SortedRow_at_9 (by decide) (fun _ => ?_) (fun hn => absurd h3 hn)
        exact m_SortedRow_at_b21 hret C hF _ _ _ (lv_sub hl [] rfl) hw
      · rw [if_neg h3] at hF
        refine lv_icmp_ge (tgt := 21) hx hb d_SortedRow_at_9 (by decide) (fun hp => absurd hp h3) (fun _ => ?_)
        refine lv_aload_n hx hb d_SortedRow_at_12 rfl (lv_at hl 0 rfl) ?_
        obtain ⟨r4, hr4, hF⟩ := ob_ex hF
        refine ga_getR C hw gf_SortedRow_7 t2 hr4 d_SortedRow_at_13 ?_
        refine lv_iload_n hx hb d_SortedRow_at_16 rfl (lv_at hl 1 rfl) ?_
        obtain ⟨t5, hF⟩ := gd_ex hF
        obtain ⟨b6, hF⟩ := gd_ex hF
        refine ga_iald C hw t5 b6 d_SortedRow_at_17 ?_
        refine lv_goto (tgt := 22) hx hb d_SortedRow_at_18 (by decide) ?_
        exact m_SortedRow_at_b22 hret C _ hF _ _ _ (lv_sub hl [] rfl) hw
  refine key _ (fun pc ls H locs x he hd hw => ?_)
  · cases he
    exact W.iret hx hb hr (fun t ht _ => ⟨⟨_, (), rfl, rfl, ga_o hw ht⟩, hw.2.2.2.1.F ht⟩) hw.2.2.2.1.2.2 hd
set_option maxHeartbeats 4000000 in
set_option maxRecDepth 100000 in
theorem m_SortedRow_sum_b5 {I : gMI} {J : gMJ} {zz : Int64} (hret : ∀ (pc : Nat) (ls : Array Slot) (H : Heap) (locs : List Loc) (x : Int64), (x) = zz → decode prog_8_method_7_code pc = .ok (.lreturn, 1) → ga_W D T z L S I J s H locs → W p l e rm_SortedRow_sum s m args below meth c H locs 0 0 Q (F0 m pc ls [.long x])) (C : CallFix p m c prog_8_method_7_code 6 s args ga_ws "RankHouse$SortedRow") : ∀ (n : Nat) (l0 : Nat) (l2 : Int32) (l3 : Int64) (l5 : Int32), f_SortedRow_sum_b5 S I J n l0 l2 l3 l5 = some zz → ∀ (ls : Array Slot) (H : Heap) (locs : List Loc), lv_has ls 6 [(0, .ref l0), (2, .int l2), (3, .long l3), (5, .int l5)] → ga_W D T z L S I J s H locs → W p l e rm_SortedRow_sum s m args below meth c H locs 0 0 Q (F0 m 5 ls []) := by
  intro n
  induction n with
  | zero =>
    intro l0 l2 l3 l5 hF ls H locs hl hw
    rw [f_SortedRow_sum_b5] at hF
    cases hF
  | succ n ih =>
    intro l0 l2 l3 l5 hF ls H locs hl hw
    have hx := C.1
    have hb := C.2.1
    rw [f_SortedRow_sum_b5] at hF
    refine lv_iload hx hb d_SortedRow_sum_5 (lv_at hl 3 rfl) ?_
    refine lv_iload_n hx hb d_SortedRow_sum_7 rfl (lv_at hl 1 rfl) ?_
    by_cases h1 : l2 ≤ l5
    · rw [if_pos h1] at hF
      refine lv_icmp_ge (tgt := 27) hx hb d_SortedRow_sum_8 (by decide) (fun _ => ?_) (fun hn => absurd h1 hn)
      refine lv_lload_n hx hb d_SortedRow_sum_27 rfl (lv_at hl 2 rfl) ?_
      exact hret _ _ _ _ _ (Option.some.inj hF) d_SortedRow_sum_28 hw
    · rw [if_neg h1] at hF
      refine lv_icmp_ge (tgt := 27) hx hb d_SortedRow_sum_8 (by decide) (fun hp => absurd hp h1) (fun _ => ?_)
      refine lv_lload_n hx hb d_SortedRow_sum_11 rfl (lv_at hl 2 rfl) ?_
      refine lv_aload_n hx hb d_SortedRow_sum_12 rfl (lv_at hl 0 rfl) ?_
      refine lv_iload hx hb d_SortedRow_sum_13 (lv_at hl 3 rfl) ?_
      obtain ⟨t2, hF⟩ := gd_ex hF
      obtain ⟨x3, c4, hF⟩ := ob_ex hF
      refine ga_cVi (As := [.int l5]) C hw (c_SortedRow_at l D T z L c4) gy_SortedRow_36 t2 rfl hl.1 ⟨Nat.le_of_ble_eq_true rfl, Nat.le_of_ble_eq_true rfl, rfl, rfl, Nat.le_of_ble_eq_true rfl, Nat.le_of_ble_eq_true rfl⟩ (Nat.le_of_ble_eq_true rfl) rfl d_SortedRow_sum_15 (fun H locs hw => ?_)
      refine lv_i2l hx hb d_SortedRow_sum_18 rfl ?_
      refine lv_ladd hx hb d_SortedRow_sum_19 ?_
      refine lv_topl (fun v5 ev5 => ?_)
      replace hF := bnd_at hF ev5
      refine lv_lstore_n hx hb d_SortedRow_sum_20 rfl hl (by decide) rfl (fun ls hl => ?_)
      have hl : lv_has ls 6 [(3, .long v5), (0, .ref l0), (2, .int l2), (5, .int l5)] := hl
      obtain ⟨v6, ev6, hF⟩ := bnd_ex hF
      refine lv_iinc (k := 3) (v := v6) hx hb d_SortedRow_sum_21 hl rfl (by rw [ev6]; rfl) (by decide) rfl (fun ls hl => ?_)
      have hl : lv_has ls 6 [(5, .int v6), (3, .long v5), (0, .ref l0), (2, .int l2)] := hl
      refine lv_goto (tgt := 5) hx hb d_SortedRow_sum_24 (by decide) ?_
      exact ih _ _ _ _ hF _ _ _ (lv_sub hl [2, 3, 1, 0] rfl) hw
set_option maxHeartbeats 4000000 in
set_option maxRecDepth 100000 in
theorem c_SortedRow_sum (l : Launch) (D : va_G) (T : Nat → ClassId) (z : Nat) (L : List Nat) {S : gS} {I : gMI} {J : gMJ} {p0 : Nat} {p1 : Int32} {p2 : Int32} {r : Int64} (hF : f_SortedRow_sum S I J p0 p1 p2 = some (r)) : ga_Ml l y_SortedRow_sum prog_8_method_7_code 6 (Option.some Jvm.ClassFile.FieldType.long) rm_SortedRow_sum [.ref p0, .int p1, .int p2] D T z L S I J r I J := by
  refine Met.ofW (cc := prog_8_method_7_code) (maxL := 6) (ret := (Option.some Jvm.ClassFile.FieldType.long)) (by decide) rfl ?_
  intro p e s m args below meth c s₁ B hml hv
  obtain ⟨ha, hv⟩ := hv
  have hx := B.exec
  have hb := B.bytes
  have hr := B.returns
  have hts := atoms_spec (ws := .code y_SortedRow_sum prog_8_method_7_code 6 (Option.some Jvm.ClassFile.FieldType.long) :: ga_ws) B.pre
  have hown : s.vm.findClass "RankHouse$SortedRow" = some m.cls := findClass_of_methodNamed B.named
  have hlocks := B.notSynchronized
  have C : CallFix p m c prog_8_method_7_code 6 s args ga_ws "RankHouse$SortedRow" := ⟨hx, hb, hml, hown, fun w h => hts w (List.mem_cons_of_mem _ h)⟩
  have hw := ga_start hv
  have hl := lv_entry ([.ref p0, .int p1, .int p2]) (n := 6) (Nat.le_of_ble_eq_true rfl)
  rw [show entryFrame m args 6 = entryFrame m ([.ref p0, .int p1, .int p2] : List Value).toArray 6 by rw [ha], lg_entry_eq]
  generalize (lg_sl ([.ref p0, .int p1, .int p2]) ++ List.replicate (6 - (lg_sl ([.ref p0, .int p1, .int p2])).length) Slot.unset).toArray = ls at hl ⊢
  have hl : lv_has ls 6 [(0, .ref p0), (1, .int p1), (2, .int p2)] := hl
  have key : ∀ Q : State → Prop, (∀ (pc : Nat) (ls : Array Slot) (H : Heap) (locs : List Loc) (x : Int64), (x) = (r) → decode prog_8_method_7_code pc = .ok (.lreturn, 1) → ga_W D T z L S I J s H locs → W p l e rm_SortedRow_sum s m args below meth c H locs 0 0 Q (F0 m pc ls [.long x])) → W p l e rm_SortedRow_sum s m args below meth c s.heap [] 0 0 Q (F0 m 0 ls []) := by
    intro Q hret
    rw [f_SortedRow_sum] at hF
    refine lv_lconst (v := 0) hx hb d_SortedRow_sum_0 (by decide) ?_
    refine lv_lstore_n hx hb d_SortedRow_sum_1 rfl hl (by decide) rfl (fun ls hl => ?_)
    have hl : lv_has ls 6 [(3, .long (0 : Int64)), (0, .ref p0), (1, .int p1), (2, .int p2)] := hl
    refine lv_iload_n hx hb d_SortedRow_sum_2 rfl (lv_at hl 2 rfl) ?_
    refine lv_istore hx hb d_SortedRow_sum_3 hl (by decide) rfl (fun ls hl => ?_)
    have hl : lv_has ls 6 [(5, .int p1), (3, .long (0 : Int64)), (0, .ref p0), (1, .int p1), (2, .int p2)] := hl
    exact m_SortedRow_sum_b5 hret C gFuel _ _ _ _ hF _ _ _ (lv_sub hl [2, 4, 1, 0] rfl) hw
  refine key _ (fun pc ls H locs x he hd hw => ?_)
  · cases he
    exact W.lret hx hb hr (fun t ht _ => ⟨⟨_, (), rfl, rfl, ga_o hw ht⟩, hw.2.2.2.1.F ht⟩) hw.2.2.2.1.2.2 hd
set_option maxHeartbeats 4000000 in
set_option maxRecDepth 100000 in
theorem c_Search_begin (l : Launch) (D : va_G) (T : Nat → ClassId) (z : Nat) (L : List Nat) {S : gS} {I : gMI} {J : gMJ} {p0 : Nat} {p1 : Int32} {p2 : Int32} {p3 : Int32} {RI : gMI} (hF : f_Search_begin S I J p0 p1 p2 p3 = some (RI)) : ga_Mv l y_Search_begin prog_7_method_2_code 4 (Option.none : Option Jvm.ClassFile.FieldType) rm_Search_begin [.ref p0, .int p1, .int p2, .int p3] D T z L S I J RI J := by
  refine Met.ofW (cc := prog_7_method_2_code) (maxL := 4) (ret := (Option.none : Option Jvm.ClassFile.FieldType)) (by decide) rfl ?_
  intro p e s m args below meth c s₁ B hml hv
  obtain ⟨ha, hv⟩ := hv
  have hx := B.exec
  have hb := B.bytes
  have hr := B.returns
  have hts := atoms_spec (ws := .code y_Search_begin prog_7_method_2_code 4 (Option.none : Option Jvm.ClassFile.FieldType) :: ga_ws) B.pre
  have hown : s.vm.findClass "RankHouse$Search" = some m.cls := findClass_of_methodNamed B.named
  have hlocks := B.notSynchronized
  have C : CallFix p m c prog_7_method_2_code 4 s args ga_ws "RankHouse$Search" := ⟨hx, hb, hml, hown, fun w h => hts w (List.mem_cons_of_mem _ h)⟩
  have hw := ga_start hv
  have hl := lv_entry ([.ref p0, .int p1, .int p2, .int p3]) (n := 4) (Nat.le_of_ble_eq_true rfl)
  rw [show entryFrame m args 4 = entryFrame m ([.ref p0, .int p1, .int p2, .int p3] : List Value).toArray 4 by rw [ha], lg_entry_eq]
  generalize (lg_sl ([.ref p0, .int p1, .int p2, .int p3]) ++ List.replicate (4 - (lg_sl ([.ref p0, .int p1, .int p2, .int p3])).length) Slot.unset).toArray = ls at hl ⊢
  have hl : lv_has ls 4 [(0, .ref p0), (1, .int p1), (2, .int p2), (3, .int p3)] := hl
  have key : ∀ Q : State → Prop, (∀ (pc : Nat) (ls : Array Slot) (H : Heap) (locs : List Loc) (I1 : gMI), (I1) = (RI) → decode prog_7_method_2_code pc = .ok (.return_, 1) → ga_W D T z L S I1 J s H locs → W p l e rm_Search_begin s m args below meth c H locs 0 0 Q (F0 m pc ls [])) → W p l e rm_Search_begin s m args below meth c s.heap [] 0 0 Q (F0 m 0 ls []) := by
    intro Q hret
    rw [f_Search_begin] at hF
    refine lv_aload_n hx hb d_Search_begin_0 rfl (lv_at hl 0 rfl) ?_
    refine lv_iload_n hx hb d_Search_begin_1 rfl (lv_at hl 1 rfl) ?_
    obtain ⟨t1, hF⟩ := gd_ex hF
    obtain ⟨I2, eI2, hF⟩ := bnd_ex hF
    refine ga_putI C hw gp_Search_7 t1 rfl rfl eI2 d_Search_begin_2 (fun H locs hw => ?_)
    refine lv_aload_n hx hb d_Search_begin_5 rfl (lv_at hl 0 rfl) ?_
    refine lv_iload_n hx hb d_Search_begin_6 rfl (lv_at hl 2 rfl) ?_
    obtain ⟨z3, hF⟩ := gd_ex hF
    obtain ⟨I4, eI4, hF⟩ := bnd_ex hF
    refine ga_putI C hw gp_Search_13 t1 (ga_zb z3) (ga_zf z3) eI4 d_Search_begin_7 (fun H locs hw => ?_)
    refine lv_aload_n hx hb d_Search_begin_10 rfl (lv_at hl 0 rfl) ?_
    refine lv_iconst (v := 0) hx hb d_Search_begin_11 (by decide) ?_
    obtain ⟨I5, eI5, hF⟩ := bnd_ex hF
    refine ga_putI C hw gp_Search_17 t1 rfl rfl eI5 d_Search_begin_12 (fun H locs hw => ?_)
    refine lv_aload_n hx hb d_Search_begin_15 rfl (lv_at hl 0 rfl) ?_
    refine lv_ldc hx hb C.2.2.2.1 (C.2.2.2.2 _ gk_Search_22) d_Search_begin_16 ?_
    obtain ⟨I6, eI6, hF⟩ := bnd_ex hF
    refine ga_putI C hw gp_Search_23 t1 rfl rfl eI6 d_Search_begin_18 (fun H locs hw => ?_)
    refine lv_aload_n hx hb d_Search_begin_21 rfl (lv_at hl 0 rfl) ?_
    refine lv_ldc hx hb C.2.2.2.1 (C.2.2.2.2 _ gk_Search_26) d_Search_begin_22 ?_
    obtain ⟨I7, eI7, hF⟩ := bnd_ex hF
    refine ga_putI C hw gp_Search_27 t1 rfl rfl eI7 d_Search_begin_24 (fun H locs hw => ?_)
    refine lv_aload_n hx hb d_Search_begin_27 rfl (lv_at hl 0 rfl) ?_
    refine lv_iload_n hx hb d_Search_begin_28 rfl (lv_at hl 3 rfl) ?_
    obtain ⟨I8, eI8, hF⟩ := bnd_ex hF
    refine ga_putI C hw gp_Search_30 t1 rfl rfl eI8 d_Search_begin_29 (fun H locs hw => ?_)
    exact hret _ _ _ _ _ (Option.some.inj hF) d_Search_begin_32 hw
  refine key _ (fun pc ls H locs I1 he hd hw => ?_)
  · cases he
    exact W.vret hx hb hr (fun t ht _ => ⟨⟨(), rfl, trivial, ga_o hw ht⟩, hw.2.2.2.1.F ht⟩) hw.2.2.2.1.2.2 hd
set_option maxHeartbeats 4000000 in
set_option maxRecDepth 100000 in
theorem c_Search_rankWithin (l : Launch) (D : va_G) (T : Nat → ClassId) (z : Nat) (L : List Nat) {S : gS} {I : gMI} {J : gMJ} {p0 : Nat} {r : Int32} (hF : f_Search_rankWithin S I J p0 = some (r)) : ga_Mi l y_Search_rankWithin prog_7_method_3_code 1 (Option.some Jvm.ClassFile.FieldType.int) rm_Search_rankWithin [.ref p0] D T z L S I J r I J := by
  refine Met.ofW (cc := prog_7_method_3_code) (maxL := 1) (ret := (Option.some Jvm.ClassFile.FieldType.int)) (by decide) rfl ?_
  intro p e s m args below meth c s₁ B hml hv
  obtain ⟨ha, hv⟩ := hv
  have hx := B.exec
  have hb := B.bytes
  have hr := B.returns
  have hts := atoms_spec (ws := .code y_Search_rankWithin prog_7_method_3_code 1 (Option.some Jvm.ClassFile.FieldType.int) :: ga_ws) B.pre
  have hown : s.vm.findClass "RankHouse$Search" = some m.cls := findClass_of_methodNamed B.named
  have hlocks := B.notSynchronized
  have C : CallFix p m c prog_7_method_3_code 1 s args ga_ws "RankHouse$Search" := ⟨hx, hb, hml, hown, fun w h => hts w (List.mem_cons_of_mem _ h)⟩
  have hw := ga_start hv
  have hl := lv_entry ([.ref p0]) (n := 1) (Nat.le_of_ble_eq_true rfl)
  rw [show entryFrame m args 1 = entryFrame m ([.ref p0] : List Value).toArray 1 by rw [ha], lg_entry_eq]
  generalize (lg_sl ([.ref p0]) ++ List.replicate (1 - (lg_sl ([.ref p0])).length) Slot.unset).toArray = ls at hl ⊢
  have hl : lv_has ls 1 [(0, .ref p0)] := hl
  have key : ∀ Q : State → Prop, (∀ (pc : Nat) (ls : Array Slot) (H : Heap) (locs : List Loc) (x : Int32), (x) = (r) → decode prog_7_method_3_code pc = .ok (.ireturn, 1) → ga_W D T z L S I J s H locs → W p l e rm_Search_rankWithin s m args below meth c H locs 0 0 Q (F0 m pc ls [.int x])) → W p l e rm_Search_rankWithin s m args below meth c s.heap [] 0 0 Q (F0 m 0 ls []) := by
    intro Q hret
    rw [f_Search_rankWithin] at hF
    refine lv_aload_n hx hb d_Search_rankWithin_0 rfl (lv_at hl 0 rfl) ?_
    obtain ⟨t1, hF⟩ := gd_ex hF
    refine ga_getI C hw gf_Search_7 t1 d_Search_rankWithin_1 ?_
    refine lv_aload_n hx hb d_Search_rankWithin_4 rfl (lv_at hl 0 rfl) ?_
    refine ga_getI C hw gf_Search_17 t1 d_Search_rankWithin_5 ?_
    refine lv_isub hx hb d_Search_rankWithin_8 ?_
    exact hret _ _ _ _ _ (Option.some.inj hF) d_Search_rankWithin_9 hw
  refine key _ (fun pc ls H locs x he hd hw => ?_)
  · cases he
    exact W.iret hx hb hr (fun t ht _ => ⟨⟨_, (), rfl, rfl, ga_o hw ht⟩, hw.2.2.2.1.F ht⟩) hw.2.2.2.1.2.2 hd
set_option maxHeartbeats 4000000 in
set_option maxRecDepth 100000 in
theorem c_Search_keepBelowPivot (l : Launch) (D : va_G) (T : Nat → ClassId) (z : Nat) (L : List Nat) {S : gS} {I : gMI} {J : gMJ} {p0 : Nat} {p1 : Int32} {RI : gMI} (hF : f_Search_keepBelowPivot S I J p0 p1 = some (RI)) : ga_Mv l y_Search_keepBelowPivot prog_7_method_4_code 2 (Option.none : Option Jvm.ClassFile.FieldType) rm_Search_keepBelowPivot [.ref p0, .int p1] D T z L S I J RI J := by
  refine Met.ofW (cc := prog_7_method_4_code) (maxL := 2) (ret := (Option.none : Option Jvm.ClassFile.FieldType)) (by decide) rfl ?_
  intro p e s m args below meth c s₁ B hml hv
  obtain ⟨ha, hv⟩ := hv
  have hx := B.exec
  have hb := B.bytes
  have hr := B.returns
  have hts := atoms_spec (ws := .code y_Search_keepBelowPivot prog_7_method_4_code 2 (Option.none : Option Jvm.ClassFile.FieldType) :: ga_ws) B.pre
  have hown : s.vm.findClass "RankHouse$Search" = some m.cls := findClass_of_methodNamed B.named
  have hlocks := B.notSynchronized
  have C : CallFix p m c prog_7_method_4_code 2 s args ga_ws "RankHouse$Search" := ⟨hx, hb, hml, hown, fun w h => hts w (List.mem_cons_of_mem _ h)⟩
  have hw := ga_start hv
  have hl := lv_entry ([.ref p0, .int p1]) (n := 2) (Nat.le_of_ble_eq_true rfl)
  rw [show entryFrame m args 2 = entryFrame m ([.ref p0, .int p1] : List Value).toArray 2 by rw [ha], lg_entry_eq]
  generalize (lg_sl ([.ref p0, .int p1]) ++ List.replicate (2 - (lg_sl ([.ref p0, .int p1])).length) Slot.unset).toArray = ls at hl ⊢
  have hl : lv_has ls 2 [(0, .ref p0), (1, .int p1)] := hl
  have key : ∀ Q : State → Prop, (∀ (pc : Nat) (ls : Array Slot) (H : Heap) (locs : List Loc) (I1 : gMI), (I1) = (RI) → decode prog_7_method_4_code pc = .ok (.return_, 1) → ga_W D T z L S I1 J s H locs → W p l e rm_Search_keepBelowPivot s m args below meth c H locs 0 0 Q (F0 m pc ls [])) → W p l e rm_Search_keepBelowPivot s m args below meth c s.heap [] 0 0 Q (F0 m 0 ls []) := by
    intro Q hret
    rw [f_Search_keepBelowPivot] at hF
    refine lv_aload_n hx hb d_Search_keepBelowPivot_0 rfl (lv_at hl 0 rfl) ?_
    refine lv_aload_n hx hb d_Search_keepBelowPivot_1 rfl (lv_at hl 0 rfl) ?_
    obtain ⟨t1, hF⟩ := gd_ex hF
    refine ga_getI C hw gf_Search_33 t1 d_Search_keepBelowPivot_2 ?_
    refine lv_iconst (v := 1) hx hb d_Search_keepBelowPivot_5 (by decide) ?_
    refine lv_isub hx hb d_Search_keepBelowPivot_6 ?_
    obtain ⟨I2, eI2, hF⟩ := bnd_ex hF
    refine ga_putI C hw gp_Search_27 t1 rfl rfl eI2 d_Search_keepBelowPivot_7 (fun H locs hw => ?_)
    refine lv_aload_n hx hb d_Search_keepBelowPivot_10 rfl (lv_at hl 0 rfl) ?_
    refine lv_iload_n hx hb d_Search_keepBelowPivot_11 rfl (lv_at hl 1 rfl) ?_
    obtain ⟨I3, eI3, hF⟩ := bnd_ex hF
    refine ga_putI C hw gp_Search_30 t1 rfl rfl eI3 d_Search_keepBelowPivot_12 (fun H locs hw => ?_)
    exact hret _ _ _ _ _ (Option.some.inj hF) d_Search_keepBelowPivot_15 hw
  refine key _ (fun pc ls H locs I1 he hd hw => ?_)
  · cases he
    exact W.vret hx hb hr (fun t ht _ => ⟨⟨(), rfl, trivial, ga_o hw ht⟩, hw.2.2.2.1.F ht⟩) hw.2.2.2.1.2.2 hd
set_option maxHeartbeats 4000000 in
set_option maxRecDepth 100000 in
theorem c_Search_keepAbovePivot (l : Launch) (D : va_G) (T : Nat → ClassId) (z : Nat) (L : List Nat) {S : gS} {I : gMI} {J : gMJ} {p0 : Nat} {p1 : Int32} {RI : gMI} (hF : f_Search_keepAbovePivot S I J p0 p1 = some (RI)) : ga_Mv l y_Search_keepAbovePivot prog_7_method_5_code 2 (Option.none : Option Jvm.ClassFile.FieldType) rm_Search_keepAbovePivot [.ref p0, .int p1] D T z L S I J RI J := by
  refine Met.ofW (cc := prog_7_method_5_code) (maxL := 2) (ret := (Option.none : Option Jvm.ClassFile.FieldType)) (by decide) rfl ?_
  intro p e s m args below meth c s₁ B hml hv
  obtain ⟨ha, hv⟩ := hv
  have hx := B.exec
  have hb := B.bytes
  have hr := B.returns
  have hts := atoms_spec (ws := .code y_Search_keepAbovePivot prog_7_method_5_code 2 (Option.none : Option Jvm.ClassFile.FieldType) :: ga_ws) B.pre
  have hown : s.vm.findClass "RankHouse$Search" = some m.cls := findClass_of_methodNamed B.named
  have hlocks := B.notSynchronized
  have C : CallFix p m c prog_7_method_5_code 2 s args ga_ws "RankHouse$Search" := ⟨hx, hb, hml, hown, fun w h => hts w (List.mem_cons_of_mem _ h)⟩
  have hw := ga_start hv
  have hl := lv_entry ([.ref p0, .int p1]) (n := 2) (Nat.le_of_ble_eq_true rfl)
  rw [show entryFrame m args 2 = entryFrame m ([.ref p0, .int p1] : List Value).toArray 2 by rw [ha], lg_entry_eq]
  generalize (lg_sl ([.ref p0, .int p1]) ++ List.replicate (2 - (lg_sl ([.ref p0, .int p1])).length) Slot.unset).toArray = ls at hl ⊢
  have hl : lv_has ls 2 [(0, .ref p0), (1, .int p1)] := hl
  have key : ∀ Q : State → Prop, (∀ (pc : Nat) (ls : Array Slot) (H : Heap) (locs : List Loc) (I1 : gMI), (I1) = (RI) → decode prog_7_method_5_code pc = .ok (.return_, 1) → ga_W D T z L S I1 J s H locs → W p l e rm_Search_keepAbovePivot s m args below meth c H locs 0 0 Q (F0 m pc ls [])) → W p l e rm_Search_keepAbovePivot s m args below meth c s.heap [] 0 0 Q (F0 m 0 ls []) := by
    intro Q hret
    rw [f_Search_keepAbovePivot] at hF
    refine lv_aload_n hx hb d_Search_keepAbovePivot_0 rfl (lv_at hl 0 rfl) ?_
    refine lv_aload_n hx hb d_Search_keepAbovePivot_1 rfl (lv_at hl 0 rfl) ?_
    obtain ⟨t1, hF⟩ := gd_ex hF
    refine ga_getI C hw gf_Search_33 t1 d_Search_keepAbovePivot_2 ?_
    refine lv_iconst (v := 1) hx hb d_Search_keepAbovePivot_5 (by decide) ?_
    refine lv_iadd hx hb d_Search_keepAbovePivot_6 ?_
    obtain ⟨I2, eI2, hF⟩ := bnd_ex hF
    refine ga_putI C hw gp_Search_23 t1 rfl rfl eI2 d_Search_keepAbovePivot_7 (fun H locs hw => ?_)
    refine lv_aload_n hx hb d_Search_keepAbovePivot_10 rfl (lv_at hl 0 rfl) ?_
    refine lv_dup hx hb d_Search_keepAbovePivot_11 rfl ?_
    refine ga_getI C hw gf_Search_17 t1 d_Search_keepAbovePivot_12 ?_
    refine lv_iload_n hx hb d_Search_keepAbovePivot_15 rfl (lv_at hl 1 rfl) ?_
    refine lv_iadd hx hb d_Search_keepAbovePivot_16 ?_
    obtain ⟨I3, eI3, hF⟩ := bnd_ex hF
    refine ga_putI C hw gp_Search_17 t1 rfl rfl eI3 d_Search_keepAbovePivot_17 (fun H locs hw => ?_)
    refine lv_aload_n hx hb d_Search_keepAbovePivot_20 rfl (lv_at hl 0 rfl) ?_
    refine lv_dup hx hb d_Search_keepAbovePivot_21 rfl ?_
    refine ga_getI C hw gf_Search_30 t1 d_Search_keepAbovePivot_22 ?_
    refine lv_iload_n hx hb d_Search_keepAbovePivot_25 rfl (lv_at hl 1 rfl) ?_
    refine lv_isub hx hb d_Search_keepAbovePivot_26 ?_
    obtain ⟨I4, eI4, hF⟩ := bnd_ex hF
    refine ga_putI C hw gp_Search_30 t1 rfl rfl eI4 d_Search_keepAbovePivot_27 (fun H locs hw => ?_)
    exact hret _ _ _ _ _ (Option.some.inj hF) d_Search_keepAbovePivot_30 hw
  refine key _ (fun pc ls H locs I1 he hd hw => ?_)
  · cases he
    exact W.vret hx hb hr (fun t ht _ => ⟨⟨(), rfl, trivial, ga_o hw ht⟩, hw.2.2.2.1.F ht⟩) hw.2.2.2.1.2.2 hd
end WALK
