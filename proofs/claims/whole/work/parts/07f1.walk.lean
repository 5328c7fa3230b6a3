section WALK
variable {p : Program} {l : Launch} {e : Env} {s : State} {m : MethodId} {args : Array Value} {below : List Frame} {meth : Method} {c : Code} {Q : State → Prop} {D : va_G} {T : Nat → ClassId} {z : Nat} {L : List Nat} {S : gS}
set_option maxHeartbeats 4000000 in
set_option maxRecDepth 100000 in
theorem c_M_thrown (l : Launch) (D : va_G) (T : Nat → ClassId) (z : Nat) (L : List Nat) {S : gS} {I : gMI} {J : gMJ} {p0 : Nat} {r : Int32} (hF : f_M_thrown S I J p0 = some (r)) : ga_Mi l y_M_thrown prog_10_method_2_code 1 (Option.some Jvm.ClassFile.FieldType.int) rm_M_thrown [.ref p0] D T z L S I J r I J := by
  refine Met.ofW (cc := prog_10_method_2_code) (maxL := 1) (ret := (Option.some Jvm.ClassFile.FieldType.int)) (by decide) rfl ?_
  intro p e s m args below meth c s₁ B hml hv
  obtain ⟨ha, hv⟩ := hv
  have hx := B.exec
  have hb := B.bytes
  have hr := B.returns
  have hts := atoms_spec (ws := .code y_M_thrown prog_10_method_2_code 1 (Option.some Jvm.ClassFile.FieldType.int) :: ga_ws) B.pre
  have hown : s.vm.findClass "RankHouseModel" = some m.cls := findClass_of_methodNamed B.named
  have hlocks := B.notSynchronized
  have C : CallFix p m c prog_10_method_2_code 1 s args ga_ws "RankHouseModel" := ⟨hx, hb, hml, hown, fun w h => hts w (List.mem_cons_of_mem _ h)⟩
  have hw := ga_start hv
  have hl := lv_entry ([.ref p0]) (n := 1) (Nat.le_of_ble_eq_true rfl)
  rw [show entryFrame m args 1 = entryFrame m ([.ref p0] : List Value).toArray 1 by rw [ha], lg_entry_eq]
  generalize (lg_sl ([.ref p0]) ++ List.replicate (1 - (lg_sl ([.ref p0])).length) Slot.unset).toArray = ls at hl ⊢
  have hl : lv_has ls 1 [(0, .ref p0)] := hl
  have key : ∀ Q : State → Prop, (∀ (pc : Nat) (ls : Array Slot) (H : Heap) (locs : List Loc) (x : Int32), (x) = (r) → decode prog_10_method_2_code pc = .ok (.ireturn, 1) → ga_W D T z L S I J s H locs → W p l e rm_M_thrown s m args below meth c H locs 0 0 Q (F0 m pc ls [.int x])) → W p l e rm_M_thrown s m args below meth c s.heap [] 0 0 Q (F0 m 0 ls []) := by
    intro Q hret
    rw [f_M_thrown] at hF
    refine lv_aload_n hx hb d_M_thrown_0 rfl (lv_at hl 0 rfl) ?_
    obtain ⟨t1, hF⟩ := gd_ex hF
    refine ga_getI C hw gf_M_114 t1 d_M_thrown_1 ?_
    exact hret _ _ _ _ _ (Option.some.inj hF) d_M_thrown_4 hw
  refine key _ (fun pc ls H locs x he hd hw => ?_)
  · cases he
    exact W.iret hx hb hr (fun t ht _ => ⟨⟨_, (), rfl, rfl, ga_o hw ht⟩, hw.2.2.2.1.F ht⟩) hw.2.2.2.1.2.2 hd
set_option maxHeartbeats 4000000 in
set_option maxRecDepth 100000 in
theorem m_M_isLogger_b15 {I : gMI} {J : gMJ} {zz : Int32} (hret : ∀ (pc : Nat) (ls : Array Slot) (H : Heap) (locs : List Loc) (x : Int32), (x) = zz → decode prog_10_method_3_code pc = .ok (.ireturn, 1) → (x = 0 ∨ x = 1) → ga_W D T z L S I J s H locs → W p l e rm_M_isLogger s m args below meth c H locs 0 0 Q (F0 m pc ls [.int x])) (C : CallFix p m c prog_10_method_3_code 1 s args ga_ws "RankHouseModel") : ∀ (s0 : Int32), f_M_isLogger_b15 S I J s0 = some zz → ∀ (ls : Array Slot) (H : Heap) (locs : List Loc), lv_has ls 1 [] → ga_W D T z L S I J s H locs → W p l e rm_M_isLogger s m args below meth c H locs 0 0 Q (F0 m 15 ls [.int s0]) := by
  intro s0 hF ls H locs hl hw
  have hx := C.1
  have hb := C.2.1
  rw [f_M_isLogger_b15] at hF
  obtain ⟨z1, hF⟩ := gd_ex hF
  exact hret _ _ _ _ _ (Option.some.inj hF) d_M_isLogger_15 z1 hw
set_option maxHeartbeats 4000000 in
set_option maxRecDepth 100000 in
theorem m_M_isLogger_b14 {I : gMI} {J : gMJ} {zz : Int32} (hret : ∀ (pc : Nat) (ls : Array Slot) (H : Heap) (locs : List Loc) (x : Int32), (x) = zz → decode prog_10_method_3_code pc = .ok (.ireturn, 1) → (x = 0 ∨ x = 1) → ga_W D T z L S I J s H locs → W p l e rm_M_isLogger s m args below meth c H locs 0 0 Q (F0 m pc ls [.int x])) (C : CallFix p m c prog_10_method_3_code 1 s args ga_ws "RankHouseModel") : f_M_isLogger_b14 S I J = some zz → ∀ (ls : Array Slot) (H : Heap) (locs : List Loc), lv_has ls 1 [] → ga_W D T z L S I J s H locs → W p l e rm_M_isLogger s m args below meth c H locs 0 0 Q (F0 m 14 ls []) := by
  intro hF ls H locs hl hw
  have hx := C.1
  have hb := C.2.1
  rw [f_M_isLogger_b14] at hF
  refine lv_iconst (v := 0) hx hb d_M_isLogger_14 (by decide) ?_
  exact m_M_isLogger_b15 hret C _ hF _ _ _ hl hw
set_option maxHeartbeats 4000000 in
set_option maxRecDepth 100000 in
theorem c_M_isLogger (l : Launch) (D : va_G) (T : Nat → ClassId) (z : Nat) (L : List Nat) {S : gS} {I : gMI} {J : gMJ} {p0 : Int32} {r : Int32} (hF : f_M_isLogger S I J p0 = some (r)) : ga_Mi l y_M_isLogger prog_10_method_3_code 1 (Option.some Jvm.ClassFile.FieldType.boolean) rm_M_isLogger [.int p0] D T z L S I J r I J := by
  refine Met.ofW (cc := prog_10_method_3_code) (maxL := 1) (ret := (Option.some Jvm.ClassFile.FieldType.boolean)) (by decide) rfl ?_
  intro p e s m args below meth c s₁ B hml hv
  obtain ⟨ha, hv⟩ := hv
  have hx := B.exec
  have hb := B.bytes
  have hr := B.returns
  have hts := atoms_spec (ws := .code y_M_isLogger prog_10_method_3_code 1 (Option.some Jvm.ClassFile.FieldType.boolean) :: ga_ws) B.pre
  have hown : s.vm.findClass "RankHouseModel" = some m.cls := findClass_of_methodNamed B.named
  have hlocks := B.notSynchronized
  have C : CallFix p m c prog_10_method_3_code 1 s args ga_ws "RankHouseModel" := ⟨hx, hb, hml, hown, fun w h => hts w (List.mem_cons_of_mem _ h)⟩
  have hw := ga_start hv
  have hl := lv_entry ([.int p0]) (n := 1) (Nat.le_of_ble_eq_true rfl)
  rw [show entryFrame m args 1 = entryFrame m ([.int p0] : List Value).toArray 1 by rw [ha], lg_entry_eq]
  generalize (lg_sl ([.int p0]) ++ List.replicate (1 - (lg_sl ([.int p0])).length) Slot.unset).toArray = ls at hl ⊢
  have hl : lv_has ls 1 [(0, .int p0)] := hl
  have key : ∀ Q : State → Prop, (∀ (pc : Nat) (ls : Array Slot) (H : Heap) (locs : List Loc) (x : Int32), (x) = (r) → decode prog_10_method_3_code pc = .ok (.ireturn, 1) → (x = 0 ∨ x = 1) → ga_W D T z L S I J s H locs → W p l e rm_M_isLogger s m args below meth c H locs 0 0 Q (F0 m pc ls [.int x])) → W p l e rm_M_isLogger s m args below meth c s.heap [] 0 0 Q (F0 m 0 ls []) := by
    intro Q hret
    rw [f_M_isLogger] at hF
    refine lv_iload_n hx hb d_M_isLogger_0 rfl (lv_at hl 0 rfl) ?_
    by_cases h1 : p0 < 0
    · rw [if_pos h1] at hF
      refine lv_if_lt (tgt := 14) hx hb d_M_isLogger_1 (by decide) (fun _ => ?_) (fun hn => absurd h1 hn)
      exact m_M_isLogger_b14 hret C hF _ _ _ (lv_sub hl [] rfl) hw
    · rw [if_neg h1] at hF
      refine lv_if_lt (tgt := 14) hx hb d_M_isLogger_1 (by decide) (fun hp => absurd hp h1) (fun _ => ?_)
      refine lv_iload_n hx hb d_M_isLogger_4 rfl (lv_at hl 0 rfl) ?_
      refine lv_bipush (v := 8) hx hb d_M_isLogger_5 (by decide) ?_
      by_cases h2 : (8 : Int32) ≤ p0
      · rw [if_pos h2] at hF
        refine lv_icmp_ge (tgt := 14) hx hb d_M_isLogger_7 (by decide) (fun _ => ?_) (fun hn => absurd h2 hn)
        exact m_M_isLogger_b14 hret C hF _ _ _ (lv_sub hl [] rfl) hw
      · rw [if_neg h2] at hF
        refine lv_icmp_ge (tgt := 14) hx hb d_M_isLogger_7 (by decide) (fun hp => absurd hp h2) (fun _ => ?_)
        refine lv_iconst (v := 1) hx hb d_M_isLogger_10 (by decide) ?_
        refine lv_goto (tgt := 15) hx hb d_M_isLogger_11 (by decide) ?_
        exact m_M_isLogger_b15 hret C _ hF _ _ _ (lv_sub hl [] rfl) hw
  refine key _ (fun pc ls H locs x he hd hz hw => ?_)
  · cases he
    exact W.zret hx hb hr (ga_zb hz) (fun t ht _ => ⟨⟨_, (), rfl, rfl, ga_o hw ht⟩, hw.2.2.2.1.F ht⟩) hw.2.2.2.1.2.2 hd
set_option maxHeartbeats 4000000 in
set_option maxRecDepth 100000 in
theorem m_M_placeOf_b29 {I : gMI} {J : gMJ} {zz : Int32} (hret : ∀ (pc : Nat) (ls : Array Slot) (H : Heap) (locs : List Loc) (x : Int32), (x) = zz → decode prog_10_method_4_code pc = .ok (.ireturn, 1) → ga_W D T z L S I J s H locs → W p l e rm_M_placeOf s m args below meth c H locs 0 0 Q (F0 m pc ls [.int x])) (C : CallFix p m c prog_10_method_4_code 4 s args ga_ws "RankHouseModel") (k4 : Nat → Int32 → Int32 → Int32 → Option (Int32)) (hk4 : ∀ (l0 : Nat) (l1 : Int32) (l2 : Int32) (l3 : Int32), k4 l0 l1 l2 l3 = some zz → ∀ (ls : Array Slot) (H : Heap) (locs : List Loc), lv_has ls 4 [(0, .ref l0), (1, .int l1), (2, .int l2), (3, .int l3)] → ga_W D T z L S I J s H locs → W p l e rm_M_placeOf s m args below meth c H locs 0 0 Q (F0 m 4 ls [])) : ∀ (s0 : Int32) (l0 : Nat) (l1 : Int32) (l3 : Int32), f_M_placeOf_b29 S I J k4 s0 l0 l1 l3 = some zz → ∀ (ls : Array Slot) (H : Heap) (locs : List Loc), lv_has ls 4 [(0, .ref l0), (1, .int l1), (3, .int l3)] → ga_W D T z L S I J s H locs → W p l e rm_M_placeOf s m args below meth c H locs 0 0 Q (F0 m 29 ls [.int s0]) := by
  intro s0 l0 l1 l3 hF ls H locs hl hw
  have hx := C.1
  have hb := C.2.1
  rw [f_M_placeOf_b29] at hF
  refine lv_istore_n hx hb d_M_placeOf_29 rfl hl (by decide) rfl (fun ls hl => ?_)
  have hl : lv_has ls 4 [(2, .int s0), (0, .ref l0), (1, .int l1), (3, .int l3)] := hl
  obtain ⟨v1, ev1, hF⟩ := bnd_ex hF
  refine lv_iinc (k := 3) (v := v1) hx hb d_M_placeOf_30 hl rfl (by rw [ev1]; rfl) (by decide) rfl (fun ls hl => ?_)
  have hl : lv_has ls 4 [(3, .int v1), (2, .int s0), (0, .ref l0), (1, .int l1)] := hl
  refine lv_goto (tgt := 4) hx hb d_M_placeOf_33 (by decide) ?_
  exact hk4 _ _ _ _ hF _ _ _ (lv_sub hl [2, 3, 1, 0] rfl) hw
set_option maxHeartbeats 4000000 in
set_option maxRecDepth 100000 in
theorem m_M_placeOf_b28 {I : gMI} {J : gMJ} {zz : Int32} (hret : ∀ (pc : Nat) (ls : Array Slot) (H : Heap) (locs : List Loc) (x : Int32), (x) = zz → decode prog_10_method_4_code pc = .ok (.ireturn, 1) → ga_W D T z L S I J s H locs → W p l e rm_M_placeOf s m args below meth c H locs 0 0 Q (F0 m pc ls [.int x])) (C : CallFix p m c prog_10_method_4_code 4 s args ga_ws "RankHouseModel") (k4 : Nat → Int32 → Int32 → Int32 → Option (Int32)) (hk4 : ∀ (l0 : Nat) (l1 : Int32) (l2 : Int32) (l3 : Int32), k4 l0 l1 l2 l3 = some zz → ∀ (ls : Array Slot) (H : Heap) (locs : List Loc), lv_has ls 4 [(0, .ref l0), (1, .int l1), (2, .int l2), (3, .int l3)] → ga_W D T z L S I J s H locs → W p l e rm_M_placeOf s m args below meth c H locs 0 0 Q (F0 m 4 ls [])) : ∀ (l0 : Nat) (l1 : Int32) (l2 : Int32) (l3 : Int32), f_M_placeOf_b28 S I J k4 l0 l1 l2 l3 = some zz → ∀ (ls : Array Slot) (H : Heap) (locs : List Loc), lv_has ls 4 [(0, .ref l0), (1, .int l1), (2, .int l2), (3, .int l3)] → ga_W D T z L S I J s H locs → W p l e rm_M_placeOf s m args below meth c H locs 0 0 Q (F0 m 28 ls []) := by
  intro l0 l1 l2 l3 hF ls H locs hl hw
  have hx := C.1
  have hb := C.2.1
  rw [f_M_placeOf_b28] at hF
  refine lv_iload_n hx hb d_M_placeOf_28 rfl (lv_at hl 2 rfl) ?_
  exact m_M_placeOf_b29 hret C k4 hk4 _ _ _ _ hF _ _ _ (lv_sub hl [0, 1, 3] rfl) hw
set_option maxHeartbeats 4000000 in
set_option maxRecDepth 100000 in
theorem m_M_placeOf_b4 {I : gMI} {J : gMJ} {zz : Int32} (hret : ∀ (pc : Nat) (ls : Array Slot) (H : Heap) (locs : List Loc) (x : Int32), (x) = zz → decode prog_10_method_4_code pc = .ok (.ireturn, 1) → ga_W D T z L S I J s H locs → W p l e rm_M_placeOf s m args below meth c H locs 0 0 Q (F0 m pc ls [.int x])) (C : CallFix p m c prog_10_method_4_code 4 s args ga_ws "RankHouseModel") : ∀ (n : Nat) (l0 : Nat) (l1 : Int32) (l2 : Int32) (l3 : Int32), f_M_placeOf_b4 S I J n l0 l1 l2 l3 = some zz → ∀ (ls : Array Slot) (H : Heap) (locs : List Loc), lv_has ls 4 [(0, .ref l0), (1, .int l1), (2, .int l2), (3, .int l3)] → ga_W D T z L S I J s H locs → W p l e rm_M_placeOf s m args below meth c H locs 0 0 Q (F0 m 4 ls []) := by
  intro n
  induction n with
  | zero =>
    intro l0 l1 l2 l3 hF ls H locs hl hw
    rw [f_M_placeOf_b4] at hF
    cases hF
  | succ n ih =>
    intro l0 l1 l2 l3 hF ls H locs hl hw
    have hx := C.1
    have hb := C.2.1
    rw [f_M_placeOf_b4] at hF
    refine lv_iload_n hx hb d_M_placeOf_4 rfl (lv_at hl 3 rfl) ?_
    refine lv_bipush (v := 8) hx hb d_M_placeOf_5 (by decide) ?_
    by_cases h1 : (8 : Int32) ≤ l3
    · rw [if_pos h1] at hF
      refine lv_icmp_ge (tgt := 36) hx hb d_M_placeOf_7 (by decide) (fun _ => ?_) (fun hn => absurd h1 hn)
      refine lv_iload_n hx hb d_M_placeOf_36 rfl (lv_at hl 2 rfl) ?_
      exact hret _ _ _ _ _ (Option.some.inj hF) d_M_placeOf_37 hw
    · rw [if_neg h1] at hF
      refine lv_icmp_ge (tgt := 36) hx hb d_M_placeOf_7 (by decide) (fun hp => absurd hp h1) (fun _ => ?_)
      refine lv_iload_n hx hb d_M_placeOf_10 rfl (lv_at hl 1 rfl) ?_
      by_cases h2 : l1 ≤ 0
      · rw [if_pos h2] at hF
        refine lv_if_le (tgt := 28) hx hb d_M_placeOf_11 (by decide) (fun _ => ?_) (fun hn => absurd h2 hn)
        exact m_M_placeOf_b28 hret C _ ih _ _ _ _ hF _ _ _ hl hw
      · rw [if_neg h2] at hF
        refine lv_if_le (tgt := 28) hx hb d_M_placeOf_11 (by decide) (fun hp => absurd hp h2) (fun _ => ?_)
        refine lv_aload_n hx hb d_M_placeOf_14 rfl (lv_at hl 0 rfl) ?_
        obtain ⟨t3, hF⟩ := gd_ex hF
        obtain ⟨r4, hr4, hF⟩ := ob_ex hF
        refine ga_getR C hw gf_M_20 t3 hr4 d_M_placeOf_15 ?_
        refine lv_iload_n hx hb d_M_placeOf_18 rfl (lv_at hl 3 rfl) ?_
        obtain ⟨t5, hF⟩ := gd_ex hF
        obtain ⟨b6, hF⟩ := gd_ex hF
        refine ga_iald C hw t5 b6 d_M_placeOf_19 ?_
        refine lv_iload_n hx hb d_M_placeOf_20 rfl (lv_at hl 1 rfl) ?_
        by_cases h7 : (I r4 l3.toNatClampNeg) = l1
        · rw [if_pos h7] at hF
          refine lv_icmp_ne (tgt := 28) hx hb d_M_placeOf_21 (by decide) (fun hn => absurd h7 hn) (fun _ => ?_)
          refine lv_iload_n hx hb d_M_placeOf_24 rfl (lv_at hl 3 rfl) ?_
          refine lv_goto (tgt := 29) hx hb d_M_placeOf_25 (by decide) ?_
          exact m_M_placeOf_b29 hret C _ ih _ _ _ _ hF _ _ _ (lv_sub hl [0, 1, 3] rfl) hw
        · rw [if_neg h7] at hF
          refine lv_icmp_ne (tgt := 28) hx hb d_M_placeOf_21 (by decide) (fun _ => ?_) (fun hp => absurd hp h7)
          exact m_M_placeOf_b28 hret C _ ih _ _ _ _ hF _ _ _ hl hw
set_option maxHeartbeats 4000000 in
set_option maxRecDepth 100000 in
theorem c_M_placeOf (l : Launch) (D : va_G) (T : Nat → ClassId) (z : Nat) (L : List Nat) {S : gS} {I : gMI} {J : gMJ} {p0 : Nat} {p1 : Int32} {r : Int32} (hF : f_M_placeOf S I J p0 p1 = some (r)) : ga_Mi l y_M_placeOf prog_10_method_4_code 4 (Option.some Jvm.ClassFile.FieldType.int) rm_M_placeOf [.ref p0, .int p1] D T z L S I J r I J := by
  refine Met.ofW (cc := prog_10_method_4_code) (maxL := 4) (ret := (Option.some Jvm.ClassFile.FieldType.int)) (by decide) rfl ?_
  intro p e s m args below meth c s₁ B hml hv
  obtain ⟨ha, hv⟩ := hv
  have hx := B.exec
  have hb := B.bytes
  have hr := B.returns
  have hts := atoms_spec (ws := .code y_M_placeOf prog_10_method_4_code 4 (Option.some Jvm.ClassFile.FieldType.int) :: ga_ws) B.pre
  have hown : s.vm.findClass "RankHouseModel" = some m.cls := findClass_of_methodNamed B.named
  have hlocks := B.notSynchronized
  have C : CallFix p m c prog_10_method_4_code 4 s args ga_ws "RankHouseModel" := ⟨hx, hb, hml, hown, fun w h => hts w (List.mem_cons_of_mem _ h)⟩
  have hw := ga_start hv
  have hl := lv_entry ([.ref p0, .int p1]) (n := 4) (Nat.le_of_ble_eq_true rfl)
  rw [show entryFrame m args 4 = entryFrame m ([.ref p0, .int p1] : List Value).toArray 4 by rw [ha], lg_entry_eq]
  generalize (lg_sl ([.ref p0, .int p1]) ++ List.replicate (4 - (lg_sl ([.ref p0, .int p1])).length) Slot.unset).toArray = ls at hl ⊢
  have hl : lv_has ls 4 [(0, .ref p0), (1, .int p1)] := hl
  have key : ∀ Q : State → Prop, (∀ (pc : Nat) (ls : Array Slot) (H : Heap) (locs : List Loc) (x : Int32), (x) = (r) → decode prog_10_method_4_code pc = .ok (.ireturn, 1) → ga_W D T z L S I J s H locs → W p l e rm_M_placeOf s m args below meth c H locs 0 0 Q (F0 m pc ls [.int x])) → W p l e rm_M_placeOf s m args below meth c s.heap [] 0 0 Q (F0 m 0 ls []) := by
    intro Q hret
    rw [f_M_placeOf] at hF
    refine lv_iconst (v := -1) hx hb d_M_placeOf_0 (by decide) ?_
    refine lv_istore_n hx hb d_M_placeOf_1 rfl hl (by decide) rfl (fun ls hl => ?_)
    have hl : lv_has ls 4 [(2, .int (-1 : Int32)), (0, .ref p0), (1, .int p1)] := hl
    refine lv_iconst (v := 0) hx hb d_M_placeOf_2 (by decide) ?_
    refine lv_istore_n hx hb d_M_placeOf_3 rfl hl (by decide) rfl (fun ls hl => ?_)
    have hl : lv_has ls 4 [(3, .int (0 : Int32)), (2, .int (-1 : Int32)), (0, .ref p0), (1, .int p1)] := hl
    exact m_M_placeOf_b4 hret C gFuel _ _ _ _ hF _ _ _ (lv_sub hl [2, 3, 1, 0] rfl) hw
  refine key _ (fun pc ls H locs x he hd hw => ?_)
  · cases he
    exact W.iret hx hb hr (fun t ht _ => ⟨⟨_, (), rfl, rfl, ga_o hw ht⟩, hw.2.2.2.1.F ht⟩) hw.2.2.2.1.2.2 hd
set_option maxHeartbeats 4000000 in
set_option maxRecDepth 100000 in
theorem m_M_record_b38 {J : gMJ} {zz : Int32 × gMI} (hret : ∀ (pc : Nat) (ls : Array Slot) (H : Heap) (locs : List Loc) (x : Int32) (I1 : gMI), (x, I1) = zz → decode prog_10_method_5_code pc = .ok (.ireturn, 1) → ga_W D T z L S I1 J s H locs → W p l e rm_M_record s m args below meth c H locs 0 0 Q (F0 m pc ls [.int x])) (C : CallFix p m c prog_10_method_5_code 3 s args ga_ws "RankHouseModel") : ∀ (I : gMI) (s0 : Int32) (s1 : Nat) (l0 : Nat) (l1 : Int32) (l2 : Int32), f_M_record_b38 S J I s0 s1 l0 l1 l2 = some zz → ∀ (ls : Array Slot) (H : Heap) (locs : List Loc), lv_has ls 3 [(0, .ref l0), (1, .int l1), (2, .int l2)] → ga_W D T z L S I J s H locs → W p l e rm_M_record s m args below meth c H locs 0 0 Q (F0 m 38 ls [.int s0, .ref s1]) := by
  intro I s0 s1 l0 l1 l2 hF ls H locs hl hw
  have hx := C.1
  have hb := C.2.1
  rw [f_M_record_b38] at hF
  obtain ⟨t1, hF⟩ := gd_ex hF
  obtain ⟨I2, eI2, hF⟩ := bnd_ex hF
  refine ga_putI C hw gp_M_114 t1 rfl rfl eI2 d_M_record_38 (fun H locs hw => ?_)
  refine lv_aload_n hx hb d_M_record_41 rfl (lv_at hl 0 rfl) ?_
  obtain ⟨t3, hF⟩ := gd_ex hF
  refine ga_getI C hw gf_M_114 t3 d_M_record_42 ?_
  by_cases h4 : (I2 l0 0) ≤ 0
  · rw [if_pos h4] at hF
    refine lv_if_le (tgt := 50) hx hb d_M_record_45 (by decide) (fun _ => ?_) (fun hn => absurd h4 hn)
    refine lv_aload_n hx hb d_M_record_50 rfl (lv_at hl 0 rfl) ?_
    obtain ⟨r5, hr5, hF⟩ := ob_ex hF
    refine ga_getR C hw gf_M_17 t3 hr5 d_M_record_51 ?_
    refine lv_sipush (v := 500) hx hb d_M_record_54 (by decide) ?_
    refine lv_iload_n hx hb d_M_record_57 rfl (lv_at hl 1 rfl) ?_
    refine lv_imul hx hb d_M_record_58 ?_
    refine lv_aload_n hx hb d_M_record_59 rfl (lv_at hl 0 rfl) ?_
    obtain ⟨r6, hr6, hF⟩ := ob_ex hF
    refine ga_getR C hw gf_M_13 t3 hr6 d_M_record_60 ?_
    refine lv_iload_n hx hb d_M_record_63 rfl (lv_at hl 1 rfl) ?_
    obtain ⟨t7, hF⟩ := gd_ex hF
    obtain ⟨b8, hF⟩ := gd_ex hF
    refine ga_iald C hw t7 b8 d_M_record_64 ?_
    refine lv_iadd hx hb d_M_record_65 ?_
    refine lv_iload_n hx hb d_M_record_66 rfl (lv_at hl 2 rfl) ?_
    obtain ⟨t9, hF⟩ := gd_ex hF
    obtain ⟨b10, hF⟩ := gd_ex hF
    obtain ⟨I11, eI11, hF⟩ := bnd_ex hF
    refine ga_iast C hw t9 b10 eI11 d_M_record_67 (fun H locs hw => ?_)
    refine lv_aload_n hx hb d_M_record_68 rfl (lv_at hl 0 rfl) ?_
    refine ga_getR C hw gf_M_13 t3 hr6 d_M_record_69 ?_
    refine lv_iload_n hx hb d_M_record_72 rfl (lv_at hl 1 rfl) ?_
    refine lv_dup2_11 hx hb d_M_record_73 rfl rfl ?_
    refine ga_iald C hw t7 b8 d_M_record_74 ?_
    refine lv_iconst (v := 1) hx hb d_M_record_75 (by decide) ?_
    refine lv_iadd hx hb d_M_record_76 ?_
    obtain ⟨I12, eI12, hF⟩ := bnd_ex hF
    refine ga_iast C hw t7 b8 eI12 d_M_record_77 (fun H locs hw => ?_)
    refine lv_aload_n hx hb d_M_record_78 rfl (lv_at hl 0 rfl) ?_
    refine ga_getR C hw gf_M_13 t3 hr6 d_M_record_79 ?_
    refine lv_iload_n hx hb d_M_record_82 rfl (lv_at hl 1 rfl) ?_
    refine ga_iald C hw t7 b8 d_M_record_83 ?_
    exact hret _ _ _ _ _ _ (Option.some.inj hF) d_M_record_84 hw
  · rw [if_neg h4] at hF
    refine lv_if_le (tgt := 50) hx hb d_M_record_45 (by decide) (fun hp => absurd hp h4) (fun _ => ?_)
    refine lv_iconst (v := 0) hx hb d_M_record_48 (by decide) ?_
    exact hret _ _ _ _ _ _ (Option.some.inj hF) d_M_record_49 hw
set_option maxHeartbeats 4000000 in
set_option maxRecDepth 100000 in
theorem m_M_record_b33 {J : gMJ} {zz : Int32 × gMI} (hret : ∀ (pc : Nat) (ls : Array Slot) (H : Heap) (locs : List Loc) (x : Int32) (I1 : gMI), (x, I1) = zz → decode prog_10_method_5_code pc = .ok (.ireturn, 1) → ga_W D T z L S I1 J s H locs → W p l e rm_M_record s m args below meth c H locs 0 0 Q (F0 m pc ls [.int x])) (C : CallFix p m c prog_10_method_5_code 3 s args ga_ws "RankHouseModel") : ∀ (I : gMI) (s0 : Nat) (l0 : Nat) (l1 : Int32) (l2 : Int32), f_M_record_b33 S J I s0 l0 l1 l2 = some zz → ∀ (ls : Array Slot) (H : Heap) (locs : List Loc), lv_has ls 3 [(0, .ref l0), (1, .int l1), (2, .int l2)] → ga_W D T z L S I J s H locs → W p l e rm_M_record s m args below meth c H locs 0 0 Q (F0 m 33 ls [.ref s0]) := by
  intro I s0 l0 l1 l2 hF ls H locs hl hw
  have hx := C.1
  have hb := C.2.1
  rw [f_M_record_b33] at hF
  refine lv_iconst (v := 2) hx hb d_M_record_33 (by decide) ?_
  refine lv_goto (tgt := 38) hx hb d_M_record_34 (by decide) ?_
  exact m_M_record_b38 hret C _ _ _ _ _ _ hF _ _ _ hl hw
set_option maxHeartbeats 4000000 in
set_option maxRecDepth 100000 in
theorem c_M_record (l : Launch) (D : va_G) (T : Nat → ClassId) (z : Nat) (L : List Nat) {S : gS} {I : gMI} {J : gMJ} {p0 : Nat} {p1 : Int32} {p2 : Int32} {r : Int32} {RI : gMI} (hF : f_M_record S I J p0 p1 p2 = some (r, RI)) : ga_Mi l y_M_record prog_10_method_5_code 3 (Option.some Jvm.ClassFile.FieldType.int) rm_M_record [.ref p0, .int p1, .int p2] D T z L S I J r RI J := by
  refine Met.ofW (cc := prog_10_method_5_code) (maxL := 3) (ret := (Option.some Jvm.ClassFile.FieldType.int)) (by decide) rfl ?_
  intro p e s m args below meth c s₁ B hml hv
  obtain ⟨ha, hv⟩ := hv
  have hx := B.exec
  have hb := B.bytes
  have hr := B.returns
  have hts := atoms_spec (ws := .code y_M_record prog_10_method_5_code 3 (Option.some Jvm.ClassFile.FieldType.int) :: ga_ws) B.pre
  have hown : s.vm.findClass "RankHouseModel" = some m.cls := findClass_of_methodNamed B.named
  have hlocks := B.notSynchronized
  have C : CallFix p m c prog_10_method_5_code 3 s args ga_ws "RankHouseModel" := ⟨hx, hb, hml, hown, fun w h => hts w (List.mem_cons_of_mem _ h)⟩
  have hw := ga_start hv
  have hl := lv_entry ([.ref p0, .int p1, .int p2]) (n := 3) (Nat.le_of_ble_eq_true rfl)
  rw [show entryFrame m args 3 = entryFrame m ([.ref p0, .int p1, .int p2] : List Value).toArray 3 by rw [ha], lg_entry_eq]
  generalize (lg_sl ([.ref p0, .int p1, .int p2]) ++ List.replicate (3 - (lg_sl ([.ref p0, .int p1, .int p2])).length) Slot.unset).toArray = ls at hl ⊢
  have hl : lv_has ls 3 [(0, .ref p0), (1, .int p1), (2, .int p2)] := hl
  have key : ∀ Q : State → Prop, (∀ (pc : Nat) (ls : Array Slot) (H : Heap) (locs : List Loc) (x : Int32) (I1 : gMI), (x, I1) = (r, RI) → decode prog_10_method_5_code pc = .ok (.ireturn, 1) → ga_W D T z L S I1 J s H locs → W p l e rm_M_record s m args below meth c H locs 0 0 Q (F0 m pc ls [.int x])) → W p l e rm_M_record s m args below meth c s.heap [] 0 0 Q (F0 m 0 ls []) := by
    intro Q hret
    rw [f_M_record] at hF
    refine lv_aload_n hx hb d_M_record_0 rfl (lv_at hl 0 rfl) ?_
    refine lv_iload_n hx hb d_M_record_1 rfl (lv_at hl 1 rfl) ?_
    obtain ⟨x1, c2, hF⟩ := ob_ex hF
    refine ga_cSi (As := [.int p1]) C hw (c_M_isLogger l D T z L c2) gs_M_118 rfl hl.1 ⟨Nat.le_of_ble_eq_true rfl, Nat.le_of_ble_eq_true rfl, rfl, rfl, Nat.le_of_ble_eq_true rfl, Nat.le_of_ble_eq_true rfl⟩ (Nat.le_of_ble_eq_true rfl) rfl d_M_record_2 (fun H locs hw => ?_)
    by_cases h3 : x1 = 0
    · rw [if_pos h3] at hF
      refine lv_if_ne (tgt := 12) hx hb d_M_record_5 (by decide) (fun hn => absurd h3 hn) (fun _ => ?_)
      refine lv_iconst (v := 1) hx hb d_M_record_8 (by decide) ?_
      refine lv_goto (tgt := 38) hx hb d_M_record_9 (by decide) ?_
      exact m_M_record_b38 hret C _ _ _ _ _ _ hF _ _ _ hl hw
    · rw [if_neg h3] at hF
      refine lv_if_ne (tgt := 12) hx hb d_M_record_5 (by decide) (fun _ => ?_) (fun hp => absurd hp h3)
      refine lv_aload_n hx hb d_M_record_12 rfl (lv_at hl 0 rfl) ?_
      obtain ⟨t4, hF⟩ := gd_ex hF
      obtain ⟨r5, hr5, hF⟩ := ob_ex hF
      refine ga_getR C hw gf_M_7 t4 hr5 d_M_record_13 ?_
      refine lv_iload_n hx hb d_M_record_16 rfl (lv_at hl 1 rfl) ?_
      obtain ⟨t6, hF⟩ := gd_ex hF
      obtain ⟨b7, hF⟩ := gd_ex hF
      refine ga_zald C hw t6 b7 d_M_record_17 ?_
      by_cases h8 : (I r5 p1.toNatClampNeg) = 0
      · rw [if_pos h8] at hF
        refine lv_if_ne (tgt := 33) hx hb d_M_record_18 (by decide) (fun hn => absurd h8 hn) (fun _ => ?_)
        refine lv_aload_n hx hb d_M_record_21 rfl (lv_at hl 0 rfl) ?_
        obtain ⟨r9, hr9, hF⟩ := ob_ex hF
        refine ga_getR C hw gf_M_13 t4 hr9 d_M_record_22 ?_
        refine lv_iload_n hx hb d_M_record_25 rfl (lv_at hl 1 rfl) ?_
        obtain ⟨t10, hF⟩ := gd_ex hF
        obtain ⟨b11, hF⟩ := gd_ex hF
        refine ga_iald C hw t10 b11 d_M_record_26 ?_
        refine lv_sipush (v := 500) hx hb d_M_record_27 (by decide) ?_
        by_cases h12 : (I r9 p1.toNatClampNeg) = (500 : Int32)
        · rw [if_pos h12] at hF
          refine lv_icmp_ne (tgt := 37) hx hb d_M_record_30 (by decide) (fun hn => absurd h12 hn) (fun _ => ?_)
          exact m_M_record_b33 hret C _ _ _ _ _ hF _ _ _ hl hw
        · rw [if_neg h12] at hF
          refine lv_icmp_ne (tgt := 37) hx hb d_M_record_30 (by decide) (fun _ => ?_) (fun hp => absurd hp h12)
          refine lv_iconst (v := 0) hx hb d_M_record_37 (by decide) ?_
          exact m_M_record_b38 hret C _ _ _ _ _ _ hF _ _ _ hl hw
      · rw [if_neg h8] at hF
        refine lv_if_ne (tgt := 33) hx hb d_M_record_18 (by decide) (fun _ => ?_) (fun hp => absurd hp h8)
        exact m_M_record_b33 hret C _ _ _ _ _ hF _ _ _ hl hw
  refine key _ (fun pc ls H locs x I1 he hd hw => ?_)
  · cases he
    exact W.iret hx hb hr (fun t ht _ => ⟨⟨_, (), rfl, rfl, ga_o hw ht⟩, hw.2.2.2.1.F ht⟩) hw.2.2.2.1.2.2 hd
set_option maxHeartbeats 4000000 in
set_option maxRecDepth 100000 in
theorem m_M_fill_b70 {J : gMJ} {zz : Int32 × gMI} (hret : ∀ (pc : Nat) (ls : Array Slot) (H : Heap) (locs : List Loc) (x : Int32) (I1 : gMI), (x, I1) = zz → decode prog_10_method_6_code pc = .ok (.ireturn, 1) → ga_W D T z L S I1 J s H locs → W p l e rm_M_fill s m args below meth c H locs 0 0 Q (F0 m pc ls [.int x])) (C : CallFix p m c prog_10_method_6_code 7 s args ga_ws "RankHouseModel") : ∀ (n : Nat) (I : gMI) (l0 : Nat) (l1 : Int32) (l2 : Int32) (l3 : Int32) (l4 : Int32) (l5 : Int32) (l6 : Int32), f_M_fill_b70 S J n I l0 l1 l2 l3 l4 l5 l6 = some zz → ∀ (ls : Array Slot) (H : Heap) (locs : List Loc), lv_has ls 7 [(0, .ref l0), (1, .int l1), (2, .int l2), (3, .int l3), (4, .int l4), (5, .int l5), (6, .int l6)] → ga_W D T z L S I J s H locs → W p l e rm_M_fill s m args below meth c H locs 0 0 Q (F0 m 70 ls []) := by
  intro n
  induction n with
  | zero =>
    intro I l0 l1 l2 l3 l4 l5 l6 hF ls H locs hl hw
    rw [f_M_fill_b70] at hF
    cases hF
  | succ n ih =>
    intro I l0 l1 l2 l3 l4 l5 l6 hF ls H locs hl hw
    have hx := C.1
    have hb := C.2.1
    rw [f_M_fill_b70] at hF
    refine lv_iload hx hb d_M_fill_70 (lv_at hl 6 rfl) ?_
    refine lv_iload_n hx hb d_M_fill_72 rfl (lv_at hl 2 rfl) ?_
    by_cases h1 : l2 ≤ l6
    · rw [if_pos h1] at hF
      refine lv_icmp_ge (tgt := 118) hx hb d_M_fill_73 (by decide) (fun _ => ?_) (fun hn => absurd h1 hn)
      refine lv_aload_n hx hb d_M_fill_118 rfl (lv_at hl 0 rfl) ?_
      obtain ⟨t2, hF⟩ := gd_ex hF
      obtain ⟨r3, hr3, hF⟩ := ob_ex hF
      refine ga_getR C hw gf_M_13 t2 hr3 d_M_fill_119 ?_
      refine lv_iload_n hx hb d_M_fill_122 rfl (lv_at hl 1 rfl) ?_
      refine lv_aload_n hx hb d_M_fill_123 rfl (lv_at hl 0 rfl) ?_
      refine ga_getR C hw gf_M_13 t2 hr3 d_M_fill_124 ?_
      refine lv_iload_n hx hb d_M_fill_127 rfl (lv_at hl 1 rfl) ?_
      obtain ⟨t4, hF⟩ := gd_ex hF
      obtain ⟨b5, hF⟩ := gd_ex hF
      refine ga_iald C hw t4 b5 d_M_fill_128 ?_
      refine lv_iload_n hx hb d_M_fill_129 rfl (lv_at hl 2 rfl) ?_
      refine lv_iadd hx hb d_M_fill_130 ?_
      obtain ⟨I6, eI6, hF⟩ := bnd_ex hF
      refine ga_iast C hw t4 b5 eI6 d_M_fill_131 (fun H locs hw => ?_)
      refine lv_aload_n hx hb d_M_fill_132 rfl (lv_at hl 0 rfl) ?_
      refine ga_getR C hw gf_M_13 t2 hr3 d_M_fill_133 ?_
      refine lv_iload_n hx hb d_M_fill_136 rfl (lv_at hl 1 rfl) ?_
      refine ga_iald C hw t4 b5 d_M_fill_137 ?_
      exact hret _ _ _ _ _ _ (Option.some.inj hF) d_M_fill_138 hw
    · rw [if_neg h1] at hF
      refine lv_icmp_ge (tgt := 118) hx hb d_M_fill_73 (by decide) (fun hp => absurd hp h1) (fun _ => ?_)
      refine lv_aload_n hx hb d_M_fill_76 rfl (lv_at hl 0 rfl) ?_
      obtain ⟨t7, hF⟩ := gd_ex hF
      obtain ⟨r8, hr8, hF⟩ := ob_ex hF
      refine ga_getR C hw gf_M_17 t7 hr8 d_M_fill_77 ?_
      refine lv_sipush (v := 500) hx hb d_M_fill_80 (by decide) ?_
      refine lv_iload_n hx hb d_M_fill_83 rfl (lv_at hl 1 rfl) ?_
      refine lv_imul hx hb d_M_fill_84 ?_
      refine lv_aload_n hx hb d_M_fill_85 rfl (lv_at hl 0 rfl) ?_
      obtain ⟨r9, hr9, hF⟩ := ob_ex hF
      refine ga_getR C hw gf_M_13 t7 hr9 d_M_fill_86 ?_
      refine lv_iload_n hx hb d_M_fill_89 rfl (lv_at hl 1 rfl) ?_
      obtain ⟨t10, hF⟩ := gd_ex hF
      obtain ⟨b11, hF⟩ := gd_ex hF
      refine ga_iald C hw t10 b11 d_M_fill_90 ?_
      refine lv_iadd hx hb d_M_fill_91 ?_
      refine lv_iload hx hb d_M_fill_92 (lv_at hl 6 rfl) ?_
      refine lv_iadd hx hb d_M_fill_94 ?_
      refine lv_iload_n hx hb d_M_fill_95 rfl (lv_at hl 3 rfl) ?_
      refine lv_iload hx hb d_M_fill_96 (lv_at hl 4 rfl) ?_
      refine lv_iload hx hb d_M_fill_98 (lv_at hl 6 rfl) ?_
      refine lv_imul hx hb d_M_fill_100 ?_
      refine lv_iadd hx hb d_M_fill_101 ?_
      refine lv_iload hx hb d_M_fill_102 (lv_at hl 6 rfl) ?_
      refine lv_ldc hx hb C.2.2.2.1 (C.2.2.2.2 _ gk_M_122) d_M_fill_104 ?_
      refine lv_imul hx hb d_M_fill_106 ?_
      refine lv_iload hx hb d_M_fill_107 (lv_at hl 5 rfl) ?_
      refine lv_iand hx hb d_M_fill_109 ?_
      refine lv_ixor hx hb d_M_fill_110 ?_
      obtain ⟨t12, hF⟩ := gd_ex hF
      obtain ⟨b13, hF⟩ := gd_ex hF
      obtain ⟨I14, eI14, hF⟩ := bnd_ex hF
      refine ga_iast C hw t12 b13 eI14 d_M_fill_111 (fun H locs hw => ?_)
      obtain ⟨v15, ev15, hF⟩ := bnd_ex hF
      refine lv_iinc (k := 6) (v := v15) hx hb d_M_fill_112 hl rfl (by rw [ev15]; rfl) (by decide) rfl (fun ls hl => ?_)
      have hl : lv_has ls 7 [(6, .int v15), (0, .ref l0), (1, .int l1), (2, .int l2), (3, .int l3), (4, .int l4), (5, .int l5)] := hl
      refine lv_goto (tgt := 70) hx hb d_M_fill_115 (by decide) ?_
      exact ih _ _ _ _ _ _ _ _ hF _ _ _ (lv_sub hl [1, 2, 3, 4, 5, 6, 0] rfl) hw
set_option maxHeartbeats 4000000 in
set_option maxRecDepth 100000 in
theorem m_M_fill_b55 {J : gMJ} {zz : Int32 × gMI} (hret : ∀ (pc : Nat) (ls : Array Slot) (H : Heap) (locs : List Loc) (x : Int32) (I1 : gMI), (x, I1) = zz → decode prog_10_method_6_code pc = .ok (.ireturn, 1) → ga_W D T z L S I1 J s H locs → W p l e rm_M_fill s m args below meth c H locs 0 0 Q (F0 m pc ls [.int x])) (C : CallFix p m c prog_10_method_6_code 7 s args ga_ws "RankHouseModel") : ∀ (I : gMI) (s0 : Int32) (s1 : Nat) (l0 : Nat) (l1 : Int32) (l2 : Int32) (l3 : Int32) (l4 : Int32) (l5 : Int32), f_M_fill_b55 S J I s0 s1 l0 l1 l2 l3 l4 l5 = some zz → ∀ (ls : Array Slot) (H : Heap) (locs : List Loc), lv_has ls 7 [(0, .ref l0), (1, .int l1), (2, .int l2), (3, .int l3), (4, .int l4), (5, .int l5)] → ga_W D T z L S I J s H locs → W p l e rm_M_fill s m args below meth c H locs 0 0 Q (F0 m 55 ls [.int s0, .ref s1]) := by
  intro I s0 s1 l0 l1 l2 l3 l4 l5 hF ls H locs hl hw
  have hx := C.1
  have hb := C.2.1
  rw [f_M_fill_b55] at hF
  obtain ⟨t1, hF⟩ := gd_ex hF
  obtain ⟨I2, eI2, hF⟩ := bnd_ex hF
  refine ga_putI C hw gp_M_114 t1 rfl rfl eI2 d_M_fill_55 (fun H locs hw => ?_)
  refine lv_aload_n hx hb d_M_fill_58 rfl (lv_at hl 0 rfl) ?_
  obtain ⟨t3, hF⟩ := gd_ex hF
  refine ga_getI C hw gf_M_114 t3 d_M_fill_59 ?_
  by_cases h4 : (I2 l0 0) ≤ 0
  · rw [if_pos h4] at hF
    refine lv_if_le (tgt := 67) hx hb d_M_fill_62 (by decide) (fun _ => ?_) (fun hn => absurd h4 hn)
    refine lv_iconst (v := 0) hx hb d_M_fill_67 (by decide) ?_
    refine lv_istore hx hb d_M_fill_68 hl (by decide) rfl (fun ls hl => ?_)
    have hl : lv_has ls 7 [(6, .int (0 : Int32)), (0, .ref l0), (1, .int l1), (2, .int l2), (3, .int l3), (4, .int l4), (5, .int l5)] := hl
    exact m_M_fill_b70 hret C gFuel _ _ _ _ _ _ _ _ hF _ _ _ (lv_sub hl [1, 2, 3, 4, 5, 6, 0] rfl) hw
  · rw [if_neg h4] at hF
    refine lv_if_le (tgt := 67) hx hb d_M_fill_62 (by decide) (fun hp => absurd hp h4) (fun _ => ?_)
    refine lv_iconst (v := 0) hx hb d_M_fill_65 (by decide) ?_
    exact hret _ _ _ _ _ _ (Option.some.inj hF) d_M_fill_66 hw
set_option maxHeartbeats 4000000 in
set_option maxRecDepth 100000 in
theorem m_M_fill_b23 {J : gMJ} {zz : Int32 × gMI} (hret : ∀ (pc : Nat) (ls : Array Slot) (H : Heap) (locs : List Loc) (x : Int32) (I1 : gMI), (x, I1) = zz → decode prog_10_method_6_code pc = .ok (.ireturn, 1) → ga_W D T z L S I1 J s H locs → W p l e rm_M_fill s m args below meth c H locs 0 0 Q (F0 m pc ls [.int x])) (C : CallFix p m c prog_10_method_6_code 7 s args ga_ws "RankHouseModel") : ∀ (I : gMI) (s0 : Nat) (l0 : Nat) (l1 : Int32) (l2 : Int32) (l3 : Int32) (l4 : Int32) (l5 : Int32), f_M_fill_b23 S J I s0 l0 l1 l2 l3 l4 l5 = some zz → ∀ (ls : Array Slot) (H : Heap) (locs : List Loc), lv_has ls 7 [(0, .ref l0), (1, .int l1), (2, .int l2), (3, .int l3), (4, .int l4), (5, .int l5)] → ga_W D T z L S I J s H locs → W p l e rm_M_fill s m args below meth c H locs 0 0 Q (F0 m 23 ls [.ref s0]) := by
  intro I s0 l0 l1 l2 l3 l4 l5 hF ls H locs hl hw
  have hx := C.1
  have hb := C.2.1
  rw [f_M_fill_b23] at hF
  refine lv_iconst (v := 2) hx hb d_M_fill_23 (by decide) ?_
  refine lv_goto (tgt := 55) hx hb d_M_fill_24 (by decide) ?_
  exact m_M_fill_b55 hret C _ _ _ _ _ _ _ _ _ hF _ _ _ hl hw
set_option maxHeartbeats 4000000 in
set_option maxRecDepth 100000 in
theorem m_M_fill_b50 {J : gMJ} {zz : Int32 × gMI} (hret : ∀ (pc : Nat) (ls : Array Slot) (H : Heap) (locs : List Loc) (x : Int32) (I1 : gMI), (x, I1) = zz → decode prog_10_method_6_code pc = .ok (.ireturn, 1) → ga_W D T z L S I1 J s H locs → W p l e rm_M_fill s m args below meth c H locs 0 0 Q (F0 m pc ls [.int x])) (C : CallFix p m c prog_10_method_6_code 7 s args ga_ws "RankHouseModel") : ∀ (I : gMI) (s0 : Nat) (l0 : Nat) (l1 : Int32) (l2 : Int32) (l3 : Int32) (l4 : Int32) (l5 : Int32), f_M_fill_b50 S J I s0 l0 l1 l2 l3 l4 l5 = some zz → ∀ (ls : Array Slot) (H : Heap) (locs : List Loc), lv_has ls 7 [(0, .ref l0), (1, .int l1), (2, .int l2), (3, .int l3), (4, .int l4), (5, .int l5)] → ga_W D T z L S I J s H locs → W p l e rm_M_fill s m args below meth c H locs 0 0 Q (F0 m 50 ls [.ref s0]) := by
  intro I s0 l0 l1 l2 l3 l4 l5 hF ls H locs hl hw
  have hx := C.1
  have hb := C.2.1
  rw [f_M_fill_b50] at hF
  refine lv_iconst (v := 3) hx hb d_M_fill_50 (by decide) ?_
  refine lv_goto (tgt := 55) hx hb d_M_fill_51 (by decide) ?_
  exact m_M_fill_b55 hret C _ _ _ _ _ _ _ _ _ hF _ _ _ hl hw
set_option maxHeartbeats 4000000 in
set_option maxRecDepth 100000 in
theorem c_M_fill (l : Launch) (D : va_G) (T : Nat → ClassId) (z : Nat) (L : List Nat) {S : gS} {I : gMI} {J : gMJ} {p0 : Nat} {p1 : Int32} {p2 : Int32} {p3 : Int32} {p4 : Int32} {p5 : Int32} {r : Int32} {RI : gMI} (hF : f_M_fill S I J p0 p1 p2 p3 p4 p5 = some (r, RI)) : ga_Mi l y_M_fill prog_10_method_6_code 7 (Option.some Jvm.ClassFile.FieldType.int) rm_M_fill [.ref p0, .int p1, .int p2, .int p3, .int p4, .int p5] D T z L S I J r RI J := by
  refine Met.ofW (cc := prog_10_method_6_code) (maxL := 7) (ret := (Option.some Jvm.ClassFile.FieldType.int)) (by decide) rfl ?_
  intro p e s m args below meth c s₁ B hml hv
  obtain ⟨ha, hv⟩ := hv
  have hx := B.exec
  have hb := B.bytes
  have hr := B.returns
  have hts := atoms_spec (ws := .code y_M_fill prog_10_method_6_code 7 (Option.some Jvm.ClassFile.FieldType.int) :: ga_ws) B.pre
  have hown : s.vm.findClass "RankHouseModel" = some m.cls := findClass_of_methodNamed B.named
  have hlocks := B.notSynchronized
  have C : CallFix p m c prog_10_method_6_code 7 s args ga_ws "RankHouseModel" := ⟨hx, hb, hml, hown, fun w h => hts w (List.mem_cons_of_mem _ h)⟩
  have hw := ga_start hv
  have hl := lv_entry ([.ref p0, .int p1, .int p2, .int p3, .int p4, .int p5]) (n := 7) (Nat.le_of_ble_eq_true rfl)
  rw [show entryFrame m args 7 = entryFrame m ([.ref p0, .int p1, .int p2, .int p3, .int p4, .int p5] : List Value).toArray 7 by rw [ha], lg_entry_eq]
  generalize (lg_sl ([.ref p0, .int p1, .int p2, .int p3, .int p4, .int p5]) ++ List.replicate (7 - (lg_sl ([.ref p0, .int p1, .int p2, .int p3, .int p4, .int p5])).length) Slot.unset).toArray = ls at hl ⊢
  have hl : lv_has ls 7 [(0, .ref p0), (1, .int p1), (2, .int p2), (3, .int p3), (4, .int p4), (5, .int p5)] := hl
  have key : ∀ Q : State → Prop, (∀ (pc : Nat) (ls : Array Slot) (H : Heap) (locs : List Loc) (x : Int32) (I1 : gMI), (x, I1) = (r, RI) → decode prog_10_method_6_code pc = .ok (.ireturn, 1) → ga_W D T z L S I1 J s H locs → W p l e rm_M_fill s m args below meth c H locs 0 0 Q (F0 m pc ls [.int x])) → W p l e rm_M_fill s m args below meth c s.heap [] 0 0 Q (F0 m 0 ls []) := by
    intro Q hret
    rw [f_M_fill] at hF
    refine lv_aload_n hx hb d_M_fill_0 rfl (lv_at hl 0 rfl) ?_
    refine lv_iload_n hx hb d_M_fill_1 rfl (lv_at hl 1 rfl) ?_
    obtain ⟨x1, c2, hF⟩ := ob_ex hF
    refine ga_cSi (As := [.int p1]) C hw (c_M_isLogger l D T z L c2) gs_M_118 rfl hl.1 ⟨Nat.le_of_ble_eq_true rfl, Nat.le_of_ble_eq_true rfl, rfl, rfl, Nat.le_of_ble_eq_true rfl, Nat.le_of_ble_eq_true rfl⟩ (Nat.le_of_ble_eq_true rfl) rfl d_M_fill_2 (fun H locs hw => ?_)
    by_cases h3 : x1 = 0
    · rw [if_pos h3] at hF
      refine lv_if_ne (tgt := 12) hx hb d_M_fill_5 (by decide) (fun hn => absurd h3 hn) (fun _ => ?_)
      refine lv_iconst (v := 1) hx hb d_M_fill_8 (by decide) ?_
      refine lv_goto (tgt := 55) hx hb d_M_fill_9 (by decide) ?_
      exact m_M_fill_b55 hret C _ _ _ _ _ _ _ _ _ hF _ _ _ hl hw
    · rw [if_neg h3] at hF
      refine lv_if_ne (tgt := 12) hx hb d_M_fill_5 (by decide) (fun _ => ?_) (fun hp => absurd hp h3)
      refine lv_iload_n hx hb d_M_fill_12 rfl (lv_at hl 2 rfl) ?_
      by_cases h4 : p2 < 0
      · rw [if_pos h4] at hF
        refine lv_if_lt (tgt := 23) hx hb d_M_fill_13 (by decide) (fun _ => ?_) (fun hn => absurd h4 hn)
        exact m_M_fill_b23 hret C _ _ _ _ _ _ _ _ hF _ _ _ hl hw
      · rw [if_neg h4] at hF
        refine lv_if_lt (tgt := 23) hx hb d_M_fill_13 (by decide) (fun hp => absurd hp h4) (fun _ => ?_)
        refine lv_iload_n hx hb d_M_fill_16 rfl (lv_at hl 2 rfl) ?_
        refine lv_sipush (v := 500) hx hb d_M_fill_17 (by decide) ?_
        by_cases h5 : p2 ≤ (500 : Int32)
        · rw [if_pos h5] at hF
          refine lv_icmp_le (tgt := 27) hx hb d_M_fill_20 (by decide) (fun _ => ?_) (fun hn => absurd h5 hn)
          refine lv_aload_n hx hb d_M_fill_27 rfl (lv_at hl 0 rfl) ?_
          obtain ⟨t6, hF⟩ := gd_ex hF
          obtain ⟨r7, hr7, hF⟩ := ob_ex hF
          refine ga_getR C hw gf_M_7 t6 hr7 d_M_fill_28 ?_
          refine lv_iload_n hx hb d_M_fill_31 rfl (lv_at hl 1 rfl) ?_
          obtain ⟨t8, hF⟩ := gd_ex hF
          obtain ⟨b9, hF⟩ := gd_ex hF
          refine ga_zald C hw t8 b9 d_M_fill_32 ?_
          by_cases h10 : (I r7 p1.toNatClampNeg) = 0
          · rw [if_pos h10] at hF
            refine lv_if_ne (tgt := 50) hx hb d_M_fill_33 (by decide) (fun hn => absurd h10 hn) (fun _ => ?_)
            refine lv_aload_n hx hb d_M_fill_36 rfl (lv_at hl 0 rfl) ?_
            obtain ⟨r11, hr11, hF⟩ := ob_ex hF
            refine ga_getR C hw gf_M_13 t6 hr11 d_M_fill_37 ?_
            refine lv_iload_n hx hb d_M_fill_40 rfl (lv_at hl 1 rfl) ?_
            obtain ⟨t12, hF⟩ := gd_ex hF
            obtain ⟨b13, hF⟩ := gd_ex hF
            refine ga_iald C hw t12 b13 d_M_fill_41 ?_
            refine lv_iload_n hx hb d_M_fill_42 rfl (lv_at hl 2 rfl) ?_
            refine lv_iadd hx hb d_M_fill_43 ?_
            refine lv_sipush (v := 500) hx hb d_M_fill_44 (by decide) ?_
            by_cases h14 : ((I r11 p1.toNatClampNeg) + p2) ≤ (500 : Int32)
            · rw [if_pos h14] at hF
              refine lv_icmp_le (tgt := 54) hx hb d_M_fill_47 (by decide) (fun _ => ?_) (fun hn => absurd h14 hn)
              refine lv_iconst (v := 0) hx hb d_M_fill_54 (by decide) ?_
              exact m_M_fill_b55 hret C _ _ _ _ _ _ _ _ _ hF _ _ _ hl hw
            · rw [if_neg h14] at hF
              refine lv_icmp_le (tgt := 54) hx hb d_M_fill_47 (by decide) (fun hp => absurd hp h14) (fun _ => ?_)
              exact m_M_fill_b50 hret C _ _ _ _ _ _ _ _ hF _ _ _ hl hw
          · rw [if_neg h10] at hF
            refine lv_if_ne (tgt := 50) hx hb d_M_fill_33 (by decide) (fun _ => ?_) (fun hp => absurd hp h10)
            exact m_M_fill_b50 hret C _ _ _ _ _ _ _ _ hF _ _ _ hl hw
        · rw [if_neg h5] at hF
          refine lv_icmp_le (tgt := 27) hx hb d_M_fill_20 (by decide) (fun hp => absurd hp h5) (fun _ => ?_)
          exact m_M_fill_b23 hret C _ _ _ _ _ _ _ _ hF _ _ _ hl hw
  refine key _ (fun pc ls H locs x I1 he hd hw => ?_)
  · cases he
    exact W.iret hx hb hr (fun t ht _ => ⟨⟨_, (), rfl, rfl, ga_o hw ht⟩, hw.2.2.2.1.F ht⟩) hw.2.2.2.1.2.2 hd
set_option maxHeartbeats 4000000 in
set_option maxRecDepth 100000 in
theorem m_M_size_b33 {J : gMJ} {zz : Int32 × gMI} (hret : ∀ (pc : Nat) (ls : Array Slot) (H : Heap) (locs : List Loc) (x : Int32) (I1 : gMI), (x, I1) = zz → decode prog_10_method_7_code pc = .ok (.ireturn, 1) → ga_W D T z L S I1 J s H locs → W p l e rm_M_size s m args below meth c H locs 0 0 Q (F0 m pc ls [.int x])) (C : CallFix p m c prog_10_method_7_code 2 s args ga_ws "RankHouseModel") : ∀ (I : gMI) (s0 : Int32), f_M_size_b33 S J I s0 = some zz → ∀ (ls : Array Slot) (H : Heap) (locs : List Loc), lv_has ls 2 [] → ga_W D T z L S I J s H locs → W p l e rm_M_size s m args below meth c H locs 0 0 Q (F0 m 33 ls [.int s0]) := by
  intro I s0 hF ls H locs hl hw
  have hx := C.1
  have hb := C.2.1
  rw [f_M_size_b33] at hF
  exact hret _ _ _ _ _ _ (Option.some.inj hF) d_M_size_33 hw
set_option maxHeartbeats 4000000 in
set_option maxRecDepth 100000 in
theorem m_M_size_b13 {J : gMJ} {zz : Int32 × gMI} (hret : ∀ (pc : Nat) (ls : Array Slot) (H : Heap) (locs : List Loc) (x : Int32) (I1 : gMI), (x, I1) = zz → decode prog_10_method_7_code pc = .ok (.ireturn, 1) → ga_W D T z L S I1 J s H locs → W p l e rm_M_size s m args below meth c H locs 0 0 Q (F0 m pc ls [.int x])) (C : CallFix p m c prog_10_method_7_code 2 s args ga_ws "RankHouseModel") : ∀ (I : gMI) (s0 : Int32) (s1 : Nat) (l0 : Nat) (l1 : Int32), f_M_size_b13 S J I s0 s1 l0 l1 = some zz → ∀ (ls : Array Slot) (H : Heap) (locs : List Loc), lv_has ls 2 [(0, .ref l0), (1, .int l1)] → ga_W D T z L S I J s H locs → W p l e rm_M_size s m args below meth c H locs 0 0 Q (F0 m 13 ls [.int s0, .ref s1]) := by
  intro I s0 s1 l0 l1 hF ls H locs hl hw
  have hx := C.1
  have hb := C.2.1
  rw [f_M_size_b13] at hF
  obtain ⟨t1, hF⟩ := gd_ex hF
  obtain ⟨I2, eI2, hF⟩ := bnd_ex hF
  refine ga_putI C hw gp_M_114 t1 rfl rfl eI2 d_M_size_13 (fun H locs hw => ?_)
  refine lv_aload_n hx hb d_M_size_16 rfl (lv_at hl 0 rfl) ?_
  obtain ⟨t3, hF⟩ := gd_ex hF
  refine ga_getI C hw gf_M_114 t3 d_M_size_17 ?_
  by_cases h4 : (I2 l0 0) ≤ 0
  · rw [if_pos h4] at hF
    refine lv_if_le (tgt := 27) hx hb d_M_size_20 (by decide) (fun _ => ?_) (fun hn => absurd h4 hn)
    refine lv_aload_n hx hb d_M_size_27 rfl (lv_at hl 0 rfl) ?_
    obtain ⟨r5, hr5, hF⟩ := ob_ex hF
    refine ga_getR C hw gf_M_13 t3 hr5 d_M_size_28 ?_
    refine lv_iload_n hx hb d_M_size_31 rfl (lv_at hl 1 rfl) ?_
    obtain ⟨t6, hF⟩ := gd_ex hF
    obtain ⟨b7, hF⟩ := gd_ex hF
    refine ga_iald C hw t6 b7 d_M_size_32 ?_
    exact m_M_size_b33 hret C _ _ hF _ _ _ (lv_sub hl [] rfl) hw
  · rw [if_neg h4] at hF
    refine lv_if_le (tgt := 27) hx hb d_M_size_20 (by decide) (fun hp => absurd hp h4) (fun _ => ?_)
    refine lv_iconst (v := 0) hx hb d_M_size_23 (by decide) ?_
    refine lv_goto (tgt := 33) hx hb d_M_size_24 (by decide) ?_
    exact m_M_size_b33 hret C _ _ hF _ _ _ (lv_sub hl [] rfl) hw
set_option maxHeartbeats 4000000 in
set_option maxRecDepth 100000 in
theorem c_M_size (l : Launch) (D : va_G) (T : Nat → ClassId) (z : Nat) (L : List Nat) {S : gS} {I : gMI} {J : gMJ} {p0 : Nat} {p1 : Int32} {r : Int32} {RI : gMI} (hF : f_M_size S I J p0 p1 = some (r, RI)) : ga_Mi l y_M_size prog_10_method_7_code 2 (Option.some Jvm.ClassFile.FieldType.int) rm_M_size [.ref p0, .int p1] D T z L S I J r RI J := by
  refine Met.ofW (cc := prog_10_method_7_code) (maxL := 2) (ret := (Option.some Jvm.ClassFile.FieldType.int)) (by decide) rfl ?_
  intro p e s m args below meth c s₁ B hml hv
  obtain ⟨ha, hv⟩ := hv
  have hx := B.exec
  have hb := B.bytes
  have hr := B.returns
  have hts := atoms_spec (ws := .code y_M_size prog_10_method_7_code 2 (Option.some Jvm.ClassFile.FieldType.int) :: ga_ws) B.pre
  have hown : s.vm.findClass "RankHouseModel" = some m.cls := findClass_of_methodNamed B.named
  have hlocks := B.notSynchronized
  have C : CallFix p m c prog_10_method_7_code 2 s args ga_ws "RankHouseModel" := ⟨hx, hb, hml, hown, fun w h => hts w (List.mem_cons_of_mem _ h)⟩
  have hw := ga_start hv
  have hl := lv_entry ([.ref p0, .int p1]) (n := 2) (Nat.le_of_ble_eq_true rfl)
  rw [show entryFrame m args 2 = entryFrame m ([.ref p0, .int p1] : List Value).toArray 2 by rw [ha], lg_entry_eq]
  generalize (lg_sl ([.ref p0, .int p1]) ++ List.replicate (2 - (lg_sl ([.ref p0, .int p1])).length) Slot.unset).toArray = ls at hl ⊢
  have hl : lv_has ls 2 [(0, .ref p0), (1, .int p1)] := hl
  have key : ∀ Q : State → Prop, (∀ (pc : Nat) (ls : Array Slot) (H : Heap) (locs : List Loc) (x : Int32) (I1 : gMI), (x, I1) = (r, RI) → decode prog_10_method_7_code pc = .ok (.ireturn, 1) → ga_W D T z L S I1 J s H locs → W p l e rm_M_size s m args below meth c H locs 0 0 Q (F0 m pc ls [.int x])) → W p l e rm_M_size s m args below meth c s.heap [] 0 0 Q (F0 m 0 ls []) := by
    intro Q hret
    rw [f_M_size] at hF
    refine lv_aload_n hx hb d_M_size_0 rfl (lv_at hl 0 rfl) ?_
    refine lv_iload_n hx hb d_M_size_1 rfl (lv_at hl 1 rfl) ?_
    obtain ⟨x1, c2, hF⟩ := ob_ex hF
    refine ga_cSi (As := [.int p1]) C hw (c_M_isLogger l D T z L c2) gs_M_118 rfl hl.1 ⟨Nat.le_of_ble_eq_true rfl, Nat.le_of_ble_eq_true rfl, rfl, rfl, Nat.le_of_ble_eq_true rfl, Nat.le_of_ble_eq_true rfl⟩ (Nat.le_of_ble_eq_true rfl) rfl d_M_size_2 (fun H locs hw => ?_)
    by_cases h3 : x1 = 0
    · rw [if_pos h3] at hF
      refine lv_if_eq (tgt := 12) hx hb d_M_size_5 (by decide) (fun _ => ?_) (fun hn => absurd h3 hn)
      refine lv_iconst (v := 1) hx hb d_M_size_12 (by decide) ?_
      exact m_M_size_b13 hret C _ _ _ _ _ hF _ _ _ hl hw
    · rw [if_neg h3] at hF
      refine lv_if_eq (tgt := 12) hx hb d_M_size_5 (by decide) (fun hp => absurd hp h3) (fun _ => ?_)
      refine lv_iconst (v := 0) hx hb d_M_size_8 (by decide) ?_
      refine lv_goto (tgt := 13) hx hb d_M_size_9 (by decide) ?_
      exact m_M_size_b13 hret C _ _ _ _ _ hF _ _ _ hl hw
  refine key _ (fun pc ls H locs x I1 he hd hw => ?_)
  · cases he
    exact W.iret hx hb hr (fun t ht _ => ⟨⟨_, (), rfl, rfl, ga_o hw ht⟩, hw.2.2.2.1.F ht⟩) hw.2.2.2.1.2.2 hd
set_option maxHeartbeats 4000000 in
set_option maxRecDepth 100000 in
theorem m_M_countOf_b61 {I : gMI} {J : gMJ} {zz : Int32} (hret : ∀ (pc : Nat) (ls : Array Slot) (H : Heap) (locs : List Loc) (x : Int32), (x) = zz → decode prog_10_method_8_code pc = .ok (.ireturn, 1) → ga_W D T z L S I J s H locs → W p l e rm_M_countOf s m args below meth c H locs 0 0 Q (F0 m pc ls [.int x])) (C : CallFix p m c prog_10_method_8_code 10 s args ga_ws "RankHouseModel") (k6 : Nat → Int32 → Int32 → Int64 → Int64 → Int32 → Int32 → Option (Int32)) (hk6 : ∀ (l0 : Nat) (l1 : Int32) (l2 : Int32) (l3 : Int64) (l5 : Int64) (l7 : Int32) (l8 : Int32), k6 l0 l1 l2 l3 l5 l7 l8 = some zz → ∀ (ls : Array Slot) (H : Heap) (locs : List Loc), lv_has ls 10 [(0, .ref l0), (1, .int l1), (2, .int l2), (3, .long l3), (5, .long l5), (7, .int l7), (8, .int l8)] → ga_W D T z L S I J s H locs → W p l e rm_M_countOf s m args below meth c H locs 0 0 Q (F0 m 6 ls [])) : ∀ (s0 : Int32) (s1 : Int32) (l0 : Nat) (l1 : Int32) (l2 : Int32) (l3 : Int64) (l5 : Int64) (l8 : Int32), f_M_countOf_b61 S I J k6 s0 s1 l0 l1 l2 l3 l5 l8 = some zz → ∀ (ls : Array Slot) (H : Heap) (locs : List Loc), lv_has ls 10 [(0, .ref l0), (1, .int l1), (2, .int l2), (3, .long l3), (5, .long l5), (8, .int l8)] → ga_W D T z L S I J s H locs → W p l e rm_M_countOf s m args below meth c H locs 0 0 Q (F0 m 61 ls [.int s0, .int s1]) := by
  intro s0 s1 l0 l1 l2 l3 l5 l8 hF ls H locs hl hw
  have hx := C.1
  have hb := C.2.1
  rw [f_M_countOf_b61] at hF
  refine lv_iadd hx hb d_M_countOf_61 ?_
  refine lv_topi (fun v1 ev1 => ?_)
  replace hF := bnd_at hF ev1
  refine lv_istore hx hb d_M_countOf_62 hl (by decide) rfl (fun ls hl => ?_)
  have hl : lv_has ls 10 [(7, .int v1), (0, .ref l0), (1, .int l1), (2, .int l2), (3, .long l3), (5, .long l5), (8, .int l8)] := hl
  obtain ⟨v2, ev2, hF⟩ := bnd_ex hF
  refine lv_iinc (k := 6) (v := v2) hx hb d_M_countOf_64 hl rfl (by rw [ev2]; rfl) (by decide) rfl (fun ls hl => ?_)
  have hl : lv_has ls 10 [(8, .int v2), (7, .int v1), (0, .ref l0), (1, .int l1), (2, .int l2), (3, .long l3), (5, .long l5)] := hl
  refine lv_goto (tgt := 6) hx hb d_M_countOf_67 (by decide) ?_
  exact hk6 _ _ _ _ _ _ _ hF _ _ _ (lv_sub hl [2, 3, 4, 5, 6, 1, 0] rfl) hw
set_option maxHeartbeats 4000000 in
set_option maxRecDepth 100000 in
theorem m_M_countOf_b60 {I : gMI} {J : gMJ} {zz : Int32} (hret : ∀ (pc : Nat) (ls : Array Slot) (H : Heap) (locs : List Loc) (x : Int32), (x) = zz → decode prog_10_method_8_code pc = .ok (.ireturn, 1) → ga_W D T z L S I J s H locs → W p l e rm_M_countOf s m args below meth c H locs 0 0 Q (F0 m pc ls [.int x])) (C : CallFix p m c prog_10_method_8_code 10 s args ga_ws "RankHouseModel") (k6 : Nat → Int32 → Int32 → Int64 → Int64 → Int32 → Int32 → Option (Int32)) (hk6 : ∀ (l0 : Nat) (l1 : Int32) (l2 : Int32) (l3 : Int64) (l5 : Int64) (l7 : Int32) (l8 : Int32), k6 l0 l1 l2 l3 l5 l7 l8 = some zz → ∀ (ls : Array Slot) (H : Heap) (locs : List Loc), lv_has ls 10 [(0, .ref l0), (1, .int l1), (2, .int l2), (3, .long l3), (5, .long l5), (7, .int l7), (8, .int l8)] → ga_W D T z L S I J s H locs → W p l e rm_M_countOf s m args below meth c H locs 0 0 Q (F0 m 6 ls [])) : ∀ (s0 : Int32) (l0 : Nat) (l1 : Int32) (l2 : Int32) (l3 : Int64) (l5 : Int64) (l8 : Int32), f_M_countOf_b60 S I J k6 s0 l0 l1 l2 l3 l5 l8 = some zz → ∀ (ls : Array Slot) (H : Heap) (locs : List Loc), lv_has ls 10 [(0, .ref l0), (1, .int l1), (2, .int l2), (3, .long l3), (5, .long l5), (8, .int l8)] → ga_W D T z L S I J s H locs → W p l e rm_M_countOf s m args below meth c H locs 0 0 Q (F0 m 60 ls [.int s0]) := by
  intro s0 l0 l1 l2 l3 l5 l8 hF ls H locs hl hw
  have hx := C.1
  have hb := C.2.1
  rw [f_M_countOf_b60] at hF
  refine lv_iconst (v := 0) hx hb d_M_countOf_60 (by decide) ?_
  exact m_M_countOf_b61 hret C k6 hk6 _ _ _ _ _ _ _ _ hF _ _ _ hl hw
set_option maxHeartbeats 4000000 in
set_option maxRecDepth 100000 in
theorem m_M_countOf_b6 {I : gMI} {J : gMJ} {zz : Int32} (hret : ∀ (pc : Nat) (ls : Array Slot) (H : Heap) (locs : List Loc) (x : Int32), (x) = zz → decode prog_10_method_8_code pc = .ok (.ireturn, 1) → ga_W D T z L S I J s H locs → W p l e rm_M_countOf s m args below meth c H locs 0 0 Q (F0 m pc ls [.int x])) (C : CallFix p m c prog_10_method_8_code 10 s args ga_ws "RankHouseModel") : ∀ (n : Nat) (l0 : Nat) (l1 : Int32) (l2 : Int32) (l3 : Int64) (l5 : Int64) (l7 : Int32) (l8 : Int32), f_M_countOf_b6 S I J n l0 l1 l2 l3 l5 l7 l8 = some zz → ∀ (ls : Array Slot) (H : Heap) (locs : List Loc), lv_has ls 10 [(0, .ref l0), (1, .int l1), (2, .int l2), (3, .long l3), (5, .long l5), (7, .int l7), (8, .int l8)] → ga_W D T z L S I J s H locs → W p l e rm_M_countOf s m args below meth c H locs 0 0 Q (F0 m 6 ls []) := by
  intro n
  induction n with
  | zero =>
    intro l0 l1 l2 l3 l5 l7 l8 hF ls H locs hl hw
    rw [f_M_countOf_b6] at hF
    cases hF
  | succ n ih =>
    intro l0 l1 l2 l3 l5 l7 l8 hF ls H locs hl hw
    have hx := C.1
    have hb := C.2.1
    rw [f_M_countOf_b6] at hF
    refine lv_iload hx hb d_M_countOf_6 (lv_at hl 6 rfl) ?_
    refine lv_aload_n hx hb d_M_countOf_8 rfl (lv_at hl 0 rfl) ?_
    obtain ⟨t1, hF⟩ := gd_ex hF
    obtain ⟨r2, hr2, hF⟩ := ob_ex hF
    refine ga_getR C hw gf_M_56 t1 hr2 d_M_countOf_9 ?_
    refine lv_bipush (v := 8) hx hb d_M_countOf_12 (by decide) ?_
    refine lv_iload_n hx hb d_M_countOf_14 rfl (lv_at hl 2 rfl) ?_
    refine lv_imul hx hb d_M_countOf_15 ?_
    refine lv_iload_n hx hb d_M_countOf_16 rfl (lv_at hl 1 rfl) ?_
    refine lv_iadd hx hb d_M_countOf_17 ?_
    obtain ⟨t3, hF⟩ := gd_ex hF
    obtain ⟨b4, hF⟩ := gd_ex hF
    refine ga_iald C hw t3 b4 d_M_countOf_18 ?_
    by_cases h5 : (I r2 (((8 : Int32) * l2) + l1).toNatClampNeg) ≤ l8
    · rw [if_pos h5] at hF
      refine lv_icmp_ge (tgt := 70) hx hb d_M_countOf_19 (by decide) (fun _ => ?_) (fun hn => absurd h5 hn)
      refine lv_iload hx hb d_M_countOf_70 (lv_at hl 5 rfl) ?_
      exact hret _ _ _ _ _ (Option.some.inj hF) d_M_countOf_72 hw
    · rw [if_neg h5] at hF
      refine lv_icmp_ge (tgt := 70) hx hb d_M_countOf_19 (by decide) (fun hp => absurd hp h5) (fun _ => ?_)
      refine lv_aload_n hx hb d_M_countOf_22 rfl (lv_at hl 0 rfl) ?_
      obtain ⟨r6, hr6, hF⟩ := ob_ex hF
      refine ga_getR C hw gf_M_17 t1 hr6 d_M_countOf_23 ?_
      refine lv_sipush (v := 500) hx hb d_M_countOf_26 (by decide) ?_
      refine lv_iload_n hx hb d_M_countOf_29 rfl (lv_at hl 1 rfl) ?_
      refine lv_imul hx hb d_M_countOf_30 ?_
      refine lv_iload hx hb d_M_countOf_31 (lv_at hl 6 rfl) ?_
      refine lv_iadd hx hb d_M_countOf_33 ?_
      obtain ⟨t7, hF⟩ := gd_ex hF
      obtain ⟨b8, hF⟩ := gd_ex hF
      refine ga_iald C hw t7 b8 d_M_countOf_34 ?_
      refine lv_topi (fun v9 ev9 => ?_)
      replace hF := bnd_at hF ev9
      refine lv_istore hx hb d_M_countOf_35 hl (by decide) rfl (fun ls hl => ?_)
      have hl : lv_has ls 10 [(9, .int v9), (0, .ref l0), (1, .int l1), (2, .int l2), (3, .long l3), (5, .long l5), (7, .int l7), (8, .int l8)] := hl
      refine lv_iload hx hb d_M_countOf_37 (lv_at hl 6 rfl) ?_
      refine lv_iload hx hb d_M_countOf_39 (lv_at hl 0 rfl) ?_
      refine lv_i2l hx hb d_M_countOf_41 rfl ?_
      refine lv_lload_n hx hb d_M_countOf_42 rfl (lv_at hl 4 rfl) ?_
      refine W.lcmp hx hb d_M_countOf_43 ?_
      by_cases h10 : (lg_cmp v9.toInt64 l3) < 0
      · rw [if_pos h10] at hF
        refine lv_if_lt (tgt := 60) hx hb d_M_countOf_44 (by decide) (fun _ => ?_) (fun hn => absurd h10 hn)
        exact m_M_countOf_b60 hret C _ ih _ _ _ _ _ _ _ hF _ _ _ (lv_sub hl [1, 2, 3, 4, 5, 7] rfl) hw
      · rw [if_neg h10] at hF
        refine lv_if_lt (tgt := 60) hx hb d_M_countOf_44 (by decide) (fun hp => absurd hp h10) (fun _ => ?_)
        refine lv_iload hx hb d_M_countOf_47 (lv_at hl 0 rfl) ?_
        refine lv_i2l hx hb d_M_countOf_49 rfl ?_
        refine lv_lload hx hb d_M_countOf_50 (lv_at hl 5 rfl) ?_
        refine W.lcmp hx hb d_M_countOf_52 ?_
        by_cases h11 : 0 < (lg_cmp v9.toInt64 l5)
        · rw [if_pos h11] at hF
          refine lv_if_gt (tgt := 60) hx hb d_M_countOf_53 (by decide) (fun _ => ?_) (fun hn => absurd h11 hn)
          exact m_M_countOf_b60 hret C _ ih _ _ _ _ _ _ _ hF _ _ _ (lv_sub hl [1, 2, 3, 4, 5, 7] rfl) hw
        · rw [if_neg h11] at hF
          refine lv_if_gt (tgt := 60) hx hb d_M_countOf_53 (by decide) (fun hp => absurd hp h11) (fun _ => ?_)
          refine lv_iconst (v := 1) hx hb d_M_countOf_56 (by decide) ?_
          refine lv_goto (tgt := 61) hx hb d_M_countOf_57 (by decide) ?_
          exact m_M_countOf_b61 hret C _ ih _ _ _ _ _ _ _ _ hF _ _ _ (lv_sub hl [1, 2, 3, 4, 5, 7] rfl) hw
set_option maxHeartbeats 4000000 in
set_option maxRecDepth 100000 in
theorem c_M_countOf (l : Launch) (D : va_G) (T : Nat → ClassId) (z : Nat) (L : List Nat) {S : gS} {I : gMI} {J : gMJ} {p0 : Nat} {p1 : Int32} {p2 : Int32} {p3 : Int64} {p5 : Int64} {r : Int32} (hF : f_M_countOf S I J p0 p1 p2 p3 p5 = some (r)) : ga_Mi l y_M_countOf prog_10_method_8_code 10 (Option.some Jvm.ClassFile.FieldType.int) rm_M_countOf [.ref p0, .int p1, .int p2, .long p3, .long p5] D T z L S I J r I J := by
  refine Met.ofW (cc := prog_10_method_8_code) (maxL := 10) (ret := (Option.some Jvm.ClassFile.FieldType.int)) (by decide) rfl ?_
  intro p e s m args below meth c s₁ B hml hv
  obtain ⟨ha, hv⟩ := hv
  have hx := B.exec
  have hb := B.bytes
  have hr := B.returns
  have hts := atoms_spec (ws := .code y_M_countOf prog_10_method_8_code 10 (Option.some Jvm.ClassFile.FieldType.int) :: ga_ws) B.pre
  have hown : s.vm.findClass "RankHouseModel" = some m.cls := findClass_of_methodNamed B.named
  have hlocks := B.notSynchronized
  have C : CallFix p m c prog_10_method_8_code 10 s args ga_ws "RankHouseModel" := ⟨hx, hb, hml, hown, fun w h => hts w (List.mem_cons_of_mem _ h)⟩
  have hw := ga_start hv
  have hl := lv_entry ([.ref p0, .int p1, .int p2, .long p3, .long p5]) (n := 10) (Nat.le_of_ble_eq_true rfl)
  rw [show entryFrame m args 10 = entryFrame m ([.ref p0, .int p1, .int p2, .long p3, .long p5] : List Value).toArray 10 by rw [ha], lg_entry_eq]
  generalize (lg_sl ([.ref p0, .int p1, .int p2, .long p3, .long p5]) ++ List.replicate (10 - (lg_sl ([.ref p0, .int p1, .int p2, .long p3, .long p5])).length) Slot.unset).toArray = ls at hl ⊢
  have hl : lv_has ls 10 [(0, .ref p0), (1, .int p1), (2, .int p2), (3, .long p3), (5, .long p5)] := hl
  have key : ∀ Q : State → Prop, (∀ (pc : Nat) (ls : Array Slot) (H : Heap) (locs : List Loc) (x : Int32), (x) = (r) → decode prog_10_method_8_code pc = .ok (.ireturn, 1) → ga_W D T z L S I J s H locs → W p l e rm_M_countOf s m args below meth c H locs 0 0 Q (F0 m pc ls [.int x])) → W p l e rm_M_countOf s m args below meth c s.heap [] 0 0 Q (F0 m 0 ls []) := by
    intro Q hret
    rw [f_M_countOf] at hF
    refine lv_iconst (v := 0) hx hb d_M_countOf_0 (by decide) ?_
    refine lv_istore hx hb d_M_countOf_1 hl (by decide) rfl (fun ls hl => ?_)
    have hl : lv_has ls 10 [(7, .int (0 : Int32)), (0, .ref p0), (1, .int p1), (2, .int p2), (3, .long p3), (5, .long p5)] := hl
    refine lv_iconst (v := 0) hx hb d_M_countOf_3 (by decide) ?_
    refine lv_istore hx hb d_M_countOf_4 hl (by decide) rfl (fun ls hl => ?_)
    have hl : lv_has ls 10 [(8, .int (0 : Int32)), (7, .int (0 : Int32)), (0, .ref p0), (1, .int p1), (2, .int p2), (3, .long p3), (5, .long p5)] := hl
    exact m_M_countOf_b6 hret C gFuel _ _ _ _ _ _ _ hF _ _ _ (lv_sub hl [2, 3, 4, 5, 6, 1, 0] rfl) hw
  refine key _ (fun pc ls H locs x he hd hw => ?_)
  · cases he
    exact W.iret hx hb hr (fun t ht _ => ⟨⟨_, (), rfl, rfl, ga_o hw ht⟩, hw.2.2.2.1.F ht⟩) hw.2.2.2.1.2.2 hd
set_option maxHeartbeats 4000000 in
set_option maxRecDepth 100000 in
theorem m_M_sumOf_b63 {I : gMI} {J : gMJ} {zz : Int64} (hret : ∀ (pc : Nat) (ls : Array Slot) (H : Heap) (locs : List Loc) (x : Int64), (x) = zz → decode prog_10_method_9_code pc = .ok (.lreturn, 1) → ga_W D T z L S I J s H locs → W p l e rm_M_sumOf s m args below meth c H locs 0 0 Q (F0 m pc ls [.long x])) (C : CallFix p m c prog_10_method_9_code 11 s args ga_ws "RankHouseModel") (k6 : Nat → Int32 → Int32 → Int64 → Int64 → Int64 → Int32 → Option (Int64)) (hk6 : ∀ (l0 : Nat) (l1 : Int32) (l2 : Int32) (l3 : Int64) (l5 : Int64) (l7 : Int64) (l9 : Int32), k6 l0 l1 l2 l3 l5 l7 l9 = some zz → ∀ (ls : Array Slot) (H : Heap) (locs : List Loc), lv_has ls 11 [(0, .ref l0), (1, .int l1), (2, .int l2), (3, .long l3), (5, .long l5), (7, .long l7), (9, .int l9)] → ga_W D T z L S I J s H locs → W p l e rm_M_sumOf s m args below meth c H locs 0 0 Q (F0 m 6 ls [])) : ∀ (s0 : Int64) (s1 : Int64) (l0 : Nat) (l1 : Int32) (l2 : Int32) (l3 : Int64) (l5 : Int64) (l9 : Int32), f_M_sumOf_b63 S I J k6 s0 s1 l0 l1 l2 l3 l5 l9 = some zz → ∀ (ls : Array Slot) (H : Heap) (locs : List Loc), lv_has ls 11 [(0, .ref l0), (1, .int l1), (2, .int l2), (3, .long l3), (5, .long l5), (9, .int l9)] → ga_W D T z L S I J s H locs → W p l e rm_M_sumOf s m args below meth c H locs 0 0 Q (F0 m 63 ls [.long s0, .long s1]) := by
  intro s0 s1 l0 l1 l2 l3 l5 l9 hF ls H locs hl hw
  have hx := C.1
  have hb := C.2.1
  rw [f_M_sumOf_b63] at hF
  refine lv_ladd hx hb d_M_sumOf_63 ?_
  refine lv_topl (fun v1 ev1 => ?_)
  replace hF := bnd_at hF ev1
  refine lv_lstore hx hb d_M_sumOf_64 hl (by decide) rfl (fun ls hl => ?_)
  have hl : lv_has ls 11 [(7, .long v1), (0, .ref l0), (1, .int l1), (2, .int l2), (3, .long l3), (5, .long l5), (9, .int l9)] := hl
  obtain ⟨v2, ev2, hF⟩ := bnd_ex hF
  refine lv_iinc (k := 6) (v := v2) hx hb d_M_sumOf_66 hl rfl (by rw [ev2]; rfl) (by decide) rfl (fun ls hl => ?_)
  have hl : lv_has ls 11 [(9, .int v2), (7, .long v1), (0, .ref l0), (1, .int l1), (2, .int l2), (3, .long l3), (5, .long l5)] := hl
  refine lv_goto (tgt := 6) hx hb d_M_sumOf_69 (by decide) ?_
  exact hk6 _ _ _ _ _ _ _ hF _ _ _ (lv_sub hl [2, 3, 4, 5, 6, 1, 0] rfl) hw
set_option maxHeartbeats 4000000 in
set_option maxRecDepth 100000 in
theorem m_M_sumOf_b62 {I : gMI} {J : gMJ} {zz : Int64} (hret : ∀ (pc : Nat) (ls : Array Slot) (H : Heap) (locs : List Loc) (x : Int64), (x) = zz → decode prog_10_method_9_code pc = .ok (.lreturn, 1) → ga_W D T z L S I J s H locs → W p l e rm_M_sumOf s m args below meth c H locs 0 0 Q (F0 m pc ls [.long x])) (C : CallFix p m c prog_10_method_9_code 11 s args ga_ws "RankHouseModel") (k6 : Nat → Int32 → Int32 → Int64 → Int64 → Int64 → Int32 → Option (Int64)) (hk6 : ∀ (l0 : Nat) (l1 : Int32) (l2 : Int32) (l3 : Int64) (l5 : Int64) (l7 : Int64) (l9 : Int32), k6 l0 l1 l2 l3 l5 l7 l9 = some zz → ∀ (ls : Array Slot) (H : Heap) (locs : List Loc), lv_has ls 11 [(0, .ref l0), (1, .int l1), (2, .int l2), (3, .long l3), (5, .long l5), (7, .long l7), (9, .int l9)] → ga_W D T z L S I J s H locs → W p l e rm_M_sumOf s m args below meth c H locs 0 0 Q (F0 m 6 ls [])) : ∀ (s0 : Int64) (l0 : Nat) (l1 : Int32) (l2 : Int32) (l3 : Int64) (l5 : Int64) (l9 : Int32), f_M_sumOf_b62 S I J k6 s0 l0 l1 l2 l3 l5 l9 = some zz → ∀ (ls : Array Slot) (H : Heap) (locs : List Loc), lv_has ls 11 [(0, .ref l0), (1, .int l1), (2, .int l2), (3, .long l3), (5, .long l5), (9, .int l9)] → ga_W D T z L S I J s H locs → W p l e rm_M_sumOf s m args below meth c H locs 0 0 Q (F0 m 62 ls [.long s0]) := by
  intro s0 l0 l1 l2 l3 l5 l9 hF ls H locs hl hw
  have hx := C.1
  have hb := C.2.1
  rw [f_M_sumOf_b62] at hF
  refine lv_lconst (v := 0) hx hb d_M_sumOf_62 (by decide) ?_
  exact m_M_sumOf_b63 hret C k6 hk6 _ _ _ _ _ _ _ _ hF _ _ _ hl hw
set_option maxHeartbeats 4000000 in
set_option maxRecDepth 100000 in
theorem m_M_sumOf_b6 {I : gMI} {J : gMJ} {zz : Int64} (hret : ∀ (pc : Nat) (ls : Array Slot) (H : Heap) (locs : List Loc) (x : Int64), (x) = zz → decode prog_10_method_9_code pc = .ok (.lreturn, 1) → ga_W D T z L S I J s H locs → W p l e rm_M_sumOf s m args below meth c H locs 0 0 Q (F0 m pc ls [.long x])) (C : CallFix p m c prog_10_method_9_code 11 s args ga_ws "RankHouseModel") : ∀ (n : Nat) (l0 : Nat) (l1 : Int32) (l2 : Int32) (l3 : Int64) (l5 : Int64) (l7 : Int64) (l9 : Int32), f_M_sumOf_b6 S I J n l0 l1 l2 l3 l5 l7 l9 = some zz → ∀ (ls : Array Slot) (H : Heap) (locs : List Loc), lv_has ls 11 [(0, .ref l0), (1, .int l1), (2, .int l2), (3, .long l3), (5, .long l5), (7, .long l7), (9, .int l9)] → ga_W D T z L S I J s H locs → W p l e rm_M_sumOf s m args below meth c H locs 0 0 Q (F0 m 6 ls []) := by
  intro n
  induction n with
  | zero =>
    intro l0 l1 l2 l3 l5 l7 l9 hF ls H locs hl hw
    rw [f_M_sumOf_b6] at hF
    cases hF
  | succ n ih =>
    intro l0 l1 l2 l3 l5 l7 l9 hF ls H locs hl hw
    have hx := C.1
    have hb := C.2.1
    rw [f_M_sumOf_b6] at hF
    refine lv_iload hx hb d_M_sumOf_6 (lv_at hl 6 rfl) ?_
    refine lv_aload_n hx hb d_M_sumOf_8 rfl (lv_at hl 0 rfl) ?_
    obtain ⟨t1, hF⟩ := gd_ex hF
    obtain ⟨r2, hr2, hF⟩ := ob_ex hF
    refine ga_getR C hw gf_M_56 t1 hr2 d_M_sumOf_9 ?_
    refine lv_bipush (v := 8) hx hb d_M_sumOf_12 (by decide) ?_
    refine lv_iload_n hx hb d_M_sumOf_14 rfl (lv_at hl 2 rfl) ?_
    refine lv_imul hx hb d_M_sumOf_15 ?_
    refine lv_iload_n hx hb d_M_sumOf_16 rfl (lv_at hl 1 rfl) ?_
    refine lv_iadd hx hb d_M_sumOf_17 ?_
    obtain ⟨t3, hF⟩ := gd_ex hF
    obtain ⟨b4, hF⟩ := gd_ex hF
    refine ga_iald C hw t3 b4 d_M_sumOf_18 ?_
    by_cases h5 : (I r2 (((8 : Int32) * l2) + l1).toNatClampNeg) ≤ l9
    · rw [if_pos h5] at hF
      refine lv_icmp_ge (tgt := 72) hx hb d_M_sumOf_19 (by decide) (fun _ => ?_) (fun hn => absurd h5 hn)
      refine lv_lload hx hb d_M_sumOf_72 (lv_at hl 5 rfl) ?_
      exact hret _ _ _ _ _ (Option.some.inj hF) d_M_sumOf_74 hw
    · rw [if_neg h5] at hF
      refine lv_icmp_ge (tgt := 72) hx hb d_M_sumOf_19 (by decide) (fun hp => absurd hp h5) (fun _ => ?_)
      refine lv_aload_n hx hb d_M_sumOf_22 rfl (lv_at hl 0 rfl) ?_
      obtain ⟨r6, hr6, hF⟩ := ob_ex hF
      refine ga_getR C hw gf_M_17 t1 hr6 d_M_sumOf_23 ?_
      refine lv_sipush (v := 500) hx hb d_M_sumOf_26 (by decide) ?_
      refine lv_iload_n hx hb d_M_sumOf_29 rfl (lv_at hl 1 rfl) ?_
      refine lv_imul hx hb d_M_sumOf_30 ?_
      refine lv_iload hx hb d_M_sumOf_31 (lv_at hl 6 rfl) ?_
      refine lv_iadd hx hb d_M_sumOf_33 ?_
      obtain ⟨t7, hF⟩ := gd_ex hF
      obtain ⟨b8, hF⟩ := gd_ex hF
      refine ga_iald C hw t7 b8 d_M_sumOf_34 ?_
      refine lv_topi (fun v9 ev9 => ?_)
      replace hF := bnd_at hF ev9
      refine lv_istore hx hb d_M_sumOf_35 hl (by decide) rfl (fun ls hl => ?_)
      have hl : lv_has ls 11 [(10, .int v9), (0, .ref l0), (1, .int l1), (2, .int l2), (3, .long l3), (5, .long l5), (7, .long l7), (9, .int l9)] := hl
      refine lv_lload hx hb d_M_sumOf_37 (lv_at hl 6 rfl) ?_
      refine lv_iload hx hb d_M_sumOf_39 (lv_at hl 0 rfl) ?_
      refine lv_i2l hx hb d_M_sumOf_41 rfl ?_
      refine lv_lload_n hx hb d_M_sumOf_42 rfl (lv_at hl 4 rfl) ?_
      refine W.lcmp hx hb d_M_sumOf_43 ?_
      by_cases h10 : (lg_cmp v9.toInt64 l3) < 0
      · rw [if_pos h10] at hF
        refine lv_if_lt (tgt := 62) hx hb d_M_sumOf_44 (by decide) (fun _ => ?_) (fun hn => absurd h10 hn)
        exact m_M_sumOf_b62 hret C _ ih _ _ _ _ _ _ _ hF _ _ _ (lv_sub hl [1, 2, 3, 4, 5, 7] rfl) hw
      · rw [if_neg h10] at hF
        refine lv_if_lt (tgt := 62) hx hb d_M_sumOf_44 (by decide) (fun hp => absurd hp h10) (fun _ => ?_)
        refine lv_iload hx hb d_M_sumOf_47 (lv_at hl 0 rfl) ?_
        refine lv_i2l hx hb d_M_sumOf_49 rfl ?_
        refine lv_lload hx hb d_M_sumOf_50 (lv_at hl 5 rfl) ?_
        refine W.lcmp hx hb d_M_sumOf_52 ?_
        by_cases h11 : 0 < (lg_cmp v9.toInt64 l5)
        · rw [if_pos h11] at hF
          refine lv_if_gt (tgt := 62) hx hb d_M_sumOf_53 (by decide) (fun _ => ?_) (fun hn => absurd h11 hn)
          exact m_M_sumOf_b62 hret C _ ih _ _ _ _ _ _ _ hF _ _ _ (lv_sub hl [1, 2, 3, 4, 5, 7] rfl) hw
        · rw [if_neg h11] at hF
          refine lv_if_gt (tgt := 62) hx hb d_M_sumOf_53 (by decide) (fun hp => absurd hp h11) (fun _ => ?_)
          refine lv_iload hx hb d_M_sumOf_56 (lv_at hl 0 rfl) ?_
          refine lv_i2l hx hb d_M_sumOf_58 rfl ?_
          refine lv_goto (tgt := 63) hx hb d_M_sumOf_59 (by decide) ?_
          exact m_M_sumOf_b63 hret C _ ih _ _ _ _ _ _ _ _ hF _ _ _ (lv_sub hl [1, 2, 3, 4, 5, 7] rfl) hw
set_option maxHeartbeats 4000000 in
set_option maxRecDepth 100000 in
theorem c_M_sumOf (l : Launch) (D : va_G) (T : Nat → ClassId) (z : Nat) (L : List Nat) {S : gS} {I : gMI} {J : gMJ} {p0 : Nat} {p1 : Int32} {p2 : Int32} {p3 : Int64} {p5 : Int64} {r : Int64} (hF : f_M_sumOf S I J p0 p1 p2 p3 p5 = some (r)) : ga_Ml l y_M_sumOf prog_10_method_9_code 11 (Option.some Jvm.ClassFile.FieldType.long) rm_M_sumOf [.ref p0, .int p1, .int p2, .long p3, .long p5] D T z L S I J r I J := by
  refine Met.ofW (cc := prog_10_method_9_code) (maxL := 11) (ret := (Option.some Jvm.ClassFile.FieldType.long)) (by decide) rfl ?_
  intro p e s m args below meth c s₁ B hml hv
  obtain ⟨ha, hv⟩ := hv
  have hx := B.exec
  have hb := B.bytes
  have hr := B.returns
  have hts := atoms_spec (ws := .code y_M_sumOf prog_10_method_9_code 11 (Option.some Jvm.ClassFile.FieldType.long) :: ga_ws) B.pre
  have hown : s.vm.findClass "RankHouseModel" = some m.cls := findClass_of_methodNamed B.named
  have hlocks := B.notSynchronized
  have C : CallFix p m c prog_10_method_9_code 11 s args ga_ws "RankHouseModel" := ⟨hx, hb, hml, hown, fun w h => hts w (List.mem_cons_of_mem _ h)⟩
  have hw := ga_start hv
  have hl := lv_entry ([.ref p0, .int p1, .int p2, .long p3, .long p5]) (n := 11) (Nat.le_of_ble_eq_true rfl)
  rw [show entryFrame m args 11 = entryFrame m ([.ref p0, .int p1, .int p2, .long p3, .long p5] : List Value).toArray 11 by rw [ha], lg_entry_eq]
  generalize (lg_sl ([.ref p0, .int p1, .int p2, .long p3, .long p5]) ++ List.replicate (11 - (lg_sl ([.ref p0, .int p1, .int p2, .long p3, .long p5])).length) Slot.unset).toArray = ls at hl ⊢
  have hl : lv_has ls 11 [(0, .ref p0), (1, .int p1), (2, .int p2), (3, .long p3), (5, .long p5)] := hl
  have key : ∀ Q : State → Prop, (∀ (pc : Nat) (ls : Array Slot) (H : Heap) (locs : List Loc) (x : Int64), (x) = (r) → decode prog_10_method_9_code pc = .ok (.lreturn, 1) → ga_W D T z L S I J s H locs → W p l e rm_M_sumOf s m args below meth c H locs 0 0 Q (F0 m pc ls [.long x])) → W p l e rm_M_sumOf s m args below meth c s.heap [] 0 0 Q (F0 m 0 ls []) := by
    intro Q hret
    rw [f_M_sumOf] at hF
    refine lv_lconst (v := 0) hx hb d_M_sumOf_0 (by decide) ?_
    refine lv_lstore hx hb d_M_sumOf_1 hl (by decide) rfl (fun ls hl => ?_)
    have hl : lv_has ls 11 [(7, .long (0 : Int64)), (0, .ref p0), (1, .int p1), (2, .int p2), (3, .long p3), (5, .long p5)] := hl
    refine lv_iconst (v := 0) hx hb d_M_sumOf_3 (by decide) ?_
    refine lv_istore hx hb d_M_sumOf_4 hl (by decide) rfl (fun ls hl => ?_)
    have hl : lv_has ls 11 [(9, .int (0 : Int32)), (7, .long (0 : Int64)), (0, .ref p0), (1, .int p1), (2, .int p2), (3, .long p3), (5, .long p5)] := hl
    exact m_M_sumOf_b6 hret C gFuel _ _ _ _ _ _ _ hF _ _ _ (lv_sub hl [2, 3, 4, 5, 6, 1, 0] rfl) hw
  refine key _ (fun pc ls H locs x he hd hw => ?_)
  · cases he
    exact W.lret hx hb hr (fun t ht _ => ⟨⟨_, (), rfl, rfl, ga_o hw ht⟩, hw.2.2.2.1.F ht⟩) hw.2.2.2.1.2.2 hd
set_option maxHeartbeats 4000000 in
set_option maxRecDepth 100000 in
theorem m_M_leastOf_b88 {I : gMI} {J : gMJ} {zz : Int32} (hret : ∀ (pc : Nat) (ls : Array Slot) (H : Heap) (locs : List Loc) (x : Int32), (x) = zz → decode prog_10_method_10_code pc = .ok (.ireturn, 1) → ga_W D T z L S I J s H locs → W p l e rm_M_leastOf s m args below meth c H locs 0 0 Q (F0 m pc ls [.int x])) (C : CallFix p m c prog_10_method_10_code 9 s args ga_ws "RankHouseModel") (k6 : Nat → Int32 → Int32 → Int32 → Int32 → Int32 → Int32 → Int32 → Option (Int32)) (hk6 : ∀ (l0 : Nat) (l1 : Int32) (l2 : Int32) (l3 : Int32) (l4 : Int32) (l5 : Int32) (l6 : Int32) (l7 : Int32), k6 l0 l1 l2 l3 l4 l5 l6 l7 = some zz → ∀ (ls : Array Slot) (H : Heap) (locs : List Loc), lv_has ls 9 [(0, .ref l0), (1, .int l1), (2, .int l2), (3, .int l3), (4, .int l4), (5, .int l5), (6, .int l6), (7, .int l7)] → ga_W D T z L S I J s H locs → W p l e rm_M_leastOf s m args below meth c H locs 0 0 Q (F0 m 6 ls [])) : ∀ (l0 : Nat) (l1 : Int32) (l2 : Int32) (l3 : Int32) (l4 : Int32) (l5 : Int32) (l6 : Int32) (l7 : Int32), f_M_leastOf_b88 S I J k6 l0 l1 l2 l3 l4 l5 l6 l7 = some zz → ∀ (ls : Array Slot) (H : Heap) (locs : List Loc), lv_has ls 9 [(0, .ref l0), (1, .int l1), (2, .int l2), (3, .int l3), (4, .int l4), (5, .int l5), (6, .int l6), (7, .int l7)] → ga_W D T z L S I J s H locs → W p l e rm_M_leastOf s m args below meth c H locs 0 0 Q (F0 m 88 ls []) := by
  intro l0 l1 l2 l3 l4 l5 l6 l7 hF ls H locs hl hw
  have hx := C.1
  have hb := C.2.1
  rw [f_M_leastOf_b88] at hF
  obtain ⟨v1, ev1, hF⟩ := bnd_ex hF
  refine lv_iinc (k := 7) (v := v1) hx hb d_M_leastOf_88 hl rfl (by rw [ev1]; rfl) (by decide) rfl (fun ls hl => ?_)
  have hl : lv_has ls 9 [(7, .int v1), (0, .ref l0), (1, .int l1), (2, .int l2), (3, .int l3), (4, .int l4), (5, .int l5), (6, .int l6)] := hl
  refine lv_goto (tgt := 6) hx hb d_M_leastOf_91 (by decide) ?_
  exact hk6 _ _ _ _ _ _ _ _ hF _ _ _ (lv_sub hl [1, 2, 3, 4, 5, 6, 7, 0] rfl) hw
set_option maxHeartbeats 4000000 in
set_option maxRecDepth 100000 in
theorem m_M_leastOf_b6 {I : gMI} {J : gMJ} {zz : Int32} (hret : ∀ (pc : Nat) (ls : Array Slot) (H : Heap) (locs : List Loc) (x : Int32), (x) = zz → decode prog_10_method_10_code pc = .ok (.ireturn, 1) → ga_W D T z L S I J s H locs → W p l e rm_M_leastOf s m args below meth c H locs 0 0 Q (F0 m pc ls [.int x])) (C : CallFix p m c prog_10_method_10_code 9 s args ga_ws "RankHouseModel") : ∀ (n : Nat) (l0 : Nat) (l1 : Int32) (l2 : Int32) (l3 : Int32) (l4 : Int32) (l5 : Int32) (l6 : Int32) (l7 : Int32), f_M_leastOf_b6 S I J n l0 l1 l2 l3 l4 l5 l6 l7 = some zz → ∀ (ls : Array Slot) (H : Heap) (locs : List Loc), lv_has ls 9 [(0, .ref l0), (1, .int l1), (2, .int l2), (3, .int l3), (4, .int l4), (5, .int l5), (6, .int l6), (7, .int l7)] → ga_W D T z L S I J s H locs → W p l e rm_M_leastOf s m args below meth c H locs 0 0 Q (F0 m 6 ls []) := by
  intro n
  induction n with
  | zero =>
    intro l0 l1 l2 l3 l4 l5 l6 l7 hF ls H locs hl hw
    rw [f_M_leastOf_b6] at hF
    cases hF
  | succ n ih =>
    intro l0 l1 l2 l3 l4 l5 l6 l7 hF ls H locs hl hw
    have hx := C.1
    have hb := C.2.1
    rw [f_M_leastOf_b6] at hF
    refine lv_iload hx hb d_M_leastOf_6 (lv_at hl 7 rfl) ?_
    refine lv_aload_n hx hb d_M_leastOf_8 rfl (lv_at hl 0 rfl) ?_
    obtain ⟨t1, hF⟩ := gd_ex hF
    obtain ⟨r2, hr2, hF⟩ := ob_ex hF
    refine ga_getR C hw gf_M_56 t1 hr2 d_M_leastOf_9 ?_
    refine lv_bipush (v := 8) hx hb d_M_leastOf_12 (by decide) ?_
    refine lv_iload_n hx hb d_M_leastOf_14 rfl (lv_at hl 2 rfl) ?_
    refine lv_imul hx hb d_M_leastOf_15 ?_
    refine lv_iload_n hx hb d_M_leastOf_16 rfl (lv_at hl 1 rfl) ?_
    refine lv_iadd hx hb d_M_leastOf_17 ?_
    obtain ⟨t3, hF⟩ := gd_ex hF
    obtain ⟨b4, hF⟩ := gd_ex hF
    refine ga_iald C hw t3 b4 d_M_leastOf_18 ?_
    by_cases h5 : (I r2 (((8 : Int32) * l2) + l1).toNatClampNeg) ≤ l7
    · rw [if_pos h5] at hF
      refine lv_icmp_ge (tgt := 94) hx hb d_M_leastOf_19 (by decide) (fun _ => ?_) (fun hn => absurd h5 hn)
      refine lv_iload hx hb d_M_leastOf_94 (lv_at hl 6 rfl) ?_
      exact hret _ _ _ _ _ (Option.some.inj hF) d_M_leastOf_96 hw
    · rw [if_neg h5] at hF
      refine lv_icmp_ge (tgt := 94) hx hb d_M_leastOf_19 (by decide) (fun hp => absurd hp h5) (fun _ => ?_)
      refine lv_aload_n hx hb d_M_leastOf_22 rfl (lv_at hl 0 rfl) ?_
      obtain ⟨r6, hr6, hF⟩ := ob_ex hF
      refine ga_getR C hw gf_M_17 t1 hr6 d_M_leastOf_23 ?_
      refine lv_sipush (v := 500) hx hb d_M_leastOf_26 (by decide) ?_
      refine lv_iload_n hx hb d_M_leastOf_29 rfl (lv_at hl 1 rfl) ?_
      refine lv_imul hx hb d_M_leastOf_30 ?_
      refine lv_iload hx hb d_M_leastOf_31 (lv_at hl 7 rfl) ?_
      refine lv_iadd hx hb d_M_leastOf_33 ?_
      obtain ⟨t7, hF⟩ := gd_ex hF
      obtain ⟨b8, hF⟩ := gd_ex hF
      refine ga_iald C hw t7 b8 d_M_leastOf_34 ?_
      refine lv_topi (fun v9 ev9 => ?_)
      replace hF := bnd_at hF ev9
      refine lv_istore hx hb d_M_leastOf_35 hl (by decide) rfl (fun ls hl => ?_)
      have hl : lv_has ls 9 [(8, .int v9), (0, .ref l0), (1, .int l1), (2, .int l2), (3, .int l3), (4, .int l4), (5, .int l5), (6, .int l6), (7, .int l7)] := hl
      refine lv_iload hx hb d_M_leastOf_37 (lv_at hl 0 rfl) ?_
      refine lv_iload_n hx hb d_M_leastOf_39 rfl (lv_at hl 4 rfl) ?_
      by_cases h10 : v9 < l3
      · rw [if_pos h10] at hF
        refine lv_icmp_lt (tgt := 88) hx hb d_M_leastOf_40 (by decide) (fun _ => ?_) (fun hn => absurd h10 hn)
        exact m_M_leastOf_b88 hret C _ ih _ _ _ _ _ _ _ _ hF _ _ _ (lv_sub hl [1, 2, 3, 4, 5, 6, 7, 8] rfl) hw
      · rw [if_neg h10] at hF
        refine lv_icmp_lt (tgt := 88) hx hb d_M_leastOf_40 (by decide) (fun hp => absurd hp h10) (fun _ => ?_)
        refine lv_iload hx hb d_M_leastOf_43 (lv_at hl 0 rfl) ?_
        refine lv_iload hx hb d_M_leastOf_45 (lv_at hl 5 rfl) ?_
        by_cases h11 : l4 < v9
        · rw [if_pos h11] at hF
          refine lv_icmp_gt (tgt := 88) hx hb d_M_leastOf_47 (by decide) (fun _ => ?_) (fun hn => absurd h11 hn)
          exact m_M_leastOf_b88 hret C _ ih _ _ _ _ _ _ _ _ hF _ _ _ (lv_sub hl [1, 2, 3, 4, 5, 6, 7, 8] rfl) hw
        · rw [if_neg h11] at hF
          refine lv_icmp_gt (tgt := 88) hx hb d_M_leastOf_47 (by decide) (fun hp => absurd hp h11) (fun _ => ?_)
          refine lv_aload_n hx hb d_M_leastOf_50 rfl (lv_at hl 1 rfl) ?_
          refine lv_iload_n hx hb d_M_leastOf_51 rfl (lv_at hl 2 rfl) ?_
          refine lv_iload_n hx hb d_M_leastOf_52 rfl (lv_at hl 3 rfl) ?_
          refine lv_iload_n hx hb d_M_leastOf_53 rfl (lv_at hl 4 rfl) ?_
          refine lv_i2l hx hb d_M_leastOf_54 rfl ?_
          refine lv_iload hx hb d_M_leastOf_55 (lv_at hl 0 rfl) ?_
          refine lv_i2l hx hb d_M_leastOf_57 rfl ?_
          refine lv_lconst (v := 1) hx hb d_M_leastOf_58 (by decide) ?_
          refine lv_lsub hx hb d_M_leastOf_59 ?_
          obtain ⟨x12, c13, hF⟩ := ob_ex hF
          refine ga_cVi (As := [.int l1, .int l2, .long l3.toInt64, .long (v9.toInt64 - (1 : Int64))]) C hw (c_M_countOf l D T z L c13) gy_M_123 t1 rfl hl.1 ⟨Nat.le_of_ble_eq_true rfl, Nat.le_of_ble_eq_true rfl, rfl, rfl, Nat.le_of_ble_eq_true rfl, Nat.le_of_ble_eq_true rfl⟩ (Nat.le_of_ble_eq_true rfl) rfl d_M_leastOf_60 (fun H locs hw => ?_)
          refine lv_iload hx hb d_M_leastOf_63 (lv_at hl 6 rfl) ?_
          by_cases h14 : l5 ≤ x12
          · rw [if_pos h14] at hF
            refine lv_icmp_ge (tgt := 88) hx hb d_M_leastOf_65 (by decide) (fun _ => ?_) (fun hn => absurd h14 hn)
            exact m_M_leastOf_b88 hret C _ ih _ _ _ _ _ _ _ _ hF _ _ _ (lv_sub hl [1, 2, 3, 4, 5, 6, 7, 8] rfl) hw
          · rw [if_neg h14] at hF
            refine lv_icmp_ge (tgt := 88) hx hb d_M_leastOf_65 (by decide) (fun hp => absurd hp h14) (fun _ => ?_)
            refine lv_aload_n hx hb d_M_leastOf_68 rfl (lv_at hl 1 rfl) ?_
            refine lv_iload_n hx hb d_M_leastOf_69 rfl (lv_at hl 2 rfl) ?_
            refine lv_iload_n hx hb d_M_leastOf_70 rfl (lv_at hl 3 rfl) ?_
            refine lv_iload_n hx hb d_M_leastOf_71 rfl (lv_at hl 4 rfl) ?_
            refine lv_i2l hx hb d_M_leastOf_72 rfl ?_
            refine lv_iload hx hb d_M_leastOf_73 (lv_at hl 0 rfl) ?_
            refine lv_i2l hx hb d_M_leastOf_75 rfl ?_
            obtain ⟨x15, c16, hF⟩ := ob_ex hF
            refine ga_cVi (As := [.int l1, .int l2, .long l3.toInt64, .long v9.toInt64]) C hw (c_M_countOf l D T z L c16) gy_M_123 t1 rfl hl.1 ⟨Nat.le_of_ble_eq_true rfl, Nat.le_of_ble_eq_true rfl, rfl, rfl, Nat.le_of_ble_eq_true rfl, Nat.le_of_ble_eq_true rfl⟩ (Nat.le_of_ble_eq_true rfl) rfl d_M_leastOf_76 (fun H locs hw => ?_)
            refine lv_iload hx hb d_M_leastOf_79 (lv_at hl 6 rfl) ?_
            by_cases h17 : x15 < l5
            · rw [if_pos h17] at hF
              refine lv_icmp_lt (tgt := 88) hx hb d_M_leastOf_81 (by decide) (fun _ => ?_) (fun hn => absurd h17 hn)
              exact m_M_leastOf_b88 hret C _ ih _ _ _ _ _ _ _ _ hF _ _ _ (lv_sub hl [1, 2, 3, 4, 5, 6, 7, 8] rfl) hw
            · rw [if_neg h17] at hF
              refine lv_icmp_lt (tgt := 88) hx hb d_M_leastOf_81 (by decide) (fun hp => absurd hp h17) (fun _ => ?_)
              refine lv_iload hx hb d_M_leastOf_84 (lv_at hl 0 rfl) ?_
              refine lv_istore hx hb d_M_leastOf_86 hl (by decide) rfl (fun ls hl => ?_)
              have hl : lv_has ls 9 [(6, .int v9), (8, .int v9), (0, .ref l0), (1, .int l1), (2, .int l2), (3, .int l3), (4, .int l4), (5, .int l5), (7, .int l7)] := hl
              exact m_M_leastOf_b88 hret C _ ih _ _ _ _ _ _ _ _ hF _ _ _ (lv_sub hl [2, 3, 4, 5, 6, 7, 0, 8] rfl) hw
set_option maxHeartbeats 4000000 in
set_option maxRecDepth 100000 in
theorem c_M_leastOf (l : Launch) (D : va_G) (T : Nat → ClassId) (z : Nat) (L : List Nat) {S : gS} {I : gMI} {J : gMJ} {p0 : Nat} {p1 : Int32} {p2 : Int32} {p3 : Int32} {p4 : Int32} {p5 : Int32} {r : Int32} (hF : f_M_leastOf S I J p0 p1 p2 p3 p4 p5 = some (r)) : ga_Mi l y_M_leastOf prog_10_method_10_code 9 (Option.some Jvm.ClassFile.FieldType.int) rm_M_leastOf [.ref p0, .int p1, .int p2, .int p3, .int p4, .int p5] D T z L S I J r I J := by
  refine Met.ofW (cc := prog_10_method_10_code) (maxL := 9) (ret := (Option.some Jvm.ClassFile.FieldType.int)) (by decide) rfl ?_
  intro p e s m args below meth c s₁ B hml hv
  obtain ⟨ha, hv⟩ := hv
  have hx := B.exec
  have hb := B.bytes
  have hr := B.returns
  have hts := atoms_spec (ws := .code y_M_leastOf prog_10_method_10_code 9 (Option.some Jvm.ClassFile.FieldType.int) :: ga_ws) B.pre
  have hown : s.vm.findClass "RankHouseModel" = some m.cls := findClass_of_methodNamed B.named
  have hlocks := B.notSynchronized
  have C : CallFix p m c prog_10_method_10_code 9 s args ga_ws "RankHouseModel" := ⟨hx, hb, hml, hown, fun w h => hts w (List.mem_cons_of_mem _ h)⟩
  have hw := ga_start hv
  have hl := lv_entry ([.ref p0, .int p1, .int p2, .int p3, .int p4, .int p5]) (n := 9) (Nat.le_of_ble_eq_true rfl)
  rw [show entryFrame m args 9 = entryFrame m ([.ref p0, .int p1, .int p2, .int p3, .int p4, .int p5] : List Value).toArray 9 by rw [ha], lg_entry_eq]
  generalize (lg_sl ([.ref p0, .int p1, .int p2, .int p3, .int p4, .int p5]) ++ List.replicate (9 - (lg_sl ([.ref p0, .int p1, .int p2, .int p3, .int p4, .int p5])).length) Slot.unset).toArray = ls at hl ⊢
  have hl : lv_has ls 9 [(0, .ref p0), (1, .int p1), (2, .int p2), (3, .int p3), (4, .int p4), (5, .int p5)] := hl
  have key : ∀ Q : State → Prop, (∀ (pc : Nat) (ls : Array Slot) (H : Heap) (locs : List Loc) (x : Int32), (x) = (r) → decode prog_10_method_10_code pc = .ok (.ireturn, 1) → ga_W D T z L S I J s H locs → W p l e rm_M_leastOf s m args below meth c H locs 0 0 Q (F0 m pc ls [.int x])) → W p l e rm_M_leastOf s m args below meth c s.heap [] 0 0 Q (F0 m 0 ls []) := by
    intro Q hret
    rw [f_M_leastOf] at hF
    refine lv_iconst (v := 0) hx hb d_M_leastOf_0 (by decide) ?_
    refine lv_istore hx hb d_M_leastOf_1 hl (by decide) rfl (fun ls hl => ?_)
    have hl : lv_has ls 9 [(6, .int (0 : Int32)), (0, .ref p0), (1, .int p1), (2, .int p2), (3, .int p3), (4, .int p4), (5, .int p5)] := hl
    refine lv_iconst (v := 0) hx hb d_M_leastOf_3 (by decide) ?_
    refine lv_istore hx hb d_M_leastOf_4 hl (by decide) rfl (fun ls hl => ?_)
    have hl : lv_has ls 9 [(7, .int (0 : Int32)), (6, .int (0 : Int32)), (0, .ref p0), (1, .int p1), (2, .int p2), (3, .int p3), (4, .int p4), (5, .int p5)] := hl
    exact m_M_leastOf_b6 hret C gFuel _ _ _ _ _ _ _ _ hF _ _ _ (lv_sub hl [2, 3, 4, 5, 6, 7, 1, 0] rfl) hw
  refine key _ (fun pc ls H locs x he hd hw => ?_)
  · cases he
    exact W.iret hx hb hr (fun t ht _ => ⟨⟨_, (), rfl, rfl, ga_o hw ht⟩, hw.2.2.2.1.F ht⟩) hw.2.2.2.1.2.2 hd
set_option maxHeartbeats 4000000 in
set_option maxRecDepth 100000 in
theorem m_M_send_b138 {zz : gMI × gMJ} (hret : ∀ (pc : Nat) (ls : Array Slot) (H : Heap) (locs : List Loc) (I1 : gMI) (J1 : gMJ), (I1, J1) = zz → decode prog_10_method_11_code pc = .ok (.return_, 1) → ga_W D T z L S I1 J1 s H locs → W p l e rm_M_send s m args below meth c H locs 0 0 Q (F0 m pc ls [])) (C : CallFix p m c prog_10_method_11_code 9 s args ga_ws "RankHouseModel") (k97 : gMI → gMJ → Nat → Int32 → Option (gMI × gMJ)) (hk97 : ∀ (I : gMI) (J : gMJ) (l0 : Nat) (l8 : Int32), k97 I J l0 l8 = some zz → ∀ (ls : Array Slot) (H : Heap) (locs : List Loc), lv_has ls 9 [(0, .ref l0), (8, .int l8)] → ga_W D T z L S I J s H locs → W p l e rm_M_send s m args below meth c H locs 0 0 Q (F0 m 97 ls [])) : ∀ (I : gMI) (J : gMJ) (s0 : Int32) (s1 : Int32) (s2 : Nat) (l0 : Nat) (l8 : Int32), f_M_send_b138 S k97 I J s0 s1 s2 l0 l8 = some zz → ∀ (ls : Array Slot) (H : Heap) (locs : List Loc), lv_has ls 9 [(0, .ref l0), (8, .int l8)] → ga_W D T z L S I J s H locs → W p l e rm_M_send s m args below meth c H locs 0 0 Q (F0 m 138 ls [.int s0, .int s1, .ref s2]) := by
  intro I J s0 s1 s2 l0 l8 hF ls H locs hl hw
  have hx := C.1
  have hb := C.2.1
  rw [f_M_send_b138] at hF
  obtain ⟨t1, hF⟩ := gd_ex hF
  obtain ⟨b2, hF⟩ := gd_ex hF
  obtain ⟨I3, eI3, hF⟩ := bnd_ex hF
  refine ga_iast C hw t1 b2 eI3 d_M_send_138 (fun H locs hw => ?_)
  obtain ⟨v4, ev4, hF⟩ := bnd_ex hF
  refine lv_iinc (k := 1) (v := v4) hx hb d_M_send_139 hl rfl (by rw [ev4]; rfl) (by decide) rfl (fun ls hl => ?_)
  have hl : lv_has ls 9 [(8, .int v4), (0, .ref l0)] := hl
  refine lv_goto (tgt := 97) hx hb d_M_send_142 (by decide) ?_
  exact hk97 _ _ _ _ hF _ _ _ (lv_sub hl [1, 0] rfl) hw
set_option maxHeartbeats 4000000 in
set_option maxRecDepth 100000 in
theorem m_M_send_b97 {zz : gMI × gMJ} (hret : ∀ (pc : Nat) (ls : Array Slot) (H : Heap) (locs : List Loc) (I1 : gMI) (J1 : gMJ), (I1, J1) = zz → decode prog_10_method_11_code pc = .ok (.return_, 1) → ga_W D T z L S I1 J1 s H locs → W p l e rm_M_send s m args below meth c H locs 0 0 Q (F0 m pc ls [])) (C : CallFix p m c prog_10_method_11_code 9 s args ga_ws "RankHouseModel") : ∀ (n : Nat) (I : gMI) (J : gMJ) (l0 : Nat) (l8 : Int32), f_M_send_b97 S n I J l0 l8 = some zz → ∀ (ls : Array Slot) (H : Heap) (locs : List Loc), lv_has ls 9 [(0, .ref l0), (8, .int l8)] → ga_W D T z L S I J s H locs → W p l e rm_M_send s m args below meth c H locs 0 0 Q (F0 m 97 ls []) := by
  intro n
  induction n with
  | zero =>
    intro I J l0 l8 hF ls H locs hl hw
    rw [f_M_send_b97] at hF
    cases hF
  | succ n ih =>
    intro I J l0 l8 hF ls H locs hl hw
    have hx := C.1
    have hb := C.2.1
    rw [f_M_send_b97] at hF
    refine lv_iload hx hb d_M_send_97 (lv_at hl 1 rfl) ?_
    refine lv_bipush (v := 64) hx hb d_M_send_99 (by decide) ?_
    by_cases h1 : (64 : Int32) ≤ l8
    · rw [if_pos h1] at hF
      refine lv_icmp_ge (tgt := 145) hx hb d_M_send_101 (by decide) (fun _ => ?_) (fun hn => absurd h1 hn)
      refine lv_aload_n hx hb d_M_send_145 rfl (lv_at hl 0 rfl) ?_
      obtain ⟨t2, hF⟩ := gd_ex hF
      obtain ⟨r3, hr3, hF⟩ := ob_ex hF
      refine ga_getR C hw gf_M_108 t2 hr3 d_M_send_146 ?_
      refine lv_aload_n hx hb d_M_send_149 rfl (lv_at hl 0 rfl) ?_
      refine ga_getI C hw gf_M_127 t2 d_M_send_150 ?_
      refine lv_aload_n hx hb d_M_send_153 rfl (lv_at hl 0 rfl) ?_
      refine ga_getJ C hw gf_M_133 t2 d_M_send_154 ?_
      obtain ⟨t4, hF⟩ := gd_ex hF
      obtain ⟨b5, hF⟩ := gd_ex hF
      obtain ⟨J6, eJ6, hF⟩ := bnd_ex hF
      refine ga_last C hw t4 b5 eJ6 d_M_send_157 (fun H locs hw => ?_)
      refine lv_aload_n hx hb d_M_send_158 rfl (lv_at hl 0 rfl) ?_
      refine lv_dup hx hb d_M_send_159 rfl ?_
      refine ga_getI C hw gf_M_127 t2 d_M_send_160 ?_
      refine lv_iconst (v := 1) hx hb d_M_send_163 (by decide) ?_
      refine lv_iadd hx hb d_M_send_164 ?_
      obtain ⟨I7, eI7, hF⟩ := bnd_ex hF
      refine ga_putI C hw gp_M_127 t2 rfl rfl eI7 d_M_send_165 (fun H locs hw => ?_)
      exact hret _ _ _ _ _ _ (Option.some.inj hF) d_M_send_168 hw
    · rw [if_neg h1] at hF
      refine lv_icmp_ge (tgt := 145) hx hb d_M_send_101 (by decide) (fun hp => absurd hp h1) (fun _ => ?_)
      refine lv_aload_n hx hb d_M_send_104 rfl (lv_at hl 0 rfl) ?_
      obtain ⟨t8, hF⟩ := gd_ex hF
      obtain ⟨r9, hr9, hF⟩ := ob_ex hF
      refine ga_getR C hw gf_M_105 t8 hr9 d_M_send_105 ?_
      refine lv_bipush (v := 64) hx hb d_M_send_108 (by decide) ?_
      refine lv_aload_n hx hb d_M_send_110 rfl (lv_at hl 0 rfl) ?_
      refine ga_getI C hw gf_M_127 t8 d_M_send_111 ?_
      refine lv_imul hx hb d_M_send_114 ?_
      refine lv_iload hx hb d_M_send_115 (lv_at hl 1 rfl) ?_
      refine lv_iadd hx hb d_M_send_117 ?_
      refine lv_iload hx hb d_M_send_118 (lv_at hl 1 rfl) ?_
      refine lv_aload_n hx hb d_M_send_120 rfl (lv_at hl 0 rfl) ?_
      refine ga_getI C hw gf_M_130 t8 d_M_send_121 ?_
      by_cases h10 : (I l0 37) ≤ l8
      · rw [if_pos h10] at hF
        refine lv_icmp_ge (tgt := 137) hx hb d_M_send_124 (by decide) (fun _ => ?_) (fun hn => absurd h10 hn)
        refine lv_iconst (v := 0) hx hb d_M_send_137 (by decide) ?_
        exact m_M_send_b138 hret C _ ih _ _ _ _ _ _ _ hF _ _ _ hl hw
      · rw [if_neg h10] at hF
        refine lv_icmp_ge (tgt := 137) hx hb d_M_send_124 (by decide) (fun hp => absurd hp h10) (fun _ => ?_)
        refine lv_aload_n hx hb d_M_send_127 rfl (lv_at hl 0 rfl) ?_
        obtain ⟨r11, hr11, hF⟩ := ob_ex hF
        refine ga_getR C hw gf_M_111 t8 hr11 d_M_send_128 ?_
        refine lv_iload hx hb d_M_send_131 (lv_at hl 1 rfl) ?_
        obtain ⟨t12, hF⟩ := gd_ex hF
        obtain ⟨b13, hF⟩ := gd_ex hF
        refine ga_iald C hw t12 b13 d_M_send_133 ?_
        refine lv_goto (tgt := 138) hx hb d_M_send_134 (by decide) ?_
        exact m_M_send_b138 hret C _ ih _ _ _ _ _ _ _ hF _ _ _ hl hw
set_option maxHeartbeats 4000000 in
set_option maxRecDepth 100000 in
theorem c_M_send (l : Launch) (D : va_G) (T : Nat → ClassId) (z : Nat) (L : List Nat) {S : gS} {I : gMI} {J : gMJ} {p0 : Nat} {p1 : Int32} {p2 : Int32} {p3 : Int32} {p4 : Int32} {p5 : Int32} {p6 : Int32} {RI : gMI} {RJ : gMJ} (hF : f_M_send S I J p0 p1 p2 p3 p4 p5 p6 = some (RI, RJ)) : ga_Mv l y_M_send prog_10_method_11_code 9 (Option.none : Option Jvm.ClassFile.FieldType) rm_M_send [.ref p0, .int p1, .int p2, .int p3, .int p4, .int p5, .int p6] D T z L S I J RI RJ := by
  refine Met.ofW (cc := prog_10_method_11_code) (maxL := 9) (ret := (Option.none : Option Jvm.ClassFile.FieldType)) (by decide) rfl ?_
  intro p e s m args below meth c s₁ B hml hv
  obtain ⟨ha, hv⟩ := hv
  have hx := B.exec
  have hb := B.bytes
  have hr := B.returns
  have hts := atoms_spec (ws := .code y_M_send prog_10_method_11_code 9 (Option.none : Option Jvm.ClassFile.FieldType) :: ga_ws) B.pre
  have hown : s.vm.findClass "RankHouseModel" = some m.cls := findClass_of_methodNamed B.named
  have hlocks := B.notSynchronized
  have C : CallFix p m c prog_10_method_11_code 9 s args ga_ws "RankHouseModel" := ⟨hx, hb, hml, hown, fun w h => hts w (List.mem_cons_of_mem _ h)⟩
  have hw := ga_start hv
  have hl := lv_entry ([.ref p0, .int p1, .int p2, .int p3, .int p4, .int p5, .int p6]) (n := 9) (Nat.le_of_ble_eq_true rfl)
  rw [show entryFrame m args 9 = entryFrame m ([.ref p0, .int p1, .int p2, .int p3, .int p4, .int p5, .int p6] : List Value).toArray 9 by rw [ha], lg_entry_eq]
  generalize (lg_sl ([.ref p0, .int p1, .int p2, .int p3, .int p4, .int p5, .int p6]) ++ List.replicate (9 - (lg_sl ([.ref p0, .int p1, .int p2, .int p3, .int p4, .int p5, .int p6])).length) Slot.unset).toArray = ls at hl ⊢
  have hl : lv_has ls 9 [(0, .ref p0), (1, .int p1), (2, .int p2), (3, .int p3), (4, .int p4), (5, .int p5), (6, .int p6)] := hl
  have key : ∀ Q : State → Prop, (∀ (pc : Nat) (ls : Array Slot) (H : Heap) (locs : List Loc) (I1 : gMI) (J1 : gMJ), (I1, J1) = (RI, RJ) → decode prog_10_method_11_code pc = .ok (.return_, 1) → ga_W D T z L S I1 J1 s H locs → W p l e rm_M_send s m args below meth c H locs 0 0 Q (F0 m pc ls [])) → W p l e rm_M_send s m args below meth c s.heap [] 0 0 Q (F0 m 0 ls []) := by
    intro Q hret
    rw [f_M_send] at hF
    refine lv_aload_n hx hb d_M_send_0 rfl (lv_at hl 0 rfl) ?_
    obtain ⟨t1, hF⟩ := gd_ex hF
    refine ga_getI C hw gf_M_127 t1 d_M_send_1 ?_
    refine lv_bipush (v := 96) hx hb d_M_send_4 (by decide) ?_
    by_cases h2 : (I p0 32) = (96 : Int32)
    · rw [if_pos h2] at hF
      refine lv_icmp_ne (tgt := 10) hx hb d_M_send_6 (by decide) (fun hn => absurd h2 hn) (fun _ => ?_)
      exact hret _ _ _ _ _ _ (Option.some.inj hF) d_M_send_9 hw
    · rw [if_neg h2] at hF
      refine lv_icmp_ne (tgt := 10) hx hb d_M_send_6 (by decide) (fun _ => ?_) (fun hp => absurd hp h2)
      refine lv_bipush (v := 7) hx hb d_M_send_10 (by decide) ?_
      refine lv_aload_n hx hb d_M_send_12 rfl (lv_at hl 0 rfl) ?_
      refine ga_getI C hw gf_M_127 t1 d_M_send_13 ?_
      refine lv_imul hx hb d_M_send_16 ?_
      refine lv_topi (fun v3 ev3 => ?_)
      replace hF := bnd_at hF ev3
      refine lv_istore hx hb d_M_send_17 hl (by decide) rfl (fun ls hl => ?_)
      have hl : lv_has ls 9 [(7, .int v3), (0, .ref p0), (1, .int p1), (2, .int p2), (3, .int p3), (4, .int p4), (5, .int p5), (6, .int p6)] := hl
      refine lv_aload_n hx hb d_M_send_19 rfl (lv_at hl 1 rfl) ?_
      obtain ⟨r4, hr4, hF⟩ := ob_ex hF
      refine ga_getR C hw gf_M_102 t1 hr4 d_M_send_20 ?_
      refine lv_iload hx hb d_M_send_23 (lv_at hl 0 rfl) ?_
      refine lv_iload_n hx hb d_M_send_25 rfl (lv_at hl 2 rfl) ?_
      obtain ⟨t5, hF⟩ := gd_ex hF
      obtain ⟨b6, hF⟩ := gd_ex hF
      obtain ⟨I7, eI7, hF⟩ := bnd_ex hF
      refine ga_iast C hw t5 b6 eI7 d_M_send_26 (fun H locs hw => ?_)
      refine lv_aload_n hx hb d_M_send_27 rfl (lv_at hl 1 rfl) ?_
      refine ga_getR C hw gf_M_102 t1 hr4 d_M_send_28 ?_
      refine lv_iload hx hb d_M_send_31 (lv_at hl 0 rfl) ?_
      refine lv_iconst (v := 1) hx hb d_M_send_33 (by decide) ?_
      refine lv_iadd hx hb d_M_send_34 ?_
      refine lv_iload_n hx hb d_M_send_35 rfl (lv_at hl 3 rfl) ?_
      obtain ⟨b8, hF⟩ := gd_ex hF
      obtain ⟨I9, eI9, hF⟩ := bnd_ex hF
      refine ga_iast C hw t5 b8 eI9 d_M_send_36 (fun H locs hw => ?_)
      refine lv_aload_n hx hb d_M_send_37 rfl (lv_at hl 1 rfl) ?_
      refine ga_getR C hw gf_M_102 t1 hr4 d_M_send_38 ?_
      refine lv_iload hx hb d_M_send_41 (lv_at hl 0 rfl) ?_
      refine lv_iconst (v := 2) hx hb d_M_send_43 (by decide) ?_
      refine lv_iadd hx hb d_M_send_44 ?_
      refine lv_iload_n hx hb d_M_send_45 rfl (lv_at hl 4 rfl) ?_
      obtain ⟨b10, hF⟩ := gd_ex hF
      obtain ⟨I11, eI11, hF⟩ := bnd_ex hF
      refine ga_iast C hw t5 b10 eI11 d_M_send_46 (fun H locs hw => ?_)
      refine lv_aload_n hx hb d_M_send_47 rfl (lv_at hl 1 rfl) ?_
      refine ga_getR C hw gf_M_102 t1 hr4 d_M_send_48 ?_
      refine lv_iload hx hb d_M_send_51 (lv_at hl 0 rfl) ?_
      refine lv_iconst (v := 3) hx hb d_M_send_53 (by decide) ?_
      refine lv_iadd hx hb d_M_send_54 ?_
      refine lv_iload hx hb d_M_send_55 (lv_at hl 5 rfl) ?_
      obtain ⟨b12, hF⟩ := gd_ex hF
      obtain ⟨I13, eI13, hF⟩ := bnd_ex hF
      refine ga_iast C hw t5 b12 eI13 d_M_send_57 (fun H locs hw => ?_)
      refine lv_aload_n hx hb d_M_send_58 rfl (lv_at hl 1 rfl) ?_
      refine ga_getR C hw gf_M_102 t1 hr4 d_M_send_59 ?_
      refine lv_iload hx hb d_M_send_62 (lv_at hl 0 rfl) ?_
      refine lv_iconst (v := 4) hx hb d_M_send_64 (by decide) ?_
      refine lv_iadd hx hb d_M_send_65 ?_
      refine lv_iload hx hb d_M_send_66 (lv_at hl 6 rfl) ?_
      obtain ⟨b14, hF⟩ := gd_ex hF
      obtain ⟨I15, eI15, hF⟩ := bnd_ex hF
      refine ga_iast C hw t5 b14 eI15 d_M_send_68 (fun H locs hw => ?_)
      refine lv_aload_n hx hb d_M_send_69 rfl (lv_at hl 1 rfl) ?_
      refine ga_getR C hw gf_M_102 t1 hr4 d_M_send_70 ?_
      refine lv_iload hx hb d_M_send_73 (lv_at hl 0 rfl) ?_
      refine lv_iconst (v := 5) hx hb d_M_send_75 (by decide) ?_
      refine lv_iadd hx hb d_M_send_76 ?_
      refine lv_iload hx hb d_M_send_77 (lv_at hl 7 rfl) ?_
      obtain ⟨b16, hF⟩ := gd_ex hF
      obtain ⟨I17, eI17, hF⟩ := bnd_ex hF
      refine ga_iast C hw t5 b16 eI17 d_M_send_79 (fun H locs hw => ?_)
      refine lv_aload_n hx hb d_M_send_80 rfl (lv_at hl 1 rfl) ?_
      refine ga_getR C hw gf_M_102 t1 hr4 d_M_send_81 ?_
      refine lv_iload hx hb d_M_send_84 (lv_at hl 0 rfl) ?_
      refine lv_bipush (v := 6) hx hb d_M_send_86 (by decide) ?_
      refine lv_iadd hx hb d_M_send_88 ?_
      refine lv_aload_n hx hb d_M_send_89 rfl (lv_at hl 1 rfl) ?_
      refine ga_getI C hw gf_M_130 t1 d_M_send_90 ?_
      obtain ⟨b18, hF⟩ := gd_ex hF
      obtain ⟨I19, eI19, hF⟩ := bnd_ex hF
      refine ga_iast C hw t5 b18 eI19 d_M_send_93 (fun H locs hw => ?_)
      refine lv_iconst (v := 0) hx hb d_M_send_94 (by decide) ?_
      refine lv_istore hx hb d_M_send_95 hl (by decide) rfl (fun ls hl => ?_)
      have hl : lv_has ls 9 [(8, .int (0 : Int32)), (7, .int v3), (0, .ref p0), (1, .int p1), (2, .int p2), (3, .int p3), (4, .int p4), (5, .int p5), (6, .int p6)] := hl
      exact m_M_send_b97 hret C gFuel _ _ _ _ hF _ _ _ (lv_sub hl [2, 0] rfl) hw
  refine key _ (fun pc ls H locs I1 J1 he hd hw => ?_)
  · cases he
    exact W.vret hx hb hr (fun t ht _ => ⟨⟨(), rfl, trivial, ga_o hw ht⟩, hw.2.2.2.1.F ht⟩) hw.2.2.2.1.2.2 hd
set_option maxHeartbeats 4000000 in
set_option maxRecDepth 100000 in
theorem c_M_ready (l : Launch) (D : va_G) (T : Nat → ClassId) (z : Nat) (L : List Nat) {S : gS} {I : gMI} {J : gMJ} {p0 : Nat} {p1 : Int32} {p2 : Int32} {p3 : Int32} {p4 : Int32} {RI : gMI} {RJ : gMJ} (hF : f_M_ready S I J p0 p1 p2 p3 p4 = some (RI, RJ)) : ga_Mv l y_M_ready prog_10_method_12_code 5 (Option.none : Option Jvm.ClassFile.FieldType) rm_M_ready [.ref p0, .int p1, .int p2, .int p3, .int p4] D T z L S I J RI RJ := by
  refine Met.ofW (cc := prog_10_method_12_code) (maxL := 5) (ret := (Option.none : Option Jvm.ClassFile.FieldType)) (by decide) rfl ?_
  intro p e s m args below meth c s₁ B hml hv
  obtain ⟨ha, hv⟩ := hv
  have hx := B.exec
  have hb := B.bytes
  have hr := B.returns
  have hts := atoms_spec (ws := .code y_M_ready prog_10_method_12_code 5 (Option.none : Option Jvm.ClassFile.FieldType) :: ga_ws) B.pre
  have hown : s.vm.findClass "RankHouseModel" = some m.cls := findClass_of_methodNamed B.named
  have hlocks := B.notSynchronized
  have C : CallFix p m c prog_10_method_12_code 5 s args ga_ws "RankHouseModel" := ⟨hx, hb, hml, hown, fun w h => hts w (List.mem_cons_of_mem _ h)⟩
  have hw := ga_start hv
  have hl := lv_entry ([.ref p0, .int p1, .int p2, .int p3, .int p4]) (n := 5) (Nat.le_of_ble_eq_true rfl)
  rw [show entryFrame m args 5 = entryFrame m ([.ref p0, .int p1, .int p2, .int p3, .int p4] : List Value).toArray 5 by rw [ha], lg_entry_eq]
  generalize (lg_sl ([.ref p0, .int p1, .int p2, .int p3, .int p4]) ++ List.replicate (5 - (lg_sl ([.ref p0, .int p1, .int p2, .int p3, .int p4])).length) Slot.unset).toArray = ls at hl ⊢
  have hl : lv_has ls 5 [(0, .ref p0), (1, .int p1), (2, .int p2), (3, .int p3), (4, .int p4)] := hl
  have key : ∀ Q : State → Prop, (∀ (pc : Nat) (ls : Array Slot) (H : Heap) (locs : List Loc) (I1 : gMI) (J1 : gMJ), (I1, J1) = (RI, RJ) → decode prog_10_method_12_code pc = .ok (.return_, 1) → ga_W D T z L S I1 J1 s H locs → W p l e rm_M_ready s m args below meth c H locs 0 0 Q (F0 m pc ls [])) → W p l e rm_M_ready s m args below meth c s.heap [] 0 0 Q (F0 m 0 ls []) := by
    intro Q hret
    rw [f_M_ready] at hF
    refine lv_aload_n hx hb d_M_ready_0 rfl (lv_at hl 0 rfl) ?_
    refine lv_iload_n hx hb d_M_ready_1 rfl (lv_at hl 1 rfl) ?_
    obtain ⟨t1, hF⟩ := gd_ex hF
    obtain ⟨I2, eI2, hF⟩ := bnd_ex hF
    refine ga_putI C hw gp_M_130 t1 rfl rfl eI2 d_M_ready_2 (fun H locs hw => ?_)
    refine lv_aload_n hx hb d_M_ready_5 rfl (lv_at hl 0 rfl) ?_
    obtain ⟨r3, hr3, hF⟩ := ob_ex hF
    refine ga_getR C hw gf_M_111 t1 hr3 d_M_ready_6 ?_
    refine lv_iconst (v := 0) hx hb d_M_ready_9 (by decide) ?_
    refine lv_iload_n hx hb d_M_ready_10 rfl (lv_at hl 2 rfl) ?_
    obtain ⟨t4, hF⟩ := gd_ex hF
    obtain ⟨b5, hF⟩ := gd_ex hF
    obtain ⟨I6, eI6, hF⟩ := bnd_ex hF
    refine ga_iast C hw t4 b5 eI6 d_M_ready_11 (fun H locs hw => ?_)
    refine lv_aload_n hx hb d_M_ready_12 rfl (lv_at hl 0 rfl) ?_
    refine ga_getR C hw gf_M_111 t1 hr3 d_M_ready_13 ?_
    refine lv_iconst (v := 1) hx hb d_M_ready_16 (by decide) ?_
    refine lv_iload_n hx hb d_M_ready_17 rfl (lv_at hl 3 rfl) ?_
    obtain ⟨b7, hF⟩ := gd_ex hF
    obtain ⟨I8, eI8, hF⟩ := bnd_ex hF
    refine ga_iast C hw t4 b7 eI8 d_M_ready_18 (fun H locs hw => ?_)
    refine lv_aload_n hx hb d_M_ready_19 rfl (lv_at hl 0 rfl) ?_
    refine ga_getR C hw gf_M_111 t1 hr3 d_M_ready_20 ?_
    refine lv_iconst (v := 2) hx hb d_M_ready_23 (by decide) ?_
    refine lv_iload hx hb d_M_ready_24 (lv_at hl 4 rfl) ?_
    obtain ⟨b9, hF⟩ := gd_ex hF
    obtain ⟨I10, eI10, hF⟩ := bnd_ex hF
    refine ga_iast C hw t4 b9 eI10 d_M_ready_26 (fun H locs hw => ?_)
    refine lv_aload_n hx hb d_M_ready_27 rfl (lv_at hl 0 rfl) ?_
    refine lv_lconst (v := 0) hx hb d_M_ready_28 (by decide) ?_
    obtain ⟨J11, eJ11, hF⟩ := bnd_ex hF
    refine ga_putJ C hw gp_M_133 t1 eJ11 d_M_ready_29 (fun H locs hw => ?_)
    exact hret _ _ _ _ _ _ (Option.some.inj hF) d_M_ready_32 hw
  refine key _ (fun pc ls H locs I1 J1 he hd hw => ?_)
  · cases he
    exact W.vret hx hb hr (fun t ht _ => ⟨⟨(), rfl, trivial, ga_o hw ht⟩, hw.2.2.2.1.F ht⟩) hw.2.2.2.1.2.2 hd
set_option maxHeartbeats 4000000 in
set_option maxRecDepth 100000 in
theorem m_M_readyAsk_b143 {zz : gMI × gMJ} (hret : ∀ (pc : Nat) (ls : Array Slot) (H : Heap) (locs : List Loc) (I1 : gMI) (J1 : gMJ), (I1, J1) = zz → decode prog_10_method_13_code pc = .ok (.return_, 1) → ga_W D T z L S I1 J1 s H locs → W p l e rm_M_readyAsk s m args below meth c H locs 0 0 Q (F0 m pc ls [])) (C : CallFix p m c prog_10_method_13_code 3 s args ga_ws "RankHouseModel") : ∀ (I : gMI) (J : gMJ), f_M_readyAsk_b143 S I J = some zz → ∀ (ls : Array Slot) (H : Heap) (locs : List Loc), lv_has ls 3 [] → ga_W D T z L S I J s H locs → W p l e rm_M_readyAsk s m args below meth c H locs 0 0 Q (F0 m 143 ls []) := by
  intro I J hF ls H locs hl hw
  have hx := C.1
  have hb := C.2.1
  rw [f_M_readyAsk_b143] at hF
  exact hret _ _ _ _ _ _ (Option.some.inj hF) d_M_readyAsk_143 hw
set_option maxHeartbeats 4000000 in
set_option maxRecDepth 100000 in
theorem m_M_readyAsk_b77 {zz : gMI × gMJ} (hret : ∀ (pc : Nat) (ls : Array Slot) (H : Heap) (locs : List Loc) (I1 : gMI) (J1 : gMJ), (I1, J1) = zz → decode prog_10_method_13_code pc = .ok (.return_, 1) → ga_W D T z L S I1 J1 s H locs → W p l e rm_M_readyAsk s m args below meth c H locs 0 0 Q (F0 m pc ls [])) (C : CallFix p m c prog_10_method_13_code 3 s args ga_ws "RankHouseModel") : ∀ (I : gMI) (J : gMJ) (s0 : Int32) (s1 : Int32) (s2 : Int32) (s3 : Nat), f_M_readyAsk_b77 S I J s0 s1 s2 s3 = some zz → ∀ (ls : Array Slot) (H : Heap) (locs : List Loc), lv_has ls 3 [] → ga_W D T z L S I J s H locs → W p l e rm_M_readyAsk s m args below meth c H locs 0 0 Q (F0 m 77 ls [.int s0, .int s1, .int s2, .ref s3]) := by
  intro I J s0 s1 s2 s3 hF ls H locs hl hw
  have hx := C.1
  have hb := C.2.1
  rw [f_M_readyAsk_b77] at hF
  refine lv_iconst (v := 0) hx hb d_M_readyAsk_77 (by decide) ?_
  obtain ⟨t1, hF⟩ := gd_ex hF
  obtain ⟨I2, J3, c4, hF⟩ := bd2_ex hF
  refine ga_cVv (As := [.int s2, .int s1, .int s0, .int (0 : Int32)]) C hw (c_M_ready l D T z L c4) gy_M_137 t1 rfl hl.1 ⟨Nat.le_of_ble_eq_true rfl, Nat.le_of_ble_eq_true rfl, rfl, rfl, Nat.le_of_ble_eq_true rfl, Nat.le_of_ble_eq_true rfl⟩ (Nat.le_of_ble_eq_true rfl) rfl d_M_readyAsk_78 (fun H locs hw => ?_)
  refine lv_goto (tgt := 143) hx hb d_M_readyAsk_81 (by decide) ?_
  exact m_M_readyAsk_b143 hret C _ _ hF _ _ _ hl hw
set_option maxHeartbeats 4000000 in
set_option maxRecDepth 100000 in
theorem m_M_readyAsk_b52 {zz : gMI × gMJ} (hret : ∀ (pc : Nat) (ls : Array Slot) (H : Heap) (locs : List Loc) (I1 : gMI) (J1 : gMJ), (I1, J1) = zz → decode prog_10_method_13_code pc = .ok (.return_, 1) → ga_W D T z L S I1 J1 s H locs → W p l e rm_M_readyAsk s m args below meth c H locs 0 0 Q (F0 m pc ls [])) (C : CallFix p m c prog_10_method_13_code 3 s args ga_ws "RankHouseModel") : ∀ (I : gMI) (J : gMJ) (s0 : Int32) (s1 : Int32) (s2 : Nat) (l0 : Nat) (l1 : Int32), f_M_readyAsk_b52 S I J s0 s1 s2 l0 l1 = some zz → ∀ (ls : Array Slot) (H : Heap) (locs : List Loc), lv_has ls 3 [(0, .ref l0), (1, .int l1)] → ga_W D T z L S I J s H locs → W p l e rm_M_readyAsk s m args below meth c H locs 0 0 Q (F0 m 52 ls [.int s0, .int s1, .ref s2]) := by
  intro I J s0 s1 s2 l0 l1 hF ls H locs hl hw
  have hx := C.1
  have hb := C.2.1
  rw [f_M_readyAsk_b52] at hF
  refine lv_aload_n hx hb d_M_readyAsk_52 rfl (lv_at hl 0 rfl) ?_
  obtain ⟨t1, hF⟩ := gd_ex hF
  obtain ⟨r2, hr2, hF⟩ := ob_ex hF
  refine ga_getR C hw gf_M_23 t1 hr2 d_M_readyAsk_53 ?_
  refine lv_iload_n hx hb d_M_readyAsk_56 rfl (lv_at hl 1 rfl) ?_
  obtain ⟨t3, hF⟩ := gd_ex hF
  obtain ⟨b4, hF⟩ := gd_ex hF
  refine ga_iald C hw t3 b4 d_M_readyAsk_57 ?_
  refine lv_iconst (v := 1) hx hb d_M_readyAsk_58 (by decide) ?_
  by_cases h5 : (I r2 l1.toNatClampNeg) = (1 : Int32)
  · rw [if_pos h5] at hF
    refine lv_icmp_ne (tgt := 71) hx hb d_M_readyAsk_59 (by decide) (fun hn => absurd h5 hn) (fun _ => ?_)
    refine lv_aload_n hx hb d_M_readyAsk_62 rfl (lv_at hl 0 rfl) ?_
    obtain ⟨r9, hr9, hF⟩ := ob_ex hF
    refine ga_getR C hw gf_M_29 t1 hr9 d_M_readyAsk_63 ?_
    refine lv_iload_n hx hb d_M_readyAsk_66 rfl (lv_at hl 1 rfl) ?_
    obtain ⟨t10, hF⟩ := gd_ex hF
    obtain ⟨b11, hF⟩ := gd_ex hF
    refine ga_iald C hw t10 b11 d_M_readyAsk_67 ?_
    refine lv_goto (tgt := 77) hx hb d_M_readyAsk_68 (by decide) ?_
    exact m_M_readyAsk_b77 hret C _ _ _ _ _ _ hF _ _ _ (lv_sub hl [] rfl) hw
  · rw [if_neg h5] at hF
    refine lv_icmp_ne (tgt := 71) hx hb d_M_readyAsk_59 (by decide) (fun _ => ?_) (fun hp => absurd hp h5)
    refine lv_aload_n hx hb d_M_readyAsk_71 rfl (lv_at hl 0 rfl) ?_
    obtain ⟨r6, hr6, hF⟩ := ob_ex hF
    refine ga_getR C hw gf_M_26 t1 hr6 d_M_readyAsk_72 ?_
    refine lv_iload_n hx hb d_M_readyAsk_75 rfl (lv_at hl 1 rfl) ?_
    obtain ⟨t7, hF⟩ := gd_ex hF
    obtain ⟨b8, hF⟩ := gd_ex hF
    refine ga_iald C hw t7 b8 d_M_readyAsk_76 ?_
    exact m_M_readyAsk_b77 hret C _ _ _ _ _ _ hF _ _ _ (lv_sub hl [] rfl) hw
set_option maxHeartbeats 4000000 in
set_option maxRecDepth 100000 in
theorem m_M_readyAsk_b122 {zz : gMI × gMJ} (hret : ∀ (pc : Nat) (ls : Array Slot) (H : Heap) (locs : List Loc) (I1 : gMI) (J1 : gMJ), (I1, J1) = zz → decode prog_10_method_13_code pc = .ok (.return_, 1) → ga_W D T z L S I1 J1 s H locs → W p l e rm_M_readyAsk s m args below meth c H locs 0 0 Q (F0 m pc ls [])) (C : CallFix p m c prog_10_method_13_code 3 s args ga_ws "RankHouseModel") : ∀ (I : gMI) (J : gMJ) (s0 : Int32) (s1 : Nat) (l0 : Nat) (l1 : Int32), f_M_readyAsk_b122 S I J s0 s1 l0 l1 = some zz → ∀ (ls : Array Slot) (H : Heap) (locs : List Loc), lv_has ls 3 [(0, .ref l0), (1, .int l1)] → ga_W D T z L S I J s H locs → W p l e rm_M_readyAsk s m args below meth c H locs 0 0 Q (F0 m 122 ls [.int s0, .ref s1]) := by
  intro I J s0 s1 l0 l1 hF ls H locs hl hw
  have hx := C.1
  have hb := C.2.1
  rw [f_M_readyAsk_b122] at hF
  refine lv_aload_n hx hb d_M_readyAsk_122 rfl (lv_at hl 0 rfl) ?_
  obtain ⟨t1, hF⟩ := gd_ex hF
  obtain ⟨r2, hr2, hF⟩ := ob_ex hF
  refine ga_getR C hw gf_M_59 t1 hr2 d_M_readyAsk_123 ?_
  refine lv_iload_n hx hb d_M_readyAsk_126 rfl (lv_at hl 1 rfl) ?_
  obtain ⟨t3, hF⟩ := gd_ex hF
  obtain ⟨b4, hF⟩ := gd_ex hF
  refine ga_iald C hw t3 b4 d_M_readyAsk_127 ?_
  refine lv_aload_n hx hb d_M_readyAsk_128 rfl (lv_at hl 0 rfl) ?_
  obtain ⟨r5, hr5, hF⟩ := ob_ex hF
  refine ga_getR C hw gf_M_62 t1 hr5 d_M_readyAsk_129 ?_
  refine lv_iload_n hx hb d_M_readyAsk_132 rfl (lv_at hl 1 rfl) ?_
  obtain ⟨t6, hF⟩ := gd_ex hF
  obtain ⟨b7, hF⟩ := gd_ex hF
  refine ga_iald C hw t6 b7 d_M_readyAsk_133 ?_
  refine lv_aload_n hx hb d_M_readyAsk_134 rfl (lv_at hl 0 rfl) ?_
  obtain ⟨r8, hr8, hF⟩ := ob_ex hF
  refine ga_getR C hw gf_M_74 t1 hr8 d_M_readyAsk_135 ?_
  refine lv_iload_n hx hb d_M_readyAsk_138 rfl (lv_at hl 1 rfl) ?_
  obtain ⟨t9, hF⟩ := gd_ex hF
  obtain ⟨b10, hF⟩ := gd_ex hF
  refine ga_iald C hw t9 b10 d_M_readyAsk_139 ?_
  obtain ⟨t11, hF⟩ := gd_ex hF
  obtain ⟨I12, J13, c14, hF⟩ := bd2_ex hF
  refine ga_cVv (As := [.int s0, .int (I r2 l1.toNatClampNeg), .int (I r5 l1.toNatClampNeg), .int (I r8 l1.toNatClampNeg)]) C hw (c_M_ready l D T z L c14) gy_M_137 t11 rfl hl.1 ⟨Nat.le_of_ble_eq_true rfl, Nat.le_of_ble_eq_true rfl, rfl, rfl, Nat.le_of_ble_eq_true rfl, Nat.le_of_ble_eq_true rfl⟩ (Nat.le_of_ble_eq_true rfl) rfl d_M_readyAsk_140 (fun H locs hw => ?_)
  exact m_M_readyAsk_b143 hret C _ _ hF _ _ _ (lv_sub hl [] rfl) hw
set_option maxHeartbeats 4000000 in
set_option maxRecDepth 100000 in
theorem c_M_readyAsk (l : Launch) (D : va_G) (T : Nat → ClassId) (z : Nat) (L : List Nat) {S : gS} {I : gMI} {J : gMJ} {p0 : Nat} {p1 : Int32} {RI : gMI} {RJ : gMJ} (hF : f_M_readyAsk S I J p0 p1 = some (RI, RJ)) : ga_Mv l y_M_readyAsk prog_10_method_13_code 3 (Option.none : Option Jvm.ClassFile.FieldType) rm_M_readyAsk [.ref p0, .int p1] D T z L S I J RI RJ := by
  refine Met.ofW (cc := prog_10_method_13_code) (maxL := 3) (ret := (Option.none : Option Jvm.ClassFile.FieldType)) (by decide) rfl ?_
  intro p e s m args below meth c s₁ B hml hv
  obtain ⟨ha, hv⟩ := hv
  have hx := B.exec
  have hb := B.bytes
  have hr := B.returns
  have hts := atoms_spec (ws := .code y_M_readyAsk prog_10_method_13_code 3 (Option.none : Option Jvm.ClassFile.FieldType) :: ga_ws) B.pre
  have hown : s.vm.findClass "RankHouseModel" = some m.cls := findClass_of_methodNamed B.named
  have hlocks := B.notSynchronized
  have C : CallFix p m c prog_10_method_13_code 3 s args ga_ws "RankHouseModel" := ⟨hx, hb, hml, hown, fun w h => hts w (List.mem_cons_of_mem _ h)⟩
  have hw := ga_start hv
  have hl := lv_entry ([.ref p0, .int p1]) (n := 3) (Nat.le_of_ble_eq_true rfl)
  rw [show entryFrame m args 3 = entryFrame m ([.ref p0, .int p1] : List Value).toArray 3 by rw [ha], lg_entry_eq]
  generalize (lg_sl ([.ref p0, .int p1]) ++ List.replicate (3 - (lg_sl ([.ref p0, .int p1])).length) Slot.unset).toArray = ls at hl ⊢
  have hl : lv_has ls 3 [(0, .ref p0), (1, .int p1)] := hl
  have key : ∀ Q : State → Prop, (∀ (pc : Nat) (ls : Array Slot) (H : Heap) (locs : List Loc) (I1 : gMI) (J1 : gMJ), (I1, J1) = (RI, RJ) → decode prog_10_method_13_code pc = .ok (.return_, 1) → ga_W D T z L S I1 J1 s H locs → W p l e rm_M_readyAsk s m args below meth c H locs 0 0 Q (F0 m pc ls [])) → W p l e rm_M_readyAsk s m args below meth c s.heap [] 0 0 Q (F0 m 0 ls []) := by
    intro Q hret
    rw [f_M_readyAsk] at hF
    refine lv_aload_n hx hb d_M_readyAsk_0 rfl (lv_at hl 0 rfl) ?_
    obtain ⟨t1, hF⟩ := gd_ex hF
    obtain ⟨r2, hr2, hF⟩ := ob_ex hF
    refine ga_getR C hw gf_M_53 t1 hr2 d_M_readyAsk_1 ?_
    refine lv_iload_n hx hb d_M_readyAsk_4 rfl (lv_at hl 1 rfl) ?_
    obtain ⟨t3, hF⟩ := gd_ex hF
    obtain ⟨b4, hF⟩ := gd_ex hF
    refine ga_iald C hw t3 b4 d_M_readyAsk_5 ?_
    refine lv_topi (fun v5 ev5 => ?_)
    replace hF := bnd_at hF ev5
    refine lv_istore_n hx hb d_M_readyAsk_6 rfl hl (by decide) rfl (fun ls hl => ?_)
    have hl : lv_has ls 3 [(2, .int v5), (0, .ref p0), (1, .int p1)] := hl
    refine lv_iload_n hx hb d_M_readyAsk_7 rfl (lv_at hl 0 rfl) ?_
    refine lv_iconst (v := 1) hx hb d_M_readyAsk_8 (by decide) ?_
    by_cases h6 : v5 = (1 : Int32)
    · rw [if_pos h6] at hF
      refine lv_icmp_ne (tgt := 23) hx hb d_M_readyAsk_9 (by decide) (fun hn => absurd h6 hn) (fun _ => ?_)
      refine lv_aload_n hx hb d_M_readyAsk_12 rfl (lv_at hl 1 rfl) ?_
      refine lv_iconst (v := 0) hx hb d_M_readyAsk_13 (by decide) ?_
      refine lv_iconst (v := 0) hx hb d_M_readyAsk_14 (by decide) ?_
      refine lv_iconst (v := 0) hx hb d_M_readyAsk_15 (by decide) ?_
      refine lv_iconst (v := 0) hx hb d_M_readyAsk_16 (by decide) ?_
      obtain ⟨I26, J27, c28, hF⟩ := bd2_ex hF
      refine ga_cVv (As := [.int (0 : Int32), .int (0 : Int32), .int (0 : Int32), .int (0 : Int32)]) C hw (c_M_ready l D T z L c28) gy_M_137 t1 rfl hl.1 ⟨Nat.le_of_ble_eq_true rfl, Nat.le_of_ble_eq_true rfl, rfl, rfl, Nat.le_of_ble_eq_true rfl, Nat.le_of_ble_eq_true rfl⟩ (Nat.le_of_ble_eq_true rfl) rfl d_M_readyAsk_17 (fun H locs hw => ?_)
      refine lv_goto (tgt := 143) hx hb d_M_readyAsk_20 (by decide) ?_
      exact m_M_readyAsk_b143 hret C _ _ hF _ _ _ (lv_sub hl [] rfl) hw
    · rw [if_neg h6] at hF
      refine lv_icmp_ne (tgt := 23) hx hb d_M_readyAsk_9 (by decide) (fun _ => ?_) (fun hp => absurd hp h6)
      refine lv_iload_n hx hb d_M_readyAsk_23 rfl (lv_at hl 0 rfl) ?_
      refine lv_bipush (v := 9) hx hb d_M_readyAsk_24 (by decide) ?_
      by_cases h7 : v5 = (9 : Int32)
      · rw [if_pos h7] at hF
        refine lv_icmp_ne (tgt := 84) hx hb d_M_readyAsk_26 (by decide) (fun hn => absurd h7 hn) (fun _ => ?_)
        refine lv_aload_n hx hb d_M_readyAsk_29 rfl (lv_at hl 1 rfl) ?_
        refine lv_iconst (v := 2) hx hb d_M_readyAsk_30 (by decide) ?_
        refine lv_aload_n hx hb d_M_readyAsk_31 rfl (lv_at hl 1 rfl) ?_
        obtain ⟨r19, hr19, hF⟩ := ob_ex hF
        refine ga_getR C hw gf_M_23 t1 hr19 d_M_readyAsk_32 ?_
        refine lv_iload_n hx hb d_M_readyAsk_35 rfl (lv_at hl 2 rfl) ?_
        obtain ⟨t20, hF⟩ := gd_ex hF
        obtain ⟨b21, hF⟩ := gd_ex hF
        refine ga_iald C hw t20 b21 d_M_readyAsk_36 ?_
        refine lv_iconst (v := 1) hx hb d_M_readyAsk_37 (by decide) ?_
        by_cases h22 : (I r19 p1.toNatClampNeg) = (1 : Int32)
        · rw [if_pos h22] at hF
          refine lv_icmp_ne (tgt := 50) hx hb d_M_readyAsk_38 (by decide) (fun hn => absurd h22 hn) (fun _ => ?_)
          refine lv_aload_n hx hb d_M_readyAsk_41 rfl (lv_at hl 1 rfl) ?_
          obtain ⟨r23, hr23, hF⟩ := ob_ex hF
          refine ga_getR C hw gf_M_26 t1 hr23 d_M_readyAsk_42 ?_
          refine lv_iload_n hx hb d_M_readyAsk_45 rfl (lv_at hl 2 rfl) ?_
          obtain ⟨t24, hF⟩ := gd_ex hF
          obtain ⟨b25, hF⟩ := gd_ex hF
          refine ga_iald C hw t24 b25 d_M_readyAsk_46 ?_
          refine lv_goto (tgt := 52) hx hb d_M_readyAsk_47 (by decide) ?_
          exact m_M_readyAsk_b52 hret C _ _ _ _ _ _ _ hF _ _ _ (lv_sub hl [1, 2] rfl) hw
        · rw [if_neg h22] at hF
          refine lv_icmp_ne (tgt := 50) hx hb d_M_readyAsk_38 (by decide) (fun _ => ?_) (fun hp => absurd hp h22)
          refine lv_ldc hx hb C.2.2.2.1 (C.2.2.2.2 _ gk_M_141) d_M_readyAsk_50 ?_
          exact m_M_readyAsk_b52 hret C _ _ _ _ _ _ _ hF _ _ _ (lv_sub hl [1, 2] rfl) hw
      · rw [if_neg h7] at hF
        refine lv_icmp_ne (tgt := 84) hx hb d_M_readyAsk_26 (by decide) (fun _ => ?_) (fun hp => absurd hp h7)
        refine lv_iload_n hx hb d_M_readyAsk_84 rfl (lv_at hl 0 rfl) ?_
        refine lv_bipush (v := 11) hx hb d_M_readyAsk_85 (by decide) ?_
        by_cases h8 : v5 = (11 : Int32)
        · rw [if_pos h8] at hF
          refine lv_icmp_ne (tgt := 111) hx hb d_M_readyAsk_87 (by decide) (fun hn => absurd h8 hn) (fun _ => ?_)
          refine lv_aload_n hx hb d_M_readyAsk_90 rfl (lv_at hl 1 rfl) ?_
          refine lv_iconst (v := 2) hx hb d_M_readyAsk_91 (by decide) ?_
          refine lv_aload_n hx hb d_M_readyAsk_92 rfl (lv_at hl 1 rfl) ?_
          obtain ⟨r10, hr10, hF⟩ := ob_ex hF
          refine ga_getR C hw gf_M_77 t1 hr10 d_M_readyAsk_93 ?_
          refine lv_iload_n hx hb d_M_readyAsk_96 rfl (lv_at hl 2 rfl) ?_
          obtain ⟨t11, hF⟩ := gd_ex hF
          obtain ⟨b12, hF⟩ := gd_ex hF
          refine ga_iald C hw t11 b12 d_M_readyAsk_97 ?_
          refine lv_aload_n hx hb d_M_readyAsk_98 rfl (lv_at hl 1 rfl) ?_
          obtain ⟨r13, hr13, hF⟩ := ob_ex hF
          refine ga_getR C hw gf_M_80 t1 hr13 d_M_readyAsk_99 ?_
          refine lv_iload_n hx hb d_M_readyAsk_102 rfl (lv_at hl 2 rfl) ?_
          obtain ⟨t14, hF⟩ := gd_ex hF
          obtain ⟨b15, hF⟩ := gd_ex hF
          refine ga_iald C hw t14 b15 d_M_readyAsk_103 ?_
          refine lv_iconst (v := 0) hx hb d_M_readyAsk_104 (by decide) ?_
          obtain ⟨I16, J17, c18, hF⟩ := bd2_ex hF
          refine ga_cVv (As := [.int (2 : Int32), .int (I r10 p1.toNatClampNeg), .int (I r13 p1.toNatClampNeg), .int (0 : Int32)]) C hw (c_M_ready l D T z L c18) gy_M_137 t1 rfl hl.1 ⟨Nat.le_of_ble_eq_true rfl, Nat.le_of_ble_eq_true rfl, rfl, rfl, Nat.le_of_ble_eq_true rfl, Nat.le_of_ble_eq_true rfl⟩ (Nat.le_of_ble_eq_true rfl) rfl d_M_readyAsk_105 (fun H locs hw => ?_)
          refine lv_goto (tgt := 143) hx hb d_M_readyAsk_108 (by decide) ?_
          exact m_M_readyAsk_b143 hret C _ _ hF _ _ _ (lv_sub hl [] rfl) hw
        · rw [if_neg h8] at hF
          refine lv_icmp_ne (tgt := 111) hx hb d_M_readyAsk_87 (by decide) (fun _ => ?_) (fun hp => absurd hp h8)
          refine lv_aload_n hx hb d_M_readyAsk_111 rfl (lv_at hl 1 rfl) ?_
          refine lv_iload_n hx hb d_M_readyAsk_112 rfl (lv_at hl 0 rfl) ?_
          refine lv_iconst (v := 5) hx hb d_M_readyAsk_113 (by decide) ?_
          by_cases h9 : v5 = (5 : Int32)
          · rw [if_pos h9] at hF
            refine lv_icmp_ne (tgt := 121) hx hb d_M_readyAsk_114 (by decide) (fun hn => absurd h9 hn) (fun _ => ?_)
            refine lv_iconst (v := 3) hx hb d_M_readyAsk_117 (by decide) ?_
            refine lv_goto (tgt := 122) hx hb d_M_readyAsk_118 (by decide) ?_
            exact m_M_readyAsk_b122 hret C _ _ _ _ _ _ hF _ _ _ (lv_sub hl [1, 2] rfl) hw
          · rw [if_neg h9] at hF
            refine lv_icmp_ne (tgt := 121) hx hb d_M_readyAsk_114 (by decide) (fun _ => ?_) (fun hp => absurd hp h9)
            refine lv_iconst (v := 2) hx hb d_M_readyAsk_121 (by decide) ?_
            exact m_M_readyAsk_b122 hret C _ _ _ _ _ _ hF _ _ _ (lv_sub hl [1, 2] rfl) hw
  refine key _ (fun pc ls H locs I1 J1 he hd hw => ?_)
  · cases he
    exact W.vret hx hb hr (fun t ht _ => ⟨⟨(), rfl, trivial, ga_o hw ht⟩, hw.2.2.2.1.F ht⟩) hw.2.2.2.1.2.2 hd
set_option maxHeartbeats 4000000 in
set_option maxRecDepth 100000 in
theorem m_M_askAll_b50 {zz : gMI × gMJ} (hret : ∀ (pc : Nat) (ls : Array Slot) (H : Heap) (locs : List Loc) (I1 : gMI) (J1 : gMJ), (I1, J1) = zz → decode prog_10_method_14_code pc = .ok (.return_, 1) → ga_W D T z L S I1 J1 s H locs → W p l e rm_M_askAll s m args below meth c H locs 0 0 Q (F0 m pc ls [])) (C : CallFix p m c prog_10_method_14_code 4 s args ga_ws "RankHouseModel") : ∀ (n : Nat) (I : gMI) (J : gMJ) (l0 : Nat) (l1 : Int32) (l2 : Int32) (l3 : Int32), f_M_askAll_b50 S n I J l0 l1 l2 l3 = some zz → ∀ (ls : Array Slot) (H : Heap) (locs : List Loc), lv_has ls 4 [(0, .ref l0), (1, .int l1), (2, .int l2), (3, .int l3)] → ga_W D T z L S I J s H locs → W p l e rm_M_askAll s m args below meth c H locs 0 0 Q (F0 m 50 ls []) := by
  intro n
  induction n with
  | zero =>
    intro I J l0 l1 l2 l3 hF ls H locs hl hw
    rw [f_M_askAll_b50] at hF
    cases hF
  | succ n ih =>
    intro I J l0 l1 l2 l3 hF ls H locs hl hw
    have hx := C.1
    have hb := C.2.1
    rw [f_M_askAll_b50] at hF
    refine lv_iload_n hx hb d_M_askAll_50 rfl (lv_at hl 3 rfl) ?_
    refine lv_bipush (v := 8) hx hb d_M_askAll_51 (by decide) ?_
    by_cases h1 : (8 : Int32) ≤ l3
    · rw [if_pos h1] at hF
      refine lv_icmp_ge (tgt := 92) hx hb d_M_askAll_53 (by decide) (fun _ => ?_) (fun hn => absurd h1 hn)
      exact hret _ _ _ _ _ _ (Option.some.inj hF) d_M_askAll_92 hw
    · rw [if_neg h1] at hF
      refine lv_icmp_ge (tgt := 92) hx hb d_M_askAll_53 (by decide) (fun hp => absurd hp h1) (fun _ => ?_)
      refine lv_aload_n hx hb d_M_askAll_56 rfl (lv_at hl 0 rfl) ?_
      refine lv_iload_n hx hb d_M_askAll_57 rfl (lv_at hl 2 rfl) ?_
      refine lv_aload_n hx hb d_M_askAll_58 rfl (lv_at hl 0 rfl) ?_
      obtain ⟨t2, hF⟩ := gd_ex hF
      obtain ⟨r3, hr3, hF⟩ := ob_ex hF
      refine ga_getR C hw gf_M_20 t2 hr3 d_M_askAll_59 ?_
      refine lv_iload_n hx hb d_M_askAll_62 rfl (lv_at hl 1 rfl) ?_
      obtain ⟨t4, hF⟩ := gd_ex hF
      obtain ⟨b5, hF⟩ := gd_ex hF
      refine ga_iald C hw t4 b5 d_M_askAll_63 ?_
      refine lv_aload_n hx hb d_M_askAll_64 rfl (lv_at hl 0 rfl) ?_
      obtain ⟨r6, hr6, hF⟩ := ob_ex hF
      refine ga_getR C hw gf_M_35 t2 hr6 d_M_askAll_65 ?_
      refine lv_iload_n hx hb d_M_askAll_68 rfl (lv_at hl 1 rfl) ?_
      obtain ⟨t7, hF⟩ := gd_ex hF
      obtain ⟨b8, hF⟩ := gd_ex hF
      refine ga_iald C hw t7 b8 d_M_askAll_69 ?_
      refine lv_aload_n hx hb d_M_askAll_70 rfl (lv_at hl 0 rfl) ?_
      obtain ⟨r9, hr9, hF⟩ := ob_ex hF
      refine ga_getR C hw gf_M_38 t2 hr9 d_M_askAll_71 ?_
      refine lv_iload_n hx hb d_M_askAll_74 rfl (lv_at hl 1 rfl) ?_
      obtain ⟨t10, hF⟩ := gd_ex hF
      obtain ⟨b11, hF⟩ := gd_ex hF
      refine ga_iald C hw t10 b11 d_M_askAll_75 ?_
      refine lv_aload_n hx hb d_M_askAll_76 rfl (lv_at hl 0 rfl) ?_
      obtain ⟨r12, hr12, hF⟩ := ob_ex hF
      refine ga_getR C hw gf_M_32 t2 hr12 d_M_askAll_77 ?_
      refine lv_iload_n hx hb d_M_askAll_80 rfl (lv_at hl 1 rfl) ?_
      obtain ⟨t13, hF⟩ := gd_ex hF
      obtain ⟨b14, hF⟩ := gd_ex hF
      refine ga_iald C hw t13 b14 d_M_askAll_81 ?_
      refine lv_iload_n hx hb d_M_askAll_82 rfl (lv_at hl 3 rfl) ?_
      obtain ⟨I15, J16, c17, hF⟩ := bd2_ex hF
      refine ga_cVv (As := [.int l2, .int (I r3 l1.toNatClampNeg), .int (I r6 l1.toNatClampNeg), .int (I r9 l1.toNatClampNeg), .int (I r12 l1.toNatClampNeg), .int l3]) C hw (c_M_send l D T z L c17) gy_M_146 t2 rfl hl.1 ⟨Nat.le_of_ble_eq_true rfl, Nat.le_of_ble_eq_true rfl, rfl, rfl, Nat.le_of_ble_eq_true rfl, Nat.le_of_ble_eq_true rfl⟩ (Nat.le_of_ble_eq_true rfl) rfl d_M_askAll_83 (fun H locs hw => ?_)
      obtain ⟨v18, ev18, hF⟩ := bnd_ex hF
      refine lv_iinc (k := 3) (v := v18) hx hb d_M_askAll_86 hl rfl (by rw [ev18]; rfl) (by decide) rfl (fun ls hl => ?_)
      have hl : lv_has ls 4 [(3, .int v18), (0, .ref l0), (1, .int l1), (2, .int l2)] := hl
      refine lv_goto (tgt := 50) hx hb d_M_askAll_89 (by decide) ?_
      exact ih _ _ _ _ _ _ hF _ _ _ (lv_sub hl [1, 2, 3, 0] rfl) hw
end WALK
