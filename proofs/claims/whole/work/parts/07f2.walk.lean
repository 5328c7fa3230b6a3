section WALK
variable {p : Program} {l : Launch} {e : Env} {s : State} {m : MethodId} {args : Array Value} {below : List Frame} {meth : Method} {c : Code} {Q : State → Prop} {D : va_G} {T : Nat → ClassId} {z : Nat} {L : List Nat} {S : gS}
set_option maxHeartbeats 4000000 in
set_option maxRecDepth 100000 in
theorem m_M_askAll_b19 {zz : gMI × gMJ} (hret : ∀ (pc : Nat) (ls : Array Slot) (H : Heap) (locs : List Loc) (I1 : gMI) (J1 : gMJ), (I1, J1) = zz → decode prog_10_method_14_code pc = .ok (.return_, 1) → ga_W D T z L S I1 J1 s H locs → W p l e rm_M_askAll s m args below meth c H locs 0 0 Q (F0 m pc ls [])) (C : CallFix p m c prog_10_method_14_code 4 s args ga_ws "RankHouseModel") : ∀ (n : Nat) (I : gMI) (J : gMJ) (l0 : Nat) (l1 : Int32) (l2 : Int32) (l3 : Int32), f_M_askAll_b19 S n I J l0 l1 l2 l3 = some zz → ∀ (ls : Array Slot) (H : Heap) (locs : List Loc), lv_has ls 4 [(0, .ref l0), (1, .int l1), (2, .int l2), (3, .int l3)] → ga_W D T z L S I J s H locs → W p l e rm_M_askAll s m args below meth c H locs 0 0 Q (F0 m 19 ls []) := by
  intro n
  induction n with
  | zero =>
    intro I J l0 l1 l2 l3 hF ls H locs hl hw
    rw [f_M_askAll_b19] at hF
    cases hF
  | succ n ih =>
    intro I J l0 l1 l2 l3 hF ls H locs hl hw
    have hx := C.1
    have hb := C.2.1
    rw [f_M_askAll_b19] at hF
    refine lv_iload_n hx hb d_M_askAll_19 rfl (lv_at hl 3 rfl) ?_
    refine lv_bipush (v := 8) hx hb d_M_askAll_20 (by decide) ?_
    by_cases h1 : (8 : Int32) ≤ l3
    · rw [if_pos h1] at hF
      refine lv_icmp_ge (tgt := 43) hx hb d_M_askAll_22 (by decide) (fun _ => ?_) (fun hn => absurd h1 hn)
      refine lv_aload_n hx hb d_M_askAll_43 rfl (lv_at hl 0 rfl) ?_
      refine lv_iload_n hx hb d_M_askAll_44 rfl (lv_at hl 1 rfl) ?_
      obtain ⟨t2, hF⟩ := gd_ex hF
      obtain ⟨I3, J4, c5, hF⟩ := bd2_ex hF
      refine ga_cVv (As := [.int l1]) C hw (c_M_readyAsk l D T z L c5) gy_M_142 t2 rfl hl.1 ⟨Nat.le_of_ble_eq_true rfl, Nat.le_of_ble_eq_true rfl, rfl, rfl, Nat.le_of_ble_eq_true rfl, Nat.le_of_ble_eq_true rfl⟩ (Nat.le_of_ble_eq_true rfl) rfl d_M_askAll_45 (fun H locs hw => ?_)
      refine lv_iconst (v := 0) hx hb d_M_askAll_48 (by decide) ?_
      refine lv_istore_n hx hb d_M_askAll_49 rfl hl (by decide) rfl (fun ls hl => ?_)
      have hl : lv_has ls 4 [(3, .int (0 : Int32)), (0, .ref l0), (1, .int l1), (2, .int l2)] := hl
      exact m_M_askAll_b50 hret C gFuel _ _ _ _ _ _ hF _ _ _ (lv_sub hl [1, 2, 3, 0] rfl) hw
    · rw [if_neg h1] at hF
      refine lv_icmp_ge (tgt := 43) hx hb d_M_askAll_22 (by decide) (fun hp => absurd hp h1) (fun _ => ?_)
      refine lv_aload_n hx hb d_M_askAll_25 rfl (lv_at hl 0 rfl) ?_
      obtain ⟨t6, hF⟩ := gd_ex hF
      obtain ⟨r7, hr7, hF⟩ := ob_ex hF
      refine ga_getR C hw gf_M_87 t6 hr7 d_M_askAll_26 ?_
      refine lv_bipush (v := 8) hx hb d_M_askAll_29 (by decide) ?_
      refine lv_iload_n hx hb d_M_askAll_31 rfl (lv_at hl 1 rfl) ?_
      refine lv_imul hx hb d_M_askAll_32 ?_
      refine lv_iload_n hx hb d_M_askAll_33 rfl (lv_at hl 3 rfl) ?_
      refine lv_iadd hx hb d_M_askAll_34 ?_
      refine lv_iconst (v := 0) hx hb d_M_askAll_35 (by decide) ?_
      obtain ⟨t8, hF⟩ := gd_ex hF
      obtain ⟨b9, hF⟩ := gd_ex hF
      obtain ⟨I10, eI10, hF⟩ := bnd_ex hF
      refine ga_zast C hw t8 b9 rfl eI10 d_M_askAll_36 (fun H locs hw => ?_)
      obtain ⟨v11, ev11, hF⟩ := bnd_ex hF
      refine lv_iinc (k := 3) (v := v11) hx hb d_M_askAll_37 hl rfl (by rw [ev11]; rfl) (by decide) rfl (fun ls hl => ?_)
      have hl : lv_has ls 4 [(3, .int v11), (0, .ref l0), (1, .int l1), (2, .int l2)] := hl
      refine lv_goto (tgt := 19) hx hb d_M_askAll_40 (by decide) ?_
      exact ih _ _ _ _ _ _ hF _ _ _ (lv_sub hl [1, 2, 3, 0] rfl) hw
set_option maxHeartbeats 4000000 in
set_option maxRecDepth 100000 in
theorem c_M_askAll (l : Launch) (D : va_G) (T : Nat → ClassId) (z : Nat) (L : List Nat) {S : gS} {I : gMI} {J : gMJ} {p0 : Nat} {p1 : Int32} {p2 : Int32} {RI : gMI} {RJ : gMJ} (hF : f_M_askAll S I J p0 p1 p2 = some (RI, RJ)) : ga_Mv l y_M_askAll prog_10_method_14_code 4 (Option.none : Option Jvm.ClassFile.FieldType) rm_M_askAll [.ref p0, .int p1, .int p2] D T z L S I J RI RJ := by
  refine Met.ofW (cc := prog_10_method_14_code) (maxL := 4) (ret := (Option.none : Option Jvm.ClassFile.FieldType)) (by decide) rfl ?_
  intro p e s m args below meth c s₁ B hml hv
  obtain ⟨ha, hv⟩ := hv
  have hx := B.exec
  have hb := B.bytes
  have hr := B.returns
  have hts := atoms_spec (ws := .code y_M_askAll prog_10_method_14_code 4 (Option.none : Option Jvm.ClassFile.FieldType) :: ga_ws) B.pre
  have hown : s.vm.findClass "RankHouseModel" = some m.cls := findClass_of_methodNamed B.named
  have hlocks := B.notSynchronized
  have C : CallFix p m c prog_10_method_14_code 4 s args ga_ws "RankHouseModel" := ⟨hx, hb, hml, hown, fun w h => hts w (List.mem_cons_of_mem _ h)⟩
  have hw := ga_start hv
  have hl := lv_entry ([.ref p0, .int p1, .int p2]) (n := 4) (Nat.le_of_ble_eq_true rfl)
  rw [show entryFrame m args 4 = entryFrame m ([.ref p0, .int p1, .int p2] : List Value).toArray 4 by rw [ha], lg_entry_eq]
  generalize (lg_sl ([.ref p0, .int p1, .int p2]) ++ List.replicate (4 - (lg_sl ([.ref p0, .int p1, .int p2])).length) Slot.unset).toArray = ls at hl ⊢
  have hl : lv_has ls 4 [(0, .ref p0), (1, .int p1), (2, .int p2)] := hl
  have key : ∀ Q : State → Prop, (∀ (pc : Nat) (ls : Array Slot) (H : Heap) (locs : List Loc) (I1 : gMI) (J1 : gMJ), (I1, J1) = (RI, RJ) → decode prog_10_method_14_code pc = .ok (.return_, 1) → ga_W D T z L S I1 J1 s H locs → W p l e rm_M_askAll s m args below meth c H locs 0 0 Q (F0 m pc ls [])) → W p l e rm_M_askAll s m args below meth c s.heap [] 0 0 Q (F0 m 0 ls []) := by
    intro Q hret
    rw [f_M_askAll] at hF
    refine lv_aload_n hx hb d_M_askAll_0 rfl (lv_at hl 0 rfl) ?_
    obtain ⟨t1, hF⟩ := gd_ex hF
    obtain ⟨r2, hr2, hF⟩ := ob_ex hF
    refine ga_getR C hw gf_M_53 t1 hr2 d_M_askAll_1 ?_
    refine lv_iload_n hx hb d_M_askAll_4 rfl (lv_at hl 1 rfl) ?_
    refine lv_iload_n hx hb d_M_askAll_5 rfl (lv_at hl 2 rfl) ?_
    obtain ⟨t3, hF⟩ := gd_ex hF
    obtain ⟨b4, hF⟩ := gd_ex hF
    obtain ⟨I5, eI5, hF⟩ := bnd_ex hF
    refine ga_iast C hw t3 b4 eI5 d_M_askAll_6 (fun H locs hw => ?_)
    refine lv_aload_n hx hb d_M_askAll_7 rfl (lv_at hl 0 rfl) ?_
    obtain ⟨r6, hr6, hF⟩ := ob_ex hF
    refine ga_getR C hw gf_M_38 t1 hr6 d_M_askAll_8 ?_
    refine lv_iload_n hx hb d_M_askAll_11 rfl (lv_at hl 1 rfl) ?_
    refine lv_dup2_11 hx hb d_M_askAll_12 rfl rfl ?_
    obtain ⟨t7, hF⟩ := gd_ex hF
    obtain ⟨b8, hF⟩ := gd_ex hF
    refine ga_iald C hw t7 b8 d_M_askAll_13 ?_
    refine lv_iconst (v := 1) hx hb d_M_askAll_14 (by decide) ?_
    refine lv_iadd hx hb d_M_askAll_15 ?_
    obtain ⟨I9, eI9, hF⟩ := bnd_ex hF
    refine ga_iast C hw t7 b8 eI9 d_M_askAll_16 (fun H locs hw => ?_)
    refine lv_iconst (v := 0) hx hb d_M_askAll_17 (by decide) ?_
    refine lv_istore_n hx hb d_M_askAll_18 rfl hl (by decide) rfl (fun ls hl => ?_)
    have hl : lv_has ls 4 [(3, .int (0 : Int32)), (0, .ref p0), (1, .int p1), (2, .int p2)] := hl
    exact m_M_askAll_b19 hret C gFuel _ _ _ _ _ _ hF _ _ _ (lv_sub hl [1, 2, 3, 0] rfl) hw
  refine key _ (fun pc ls H locs I1 J1 he hd hw => ?_)
  · cases he
    exact W.vret hx hb hr (fun t ht _ => ⟨⟨(), rfl, trivial, ga_o hw ht⟩, hw.2.2.2.1.F ht⟩) hw.2.2.2.1.2.2 hd
set_option maxHeartbeats 4000000 in
set_option maxRecDepth 100000 in
theorem m_M_readyAnswer_b329 {zz : gMI × gMJ} (hret : ∀ (pc : Nat) (ls : Array Slot) (H : Heap) (locs : List Loc) (I1 : gMI) (J1 : gMJ), (I1, J1) = zz → decode prog_10_method_15_code pc = .ok (.return_, 1) → ga_W D T z L S I1 J1 s H locs → W p l e rm_M_readyAnswer s m args below meth c H locs 0 0 Q (F0 m pc ls [])) (C : CallFix p m c prog_10_method_15_code 8 s args ga_ws "RankHouseModel") : ∀ (I : gMI) (J : gMJ), f_M_readyAnswer_b329 S I J = some zz → ∀ (ls : Array Slot) (H : Heap) (locs : List Loc), lv_has ls 8 [] → ga_W D T z L S I J s H locs → W p l e rm_M_readyAnswer s m args below meth c H locs 0 0 Q (F0 m 329 ls []) := by
  intro I J hF ls H locs hl hw
  have hx := C.1
  have hb := C.2.1
  rw [f_M_readyAnswer_b329] at hF
  exact hret _ _ _ _ _ _ (Option.some.inj hF) d_M_readyAnswer_329 hw
set_option maxHeartbeats 4000000 in
set_option maxRecDepth 100000 in
theorem m_M_readyAnswer_b90 {zz : gMI × gMJ} (hret : ∀ (pc : Nat) (ls : Array Slot) (H : Heap) (locs : List Loc) (I1 : gMI) (J1 : gMJ), (I1, J1) = zz → decode prog_10_method_15_code pc = .ok (.return_, 1) → ga_W D T z L S I1 J1 s H locs → W p l e rm_M_readyAnswer s m args below meth c H locs 0 0 Q (F0 m pc ls [])) (C : CallFix p m c prog_10_method_15_code 8 s args ga_ws "RankHouseModel") : ∀ (I : gMI) (J : gMJ) (s0 : Int32) (s1 : Int32) (s2 : Int32) (s3 : Nat), f_M_readyAnswer_b90 S I J s0 s1 s2 s3 = some zz → ∀ (ls : Array Slot) (H : Heap) (locs : List Loc), lv_has ls 8 [] → ga_W D T z L S I J s H locs → W p l e rm_M_readyAnswer s m args below meth c H locs 0 0 Q (F0 m 90 ls [.int s0, .int s1, .int s2, .ref s3]) := by
  intro I J s0 s1 s2 s3 hF ls H locs hl hw
  have hx := C.1
  have hb := C.2.1
  rw [f_M_readyAnswer_b90] at hF
  refine lv_iconst (v := 0) hx hb d_M_readyAnswer_90 (by decide) ?_
  obtain ⟨t1, hF⟩ := gd_ex hF
  obtain ⟨I2, J3, c4, hF⟩ := bd2_ex hF
  refine ga_cVv (As := [.int s2, .int s1, .int s0, .int (0 : Int32)]) C hw (c_M_ready l D T z L c4) gy_M_137 t1 rfl hl.1 ⟨Nat.le_of_ble_eq_true rfl, Nat.le_of_ble_eq_true rfl, rfl, rfl, Nat.le_of_ble_eq_true rfl, Nat.le_of_ble_eq_true rfl⟩ (Nat.le_of_ble_eq_true rfl) rfl d_M_readyAnswer_91 (fun H locs hw => ?_)
  refine lv_goto (tgt := 329) hx hb d_M_readyAnswer_94 (by decide) ?_
  exact m_M_readyAnswer_b329 hret C _ _ hF _ _ _ hl hw
set_option maxHeartbeats 4000000 in
set_option maxRecDepth 100000 in
theorem m_M_readyAnswer_b209 {zz : gMI × gMJ} (hret : ∀ (pc : Nat) (ls : Array Slot) (H : Heap) (locs : List Loc) (I1 : gMI) (J1 : gMJ), (I1, J1) = zz → decode prog_10_method_15_code pc = .ok (.return_, 1) → ga_W D T z L S I1 J1 s H locs → W p l e rm_M_readyAnswer s m args below meth c H locs 0 0 Q (F0 m pc ls [])) (C : CallFix p m c prog_10_method_15_code 8 s args ga_ws "RankHouseModel") : ∀ (I : gMI) (J : gMJ) (l0 : Nat) (l6 : Int32), f_M_readyAnswer_b209 S I J l0 l6 = some zz → ∀ (ls : Array Slot) (H : Heap) (locs : List Loc), lv_has ls 8 [(0, .ref l0), (6, .int l6)] → ga_W D T z L S I J s H locs → W p l e rm_M_readyAnswer s m args below meth c H locs 0 0 Q (F0 m 209 ls []) := by
  intro I J l0 l6 hF ls H locs hl hw
  have hx := C.1
  have hb := C.2.1
  rw [f_M_readyAnswer_b209] at hF
  refine lv_aload_n hx hb d_M_readyAnswer_209 rfl (lv_at hl 0 rfl) ?_
  refine lv_iload hx hb d_M_readyAnswer_210 (lv_at hl 1 rfl) ?_
  obtain ⟨t1, hF⟩ := gd_ex hF
  obtain ⟨I2, eI2, hF⟩ := bnd_ex hF
  refine ga_putI C hw gp_M_130 t1 rfl rfl eI2 d_M_readyAnswer_212 (fun H locs hw => ?_)
  refine lv_aload_n hx hb d_M_readyAnswer_215 rfl (lv_at hl 0 rfl) ?_
  refine lv_lconst (v := 0) hx hb d_M_readyAnswer_216 (by decide) ?_
  obtain ⟨J3, eJ3, hF⟩ := bnd_ex hF
  refine ga_putJ C hw gp_M_133 t1 eJ3 d_M_readyAnswer_217 (fun H locs hw => ?_)
  refine lv_goto (tgt := 329) hx hb d_M_readyAnswer_220 (by decide) ?_
  exact m_M_readyAnswer_b329 hret C _ _ hF _ _ _ (lv_sub hl [] rfl) hw
set_option maxHeartbeats 4000000 in
set_option maxRecDepth 100000 in
theorem m_M_readyAnswer_b168 {zz : gMI × gMJ} (hret : ∀ (pc : Nat) (ls : Array Slot) (H : Heap) (locs : List Loc) (I1 : gMI) (J1 : gMJ), (I1, J1) = zz → decode prog_10_method_15_code pc = .ok (.return_, 1) → ga_W D T z L S I1 J1 s H locs → W p l e rm_M_readyAnswer s m args below meth c H locs 0 0 Q (F0 m pc ls [])) (C : CallFix p m c prog_10_method_15_code 8 s args ga_ws "RankHouseModel") : ∀ (n : Nat) (I : gMI) (J : gMJ) (l0 : Nat) (l2 : Int32) (l3 : Int32) (l4 : Int32) (l5 : Int32) (l6 : Int32) (l7 : Int32), f_M_readyAnswer_b168 S n I J l0 l2 l3 l4 l5 l6 l7 = some zz → ∀ (ls : Array Slot) (H : Heap) (locs : List Loc), lv_has ls 8 [(0, .ref l0), (2, .int l2), (3, .int l3), (4, .int l4), (5, .int l5), (6, .int l6), (7, .int l7)] → ga_W D T z L S I J s H locs → W p l e rm_M_readyAnswer s m args below meth c H locs 0 0 Q (F0 m 168 ls []) := by
  intro n
  induction n with
  | zero =>
    intro I J l0 l2 l3 l4 l5 l6 l7 hF ls H locs hl hw
    rw [f_M_readyAnswer_b168] at hF
    cases hF
  | succ n ih =>
    intro I J l0 l2 l3 l4 l5 l6 l7 hF ls H locs hl hw
    have hx := C.1
    have hb := C.2.1
    rw [f_M_readyAnswer_b168] at hF
    refine lv_iload hx hb d_M_readyAnswer_168 (lv_at hl 6 rfl) ?_
    refine lv_iload hx hb d_M_readyAnswer_170 (lv_at hl 5 rfl) ?_
    by_cases h1 : l6 ≤ l7
    · rw [if_pos h1] at hF
      refine lv_icmp_ge (tgt := 209) hx hb d_M_readyAnswer_172 (by decide) (fun _ => ?_) (fun hn => absurd h1 hn)
      exact m_M_readyAnswer_b209 hret C _ _ _ _ hF _ _ _ (lv_sub hl [0, 5] rfl) hw
    · rw [if_neg h1] at hF
      refine lv_icmp_ge (tgt := 209) hx hb d_M_readyAnswer_172 (by decide) (fun hp => absurd hp h1) (fun _ => ?_)
      refine lv_iload hx hb d_M_readyAnswer_175 (lv_at hl 6 rfl) ?_
      refine lv_bipush (v := 64) hx hb d_M_readyAnswer_177 (by decide) ?_
      by_cases h2 : (64 : Int32) ≤ l7
      · rw [if_pos h2] at hF
        refine lv_icmp_ge (tgt := 209) hx hb d_M_readyAnswer_179 (by decide) (fun _ => ?_) (fun hn => absurd h2 hn)
        exact m_M_readyAnswer_b209 hret C _ _ _ _ hF _ _ _ (lv_sub hl [0, 5] rfl) hw
      · rw [if_neg h2] at hF
        refine lv_icmp_ge (tgt := 209) hx hb d_M_readyAnswer_179 (by decide) (fun hp => absurd hp h2) (fun _ => ?_)
        refine lv_aload_n hx hb d_M_readyAnswer_182 rfl (lv_at hl 0 rfl) ?_
        obtain ⟨t3, hF⟩ := gd_ex hF
        obtain ⟨r4, hr4, hF⟩ := ob_ex hF
        refine ga_getR C hw gf_M_111 t3 hr4 d_M_readyAnswer_183 ?_
        refine lv_iload hx hb d_M_readyAnswer_186 (lv_at hl 6 rfl) ?_
        refine lv_aload_n hx hb d_M_readyAnswer_188 rfl (lv_at hl 0 rfl) ?_
        refine lv_iload_n hx hb d_M_readyAnswer_189 rfl (lv_at hl 1 rfl) ?_
        refine lv_iload_n hx hb d_M_readyAnswer_190 rfl (lv_at hl 2 rfl) ?_
        refine lv_iload hx hb d_M_readyAnswer_191 (lv_at hl 3 rfl) ?_
        refine lv_iload hx hb d_M_readyAnswer_193 (lv_at hl 4 rfl) ?_
        refine lv_iload hx hb d_M_readyAnswer_195 (lv_at hl 6 rfl) ?_
        refine lv_iconst (v := 1) hx hb d_M_readyAnswer_197 (by decide) ?_
        refine lv_iadd hx hb d_M_readyAnswer_198 ?_
        obtain ⟨x5, c6, hF⟩ := ob_ex hF
        refine ga_cVi (As := [.int l2, .int l3, .int l4, .int l5, .int (l7 + (1 : Int32))]) C hw (c_M_leastOf l D T z L c6) gy_M_150 t3 rfl hl.1 ⟨Nat.le_of_ble_eq_true rfl, Nat.le_of_ble_eq_true rfl, rfl, rfl, Nat.le_of_ble_eq_true rfl, Nat.le_of_ble_eq_true rfl⟩ (Nat.le_of_ble_eq_true rfl) rfl d_M_readyAnswer_199 (fun H locs hw => ?_)
        obtain ⟨t7, hF⟩ := gd_ex hF
        obtain ⟨b8, hF⟩ := gd_ex hF
        obtain ⟨I9, eI9, hF⟩ := bnd_ex hF
        refine ga_iast C hw t7 b8 eI9 d_M_readyAnswer_202 (fun H locs hw => ?_)
        obtain ⟨v10, ev10, hF⟩ := bnd_ex hF
        refine lv_iinc (k := 6) (v := v10) hx hb d_M_readyAnswer_203 hl rfl (by rw [ev10]; rfl) (by decide) rfl (fun ls hl => ?_)
        have hl : lv_has ls 8 [(7, .int v10), (0, .ref l0), (2, .int l2), (3, .int l3), (4, .int l4), (5, .int l5), (6, .int l6)] := hl
        refine lv_goto (tgt := 168) hx hb d_M_readyAnswer_206 (by decide) ?_
        exact ih _ _ _ _ _ _ _ _ _ hF _ _ _ (lv_sub hl [1, 2, 3, 4, 5, 6, 0] rfl) hw
set_option maxHeartbeats 4000000 in
set_option maxRecDepth 100000 in
theorem c_M_readyAnswer (l : Launch) (D : va_G) (T : Nat → ClassId) (z : Nat) (L : List Nat) {S : gS} {I : gMI} {J : gMJ} {p0 : Nat} {p1 : Int32} {p2 : Int32} {p3 : Int32} {RI : gMI} {RJ : gMJ} (hF : f_M_readyAnswer S I J p0 p1 p2 p3 = some (RI, RJ)) : ga_Mv l y_M_readyAnswer prog_10_method_15_code 8 (Option.none : Option Jvm.ClassFile.FieldType) rm_M_readyAnswer [.ref p0, .int p1, .int p2, .int p3] D T z L S I J RI RJ := by
  refine Met.ofW (cc := prog_10_method_15_code) (maxL := 8) (ret := (Option.none : Option Jvm.ClassFile.FieldType)) (by decide) rfl ?_
  intro p e s m args below meth c s₁ B hml hv
  obtain ⟨ha, hv⟩ := hv
  have hx := B.exec
  have hb := B.bytes
  have hr := B.returns
  have hts := atoms_spec (ws := .code y_M_readyAnswer prog_10_method_15_code 8 (Option.none : Option Jvm.ClassFile.FieldType) :: ga_ws) B.pre
  have hown : s.vm.findClass "RankHouseModel" = some m.cls := findClass_of_methodNamed B.named
  have hlocks := B.notSynchronized
  have C : CallFix p m c prog_10_method_15_code 8 s args ga_ws "RankHouseModel" := ⟨hx, hb, hml, hown, fun w h => hts w (List.mem_cons_of_mem _ h)⟩
  have hw := ga_start hv
  have hl := lv_entry ([.ref p0, .int p1, .int p2, .int p3]) (n := 8) (Nat.le_of_ble_eq_true rfl)
  rw [show entryFrame m args 8 = entryFrame m ([.ref p0, .int p1, .int p2, .int p3] : List Value).toArray 8 by rw [ha], lg_entry_eq]
  generalize (lg_sl ([.ref p0, .int p1, .int p2, .int p3]) ++ List.replicate (8 - (lg_sl ([.ref p0, .int p1, .int p2, .int p3])).length) Slot.unset).toArray = ls at hl ⊢
  have hl : lv_has ls 8 [(0, .ref p0), (1, .int p1), (2, .int p2), (3, .int p3)] := hl
  have key : ∀ Q : State → Prop, (∀ (pc : Nat) (ls : Array Slot) (H : Heap) (locs : List Loc) (I1 : gMI) (J1 : gMJ), (I1, J1) = (RI, RJ) → decode prog_10_method_15_code pc = .ok (.return_, 1) → ga_W D T z L S I1 J1 s H locs → W p l e rm_M_readyAnswer s m args below meth c H locs 0 0 Q (F0 m pc ls [])) → W p l e rm_M_readyAnswer s m args below meth c s.heap [] 0 0 Q (F0 m 0 ls []) := by
    intro Q hret
    rw [f_M_readyAnswer] at hF
    refine lv_aload_n hx hb d_M_readyAnswer_0 rfl (lv_at hl 0 rfl) ?_
    obtain ⟨t1, hF⟩ := gd_ex hF
    obtain ⟨r2, hr2, hF⟩ := ob_ex hF
    refine ga_getR C hw gf_M_111 t1 hr2 d_M_readyAnswer_1 ?_
    refine lv_iconst (v := 0) hx hb d_M_readyAnswer_4 (by decide) ?_
    obtain ⟨t3, hF⟩ := gd_ex hF
    obtain ⟨b4, hF⟩ := gd_ex hF
    refine ga_iald C hw t3 b4 d_M_readyAnswer_5 ?_
    refine lv_topi (fun v5 ev5 => ?_)
    replace hF := bnd_at hF ev5
    refine lv_istore hx hb d_M_readyAnswer_6 hl (by decide) rfl (fun ls hl => ?_)
    have hl : lv_has ls 8 [(4, .int v5), (0, .ref p0), (1, .int p1), (2, .int p2), (3, .int p3)] := hl
    refine lv_aload_n hx hb d_M_readyAnswer_8 rfl (lv_at hl 1 rfl) ?_
    refine ga_getR C hw gf_M_111 t1 hr2 d_M_readyAnswer_9 ?_
    refine lv_iconst (v := 1) hx hb d_M_readyAnswer_12 (by decide) ?_
    obtain ⟨b6, hF⟩ := gd_ex hF
    refine ga_iald C hw t3 b6 d_M_readyAnswer_13 ?_
    refine lv_topi (fun v7 ev7 => ?_)
    replace hF := bnd_at hF ev7
    refine lv_istore hx hb d_M_readyAnswer_14 hl (by decide) rfl (fun ls hl => ?_)
    have hl : lv_has ls 8 [(5, .int v7), (4, .int v5), (0, .ref p0), (1, .int p1), (2, .int p2), (3, .int p3)] := hl
    refine lv_iload_n hx hb d_M_readyAnswer_16 rfl (lv_at hl 3 rfl) ?_
    refine lv_iconst (v := 1) hx hb d_M_readyAnswer_17 (by decide) ?_
    by_cases h8 : p1 = (1 : Int32)
    · rw [if_pos h8] at hF
      refine lv_icmp_ne (tgt := 42) hx hb d_M_readyAnswer_18 (by decide) (fun hn => absurd h8 hn) (fun _ => ?_)
      refine lv_aload_n hx hb d_M_readyAnswer_21 rfl (lv_at hl 2 rfl) ?_
      refine lv_iconst (v := 1) hx hb d_M_readyAnswer_22 (by decide) ?_
      refine lv_aload_n hx hb d_M_readyAnswer_23 rfl (lv_at hl 2 rfl) ?_
      obtain ⟨r48, hr48, hF⟩ := ob_ex hF
      refine ga_getR C hw gf_M_56 t1 hr48 d_M_readyAnswer_24 ?_
      refine lv_bipush (v := 8) hx hb d_M_readyAnswer_27 (by decide) ?_
      refine lv_iload_n hx hb d_M_readyAnswer_29 rfl (lv_at hl 5 rfl) ?_
      refine lv_imul hx hb d_M_readyAnswer_30 ?_
      refine lv_iload_n hx hb d_M_readyAnswer_31 rfl (lv_at hl 4 rfl) ?_
      refine lv_iadd hx hb d_M_readyAnswer_32 ?_
      obtain ⟨t49, hF⟩ := gd_ex hF
      obtain ⟨b50, hF⟩ := gd_ex hF
      refine ga_iald C hw t49 b50 d_M_readyAnswer_33 ?_
      refine lv_iconst (v := 0) hx hb d_M_readyAnswer_34 (by decide) ?_
      refine lv_iconst (v := 0) hx hb d_M_readyAnswer_35 (by decide) ?_
      obtain ⟨I51, J52, c53, hF⟩ := bd2_ex hF
      refine ga_cVv (As := [.int (1 : Int32), .int (I r48 (((8 : Int32) * p3) + p2).toNatClampNeg), .int (0 : Int32), .int (0 : Int32)]) C hw (c_M_ready l D T z L c53) gy_M_137 t1 rfl hl.1 ⟨Nat.le_of_ble_eq_true rfl, Nat.le_of_ble_eq_true rfl, rfl, rfl, Nat.le_of_ble_eq_true rfl, Nat.le_of_ble_eq_true rfl⟩ (Nat.le_of_ble_eq_true rfl) rfl d_M_readyAnswer_36 (fun H locs hw => ?_)
      refine lv_goto (tgt := 329) hx hb d_M_readyAnswer_39 (by decide) ?_
      exact m_M_readyAnswer_b329 hret C _ _ hF _ _ _ (lv_sub hl [] rfl) hw
    · rw [if_neg h8] at hF
      refine lv_icmp_ne (tgt := 42) hx hb d_M_readyAnswer_18 (by decide) (fun _ => ?_) (fun hp => absurd hp h8)
      refine lv_iload_n hx hb d_M_readyAnswer_42 rfl (lv_at hl 3 rfl) ?_
      refine lv_iconst (v := 3) hx hb d_M_readyAnswer_43 (by decide) ?_
      by_cases h9 : p1 = (3 : Int32)
      · rw [if_pos h9] at hF
        refine lv_icmp_ne (tgt := 97) hx hb d_M_readyAnswer_44 (by decide) (fun hn => absurd h9 hn) (fun _ => ?_)
        refine lv_aload_n hx hb d_M_readyAnswer_47 rfl (lv_at hl 2 rfl) ?_
        refine lv_iload_n hx hb d_M_readyAnswer_48 rfl (lv_at hl 4 rfl) ?_
        refine lv_iload_n hx hb d_M_readyAnswer_49 rfl (lv_at hl 5 rfl) ?_
        refine lv_iload hx hb d_M_readyAnswer_50 (lv_at hl 1 rfl) ?_
        refine lv_i2l hx hb d_M_readyAnswer_52 rfl ?_
        refine lv_iload hx hb d_M_readyAnswer_53 (lv_at hl 0 rfl) ?_
        refine lv_i2l hx hb d_M_readyAnswer_55 rfl ?_
        obtain ⟨x43, c44, hF⟩ := ob_ex hF
        refine ga_cVi (As := [.int p2, .int p3, .long v5.toInt64, .long v7.toInt64]) C hw (c_M_countOf l D T z L c44) gy_M_123 t1 rfl hl.1 ⟨Nat.le_of_ble_eq_true rfl, Nat.le_of_ble_eq_true rfl, rfl, rfl, Nat.le_of_ble_eq_true rfl, Nat.le_of_ble_eq_true rfl⟩ (Nat.le_of_ble_eq_true rfl) rfl d_M_readyAnswer_56 (fun H locs hw => ?_)
        refine lv_istore hx hb d_M_readyAnswer_59 hl (by decide) rfl (fun ls hl => ?_)
        have hl : lv_has ls 8 [(6, .int x43), (5, .int v7), (4, .int v5), (0, .ref p0), (1, .int p1), (2, .int p2), (3, .int p3)] := hl
        refine lv_aload_n hx hb d_M_readyAnswer_61 rfl (lv_at hl 3 rfl) ?_
        refine lv_iconst (v := 2) hx hb d_M_readyAnswer_62 (by decide) ?_
        refine lv_iload hx hb d_M_readyAnswer_63 (lv_at hl 0 rfl) ?_
        refine lv_iload hx hb d_M_readyAnswer_65 (lv_at hl 0 rfl) ?_
        by_cases h45 : x43 = 0
        · rw [if_pos h45] at hF
          refine lv_if_ne (tgt := 74) hx hb d_M_readyAnswer_67 (by decide) (fun hn => absurd h45 hn) (fun _ => ?_)
          refine lv_iconst (v := 0) hx hb d_M_readyAnswer_70 (by decide) ?_
          refine lv_goto (tgt := 90) hx hb d_M_readyAnswer_71 (by decide) ?_
          exact m_M_readyAnswer_b90 hret C _ _ _ _ _ _ hF _ _ _ (lv_sub hl [] rfl) hw
        · rw [if_neg h45] at hF
          refine lv_if_ne (tgt := 74) hx hb d_M_readyAnswer_67 (by decide) (fun _ => ?_) (fun hp => absurd hp h45)
          refine lv_aload_n hx hb d_M_readyAnswer_74 rfl (lv_at hl 3 rfl) ?_
          refine lv_iload_n hx hb d_M_readyAnswer_75 rfl (lv_at hl 5 rfl) ?_
          refine lv_iload_n hx hb d_M_readyAnswer_76 rfl (lv_at hl 6 rfl) ?_
          refine lv_iload hx hb d_M_readyAnswer_77 (lv_at hl 2 rfl) ?_
          refine lv_iload hx hb d_M_readyAnswer_79 (lv_at hl 1 rfl) ?_
          refine lv_iload hx hb d_M_readyAnswer_81 (lv_at hl 0 rfl) ?_
          refine lv_iconst (v := 1) hx hb d_M_readyAnswer_83 (by decide) ?_
          refine lv_iadd hx hb d_M_readyAnswer_84 ?_
          refine lv_iconst (v := 2) hx hb d_M_readyAnswer_85 (by decide) ?_
          refine lv_idiv hx hb d_M_readyAnswer_86 (by decide) ?_
          obtain ⟨x46, c47, hF⟩ := ob_ex hF
          refine ga_cVi (As := [.int p2, .int p3, .int v5, .int v7, .int ((x43 + (1 : Int32)) / (2 : Int32))]) C hw (c_M_leastOf l D T z L c47) gy_M_150 t1 rfl hl.1 ⟨Nat.le_of_ble_eq_true rfl, Nat.le_of_ble_eq_true rfl, rfl, rfl, Nat.le_of_ble_eq_true rfl, Nat.le_of_ble_eq_true rfl⟩ (Nat.le_of_ble_eq_true rfl) rfl d_M_readyAnswer_87 (fun H locs hw => ?_)
          exact m_M_readyAnswer_b90 hret C _ _ _ _ _ _ hF _ _ _ (lv_sub hl [] rfl) hw
      · rw [if_neg h9] at hF
        refine lv_icmp_ne (tgt := 97) hx hb d_M_readyAnswer_44 (by decide) (fun _ => ?_) (fun hp => absurd hp h9)
        refine lv_iload_n hx hb d_M_readyAnswer_97 rfl (lv_at hl 3 rfl) ?_
        refine lv_iconst (v := 5) hx hb d_M_readyAnswer_98 (by decide) ?_
        by_cases h10 : p1 = (5 : Int32)
        · rw [if_pos h10] at hF
          refine lv_icmp_ne (tgt := 145) hx hb d_M_readyAnswer_99 (by decide) (fun hn => absurd h10 hn) (fun _ => ?_)
          refine lv_aload_n hx hb d_M_readyAnswer_102 rfl (lv_at hl 2 rfl) ?_
          refine ga_getR C hw gf_M_111 t1 hr2 d_M_readyAnswer_103 ?_
          refine lv_iconst (v := 2) hx hb d_M_readyAnswer_106 (by decide) ?_
          obtain ⟨b34, hF⟩ := gd_ex hF
          refine ga_iald C hw t3 b34 d_M_readyAnswer_107 ?_
          refine lv_topi (fun v35 ev35 => ?_)
          replace hF := bnd_at hF ev35
          refine lv_istore hx hb d_M_readyAnswer_108 hl (by decide) rfl (fun ls hl => ?_)
          have hl : lv_has ls 8 [(6, .int v35), (5, .int v7), (4, .int v5), (0, .ref p0), (1, .int p1), (2, .int p2), (3, .int p3)] := hl
          refine lv_aload_n hx hb d_M_readyAnswer_110 rfl (lv_at hl 3 rfl) ?_
          refine lv_iconst (v := 2) hx hb d_M_readyAnswer_111 (by decide) ?_
          refine lv_aload_n hx hb d_M_readyAnswer_112 rfl (lv_at hl 3 rfl) ?_
          refine lv_iload_n hx hb d_M_readyAnswer_113 rfl (lv_at hl 5 rfl) ?_
          refine lv_iload_n hx hb d_M_readyAnswer_114 rfl (lv_at hl 6 rfl) ?_
          refine lv_iload hx hb d_M_readyAnswer_115 (lv_at hl 2 rfl) ?_
          refine lv_i2l hx hb d_M_readyAnswer_117 rfl ?_
          refine lv_iload hx hb d_M_readyAnswer_118 (lv_at hl 0 rfl) ?_
          refine lv_i2l hx hb d_M_readyAnswer_120 rfl ?_
          refine lv_lconst (v := 1) hx hb d_M_readyAnswer_121 (by decide) ?_
          refine lv_lsub hx hb d_M_readyAnswer_122 ?_
          obtain ⟨x36, c37, hF⟩ := ob_ex hF
          refine ga_cVi (As := [.int p2, .int p3, .long v5.toInt64, .long (v35.toInt64 - (1 : Int64))]) C hw (c_M_countOf l D T z L c37) gy_M_123 t1 rfl hl.1 ⟨Nat.le_of_ble_eq_true rfl, Nat.le_of_ble_eq_true rfl, rfl, rfl, Nat.le_of_ble_eq_true rfl, Nat.le_of_ble_eq_true rfl⟩ (Nat.le_of_ble_eq_true rfl) rfl d_M_readyAnswer_123 (fun H locs hw => ?_)
          refine lv_aload_n hx hb d_M_readyAnswer_126 rfl (lv_at hl 3 rfl) ?_
          refine lv_iload_n hx hb d_M_readyAnswer_127 rfl (lv_at hl 5 rfl) ?_
          refine lv_iload_n hx hb d_M_readyAnswer_128 rfl (lv_at hl 6 rfl) ?_
          refine lv_iload hx hb d_M_readyAnswer_129 (lv_at hl 0 rfl) ?_
          refine lv_i2l hx hb d_M_readyAnswer_131 rfl ?_
          refine lv_iload hx hb d_M_readyAnswer_132 (lv_at hl 0 rfl) ?_
          refine lv_i2l hx hb d_M_readyAnswer_134 rfl ?_
          obtain ⟨x38, c39, hF⟩ := ob_ex hF
          refine ga_cVi (As := [.int p2, .int p3, .long v35.toInt64, .long v35.toInt64]) C hw (c_M_countOf l D T z L c39) gy_M_123 t1 rfl hl.1 ⟨Nat.le_of_ble_eq_true rfl, Nat.le_of_ble_eq_true rfl, rfl, rfl, Nat.le_of_ble_eq_true rfl, Nat.le_of_ble_eq_true rfl⟩ (Nat.le_of_ble_eq_true rfl) rfl d_M_readyAnswer_135 (fun H locs hw => ?_)
          refine lv_iconst (v := 0) hx hb d_M_readyAnswer_138 (by decide) ?_
          obtain ⟨I40, J41, c42, hF⟩ := bd2_ex hF
          refine ga_cVv (As := [.int (2 : Int32), .int x36, .int x38, .int (0 : Int32)]) C hw (c_M_ready l D T z L c42) gy_M_137 t1 rfl hl.1 ⟨Nat.le_of_ble_eq_true rfl, Nat.le_of_ble_eq_true rfl, rfl, rfl, Nat.le_of_ble_eq_true rfl, Nat.le_of_ble_eq_true rfl⟩ (Nat.le_of_ble_eq_true rfl) rfl d_M_readyAnswer_139 (fun H locs hw => ?_)
          refine lv_goto (tgt := 329) hx hb d_M_readyAnswer_142 (by decide) ?_
          exact m_M_readyAnswer_b329 hret C _ _ hF _ _ _ (lv_sub hl [] rfl) hw
        · rw [if_neg h10] at hF
          refine lv_icmp_ne (tgt := 145) hx hb d_M_readyAnswer_99 (by decide) (fun _ => ?_) (fun hp => absurd hp h10)
          refine lv_iload_n hx hb d_M_readyAnswer_145 rfl (lv_at hl 3 rfl) ?_
          refine lv_bipush (v := 7) hx hb d_M_readyAnswer_146 (by decide) ?_
          by_cases h11 : p1 = (7 : Int32)
          · rw [if_pos h11] at hF
            refine lv_icmp_ne (tgt := 223) hx hb d_M_readyAnswer_148 (by decide) (fun hn => absurd h11 hn) (fun _ => ?_)
            refine lv_aload_n hx hb d_M_readyAnswer_151 rfl (lv_at hl 2 rfl) ?_
            refine lv_iload_n hx hb d_M_readyAnswer_152 rfl (lv_at hl 4 rfl) ?_
            refine lv_iload_n hx hb d_M_readyAnswer_153 rfl (lv_at hl 5 rfl) ?_
            refine lv_iload hx hb d_M_readyAnswer_154 (lv_at hl 1 rfl) ?_
            refine lv_i2l hx hb d_M_readyAnswer_156 rfl ?_
            refine lv_iload hx hb d_M_readyAnswer_157 (lv_at hl 0 rfl) ?_
            refine lv_i2l hx hb d_M_readyAnswer_159 rfl ?_
            obtain ⟨x32, c33, hF⟩ := ob_ex hF
            refine ga_cVi (As := [.int p2, .int p3, .long v5.toInt64, .long v7.toInt64]) C hw (c_M_countOf l D T z L c33) gy_M_123 t1 rfl hl.1 ⟨Nat.le_of_ble_eq_true rfl, Nat.le_of_ble_eq_true rfl, rfl, rfl, Nat.le_of_ble_eq_true rfl, Nat.le_of_ble_eq_true rfl⟩ (Nat.le_of_ble_eq_true rfl) rfl d_M_readyAnswer_160 (fun H locs hw => ?_)
            refine lv_istore hx hb d_M_readyAnswer_163 hl (by decide) rfl (fun ls hl => ?_)
            have hl : lv_has ls 8 [(6, .int x32), (5, .int v7), (4, .int v5), (0, .ref p0), (1, .int p1), (2, .int p2), (3, .int p3)] := hl
            refine lv_iconst (v := 0) hx hb d_M_readyAnswer_165 (by decide) ?_
            refine lv_istore hx hb d_M_readyAnswer_166 hl (by decide) rfl (fun ls hl => ?_)
            have hl : lv_has ls 8 [(7, .int (0 : Int32)), (6, .int x32), (5, .int v7), (4, .int v5), (0, .ref p0), (1, .int p1), (2, .int p2), (3, .int p3)] := hl
            exact m_M_readyAnswer_b168 hret C gFuel _ _ _ _ _ _ _ _ _ hF _ _ _ (lv_sub hl [4, 6, 7, 3, 2, 1, 0] rfl) hw
          · rw [if_neg h11] at hF
            refine lv_icmp_ne (tgt := 223) hx hb d_M_readyAnswer_148 (by decide) (fun _ => ?_) (fun hp => absurd hp h11)
            refine lv_iload_n hx hb d_M_readyAnswer_223 rfl (lv_at hl 3 rfl) ?_
            refine lv_bipush (v := 9) hx hb d_M_readyAnswer_224 (by decide) ?_
            by_cases h12 : p1 = (9 : Int32)
            · rw [if_pos h12] at hF
              refine lv_icmp_ne (tgt := 251) hx hb d_M_readyAnswer_226 (by decide) (fun hn => absurd h12 hn) (fun _ => ?_)
              refine lv_aload_n hx hb d_M_readyAnswer_229 rfl (lv_at hl 2 rfl) ?_
              refine lv_iconst (v := 1) hx hb d_M_readyAnswer_230 (by decide) ?_
              refine lv_aload_n hx hb d_M_readyAnswer_231 rfl (lv_at hl 2 rfl) ?_
              refine lv_iload_n hx hb d_M_readyAnswer_232 rfl (lv_at hl 4 rfl) ?_
              refine lv_iload_n hx hb d_M_readyAnswer_233 rfl (lv_at hl 5 rfl) ?_
              refine lv_iload hx hb d_M_readyAnswer_234 (lv_at hl 1 rfl) ?_
              refine lv_i2l hx hb d_M_readyAnswer_236 rfl ?_
              refine lv_iload hx hb d_M_readyAnswer_237 (lv_at hl 0 rfl) ?_
              refine lv_i2l hx hb d_M_readyAnswer_239 rfl ?_
              obtain ⟨x27, c28, hF⟩ := ob_ex hF
              refine ga_cVi (As := [.int p2, .int p3, .long v5.toInt64, .long v7.toInt64]) C hw (c_M_countOf l D T z L c28) gy_M_123 t1 rfl hl.1 ⟨Nat.le_of_ble_eq_true rfl, Nat.le_of_ble_eq_true rfl, rfl, rfl, Nat.le_of_ble_eq_true rfl, Nat.le_of_ble_eq_true rfl⟩ (Nat.le_of_ble_eq_true rfl) rfl d_M_readyAnswer_240 (fun H locs hw => ?_)
              refine lv_iconst (v := 0) hx hb d_M_readyAnswer_243 (by decide) ?_
              refine lv_iconst (v := 0) hx hb d_M_readyAnswer_244 (by decide) ?_
              obtain ⟨I29, J30, c31, hF⟩ := bd2_ex hF
              refine ga_cVv (As := [.int (1 : Int32), .int x27, .int (0 : Int32), .int (0 : Int32)]) C hw (c_M_ready l D T z L c31) gy_M_137 t1 rfl hl.1 ⟨Nat.le_of_ble_eq_true rfl, Nat.le_of_ble_eq_true rfl, rfl, rfl, Nat.le_of_ble_eq_true rfl, Nat.le_of_ble_eq_true rfl⟩ (Nat.le_of_ble_eq_true rfl) rfl d_M_readyAnswer_245 (fun H locs hw => ?_)
              refine lv_goto (tgt := 329) hx hb d_M_readyAnswer_248 (by decide) ?_
              exact m_M_readyAnswer_b329 hret C _ _ hF _ _ _ (lv_sub hl [] rfl) hw
            · rw [if_neg h12] at hF
              refine lv_icmp_ne (tgt := 251) hx hb d_M_readyAnswer_226 (by decide) (fun _ => ?_) (fun hp => absurd hp h12)
              refine lv_aload_n hx hb d_M_readyAnswer_251 rfl (lv_at hl 2 rfl) ?_
              refine lv_iconst (v := 4) hx hb d_M_readyAnswer_252 (by decide) ?_
              refine lv_aload_n hx hb d_M_readyAnswer_253 rfl (lv_at hl 2 rfl) ?_
              refine lv_iload_n hx hb d_M_readyAnswer_254 rfl (lv_at hl 4 rfl) ?_
              refine lv_iload_n hx hb d_M_readyAnswer_255 rfl (lv_at hl 5 rfl) ?_
              refine lv_ldc2 hx hb C.2.2.2.1 (C.2.2.2.2 _ gk_M_154) d_M_readyAnswer_256 ?_
              refine lv_iload hx hb d_M_readyAnswer_259 (lv_at hl 1 rfl) ?_
              refine lv_i2l hx hb d_M_readyAnswer_261 rfl ?_
              refine lv_lconst (v := 1) hx hb d_M_readyAnswer_262 (by decide) ?_
              refine lv_lsub hx hb d_M_readyAnswer_263 ?_
              obtain ⟨x13, c14, hF⟩ := ob_ex hF
              refine ga_cVi (As := [.int p2, .int p3, .long (-2147483648 : Int64), .long (v5.toInt64 - (1 : Int64))]) C hw (c_M_countOf l D T z L c14) gy_M_123 t1 rfl hl.1 ⟨Nat.le_of_ble_eq_true rfl, Nat.le_of_ble_eq_true rfl, rfl, rfl, Nat.le_of_ble_eq_true rfl, Nat.le_of_ble_eq_true rfl⟩ (Nat.le_of_ble_eq_true rfl) rfl d_M_readyAnswer_264 (fun H locs hw => ?_)
              refine lv_aload_n hx hb d_M_readyAnswer_267 rfl (lv_at hl 2 rfl) ?_
              refine lv_iload_n hx hb d_M_readyAnswer_268 rfl (lv_at hl 4 rfl) ?_
              refine lv_iload_n hx hb d_M_readyAnswer_269 rfl (lv_at hl 5 rfl) ?_
              refine lv_iload hx hb d_M_readyAnswer_270 (lv_at hl 1 rfl) ?_
              refine lv_i2l hx hb d_M_readyAnswer_272 rfl ?_
              refine lv_iload hx hb d_M_readyAnswer_273 (lv_at hl 1 rfl) ?_
              refine lv_i2l hx hb d_M_readyAnswer_275 rfl ?_
              obtain ⟨x15, c16, hF⟩ := ob_ex hF
              refine ga_cVi (As := [.int p2, .int p3, .long v5.toInt64, .long v5.toInt64]) C hw (c_M_countOf l D T z L c16) gy_M_123 t1 rfl hl.1 ⟨Nat.le_of_ble_eq_true rfl, Nat.le_of_ble_eq_true rfl, rfl, rfl, Nat.le_of_ble_eq_true rfl, Nat.le_of_ble_eq_true rfl⟩ (Nat.le_of_ble_eq_true rfl) rfl d_M_readyAnswer_276 (fun H locs hw => ?_)
              refine lv_aload_n hx hb d_M_readyAnswer_279 rfl (lv_at hl 2 rfl) ?_
              refine lv_iload_n hx hb d_M_readyAnswer_280 rfl (lv_at hl 4 rfl) ?_
              refine lv_iload_n hx hb d_M_readyAnswer_281 rfl (lv_at hl 5 rfl) ?_
              refine lv_iload hx hb d_M_readyAnswer_282 (lv_at hl 1 rfl) ?_
              refine lv_i2l hx hb d_M_readyAnswer_284 rfl ?_
              refine lv_lconst (v := 1) hx hb d_M_readyAnswer_285 (by decide) ?_
              refine lv_ladd hx hb d_M_readyAnswer_286 ?_
              refine lv_iload hx hb d_M_readyAnswer_287 (lv_at hl 0 rfl) ?_
              refine lv_i2l hx hb d_M_readyAnswer_289 rfl ?_
              refine lv_lconst (v := 1) hx hb d_M_readyAnswer_290 (by decide) ?_
              refine lv_lsub hx hb d_M_readyAnswer_291 ?_
              obtain ⟨x17, c18, hF⟩ := ob_ex hF
              refine ga_cVi (As := [.int p2, .int p3, .long (v5.toInt64 + (1 : Int64)), .long (v7.toInt64 - (1 : Int64))]) C hw (c_M_countOf l D T z L c18) gy_M_123 t1 rfl hl.1 ⟨Nat.le_of_ble_eq_true rfl, Nat.le_of_ble_eq_true rfl, rfl, rfl, Nat.le_of_ble_eq_true rfl, Nat.le_of_ble_eq_true rfl⟩ (Nat.le_of_ble_eq_true rfl) rfl d_M_readyAnswer_292 (fun H locs hw => ?_)
              obtain ⟨I19, J20, c21, hF⟩ := bd2_ex hF
              refine ga_cVv (As := [.int (4 : Int32), .int x13, .int x15, .int x17]) C hw (c_M_ready l D T z L c21) gy_M_137 t1 rfl hl.1 ⟨Nat.le_of_ble_eq_true rfl, Nat.le_of_ble_eq_true rfl, rfl, rfl, Nat.le_of_ble_eq_true rfl, Nat.le_of_ble_eq_true rfl⟩ (Nat.le_of_ble_eq_true rfl) rfl d_M_readyAnswer_295 (fun H locs hw => ?_)
              refine lv_aload_n hx hb d_M_readyAnswer_298 rfl (lv_at hl 2 rfl) ?_
              refine lv_aload_n hx hb d_M_readyAnswer_299 rfl (lv_at hl 2 rfl) ?_
              refine lv_iload_n hx hb d_M_readyAnswer_300 rfl (lv_at hl 4 rfl) ?_
              refine lv_iload_n hx hb d_M_readyAnswer_301 rfl (lv_at hl 5 rfl) ?_
              refine lv_iload hx hb d_M_readyAnswer_302 (lv_at hl 1 rfl) ?_
              refine lv_i2l hx hb d_M_readyAnswer_304 rfl ?_
              refine lv_lconst (v := 1) hx hb d_M_readyAnswer_305 (by decide) ?_
              refine lv_ladd hx hb d_M_readyAnswer_306 ?_
              refine lv_iload hx hb d_M_readyAnswer_307 (lv_at hl 0 rfl) ?_
              refine lv_i2l hx hb d_M_readyAnswer_309 rfl ?_
              refine lv_lconst (v := 1) hx hb d_M_readyAnswer_310 (by decide) ?_
              refine lv_lsub hx hb d_M_readyAnswer_311 ?_
              obtain ⟨x22, c23, hF⟩ := ob_ex hF
              refine ga_cVl (As := [.int p2, .int p3, .long (v5.toInt64 + (1 : Int64)), .long (v7.toInt64 - (1 : Int64))]) C hw (c_M_sumOf l D T z L c23) gy_M_156 t1 rfl hl.1 ⟨Nat.le_of_ble_eq_true rfl, Nat.le_of_ble_eq_true rfl, rfl, rfl, Nat.le_of_ble_eq_true rfl, Nat.le_of_ble_eq_true rfl⟩ (Nat.le_of_ble_eq_true rfl) rfl d_M_readyAnswer_312 (fun H locs hw => ?_)
              obtain ⟨J24, eJ24, hF⟩ := bnd_ex hF
              refine ga_putJ C hw gp_M_133 t1 eJ24 d_M_readyAnswer_315 (fun H locs hw => ?_)
              refine lv_aload_n hx hb d_M_readyAnswer_318 rfl (lv_at hl 2 rfl) ?_
              refine ga_getR C hw gf_M_111 t1 hr2 d_M_readyAnswer_319 ?_
              refine lv_iconst (v := 3) hx hb d_M_readyAnswer_322 (by decide) ?_
              refine lv_aload_n hx hb d_M_readyAnswer_323 rfl (lv_at hl 2 rfl) ?_
              refine ga_getJ C hw gf_M_133 t1 d_M_readyAnswer_324 ?_
              refine lv_l2i hx hb d_M_readyAnswer_327 rfl ?_
              obtain ⟨b25, hF⟩ := gd_ex hF
              obtain ⟨I26, eI26, hF⟩ := bnd_ex hF
              refine ga_iast C hw t3 b25 eI26 d_M_readyAnswer_328 (fun H locs hw => ?_)
              exact m_M_readyAnswer_b329 hret C _ _ hF _ _ _ (lv_sub hl [] rfl) hw
  refine key _ (fun pc ls H locs I1 J1 he hd hw => ?_)
  · cases he
    exact W.vret hx hb hr (fun t ht _ => ⟨⟨(), rfl, trivial, ga_o hw ht⟩, hw.2.2.2.1.F ht⟩) hw.2.2.2.1.2.2 hd
set_option maxHeartbeats 4000000 in
set_option maxRecDepth 100000 in
theorem c_M_answered (l : Launch) (D : va_G) (T : Nat → ClassId) (z : Nat) (L : List Nat) {S : gS} {I : gMI} {J : gMJ} {p0 : Nat} {p1 : Int32} {p2 : Int64} {RI : gMI} {RJ : gMJ} (hF : f_M_answered S I J p0 p1 p2 = some (RI, RJ)) : ga_Mv l y_M_answered prog_10_method_16_code 4 (Option.none : Option Jvm.ClassFile.FieldType) rm_M_answered [.ref p0, .int p1, .long p2] D T z L S I J RI RJ := by
  refine Met.ofW (cc := prog_10_method_16_code) (maxL := 4) (ret := (Option.none : Option Jvm.ClassFile.FieldType)) (by decide) rfl ?_
  intro p e s m args below meth c s₁ B hml hv
  obtain ⟨ha, hv⟩ := hv
  have hx := B.exec
  have hb := B.bytes
  have hr := B.returns
  have hts := atoms_spec (ws := .code y_M_answered prog_10_method_16_code 4 (Option.none : Option Jvm.ClassFile.FieldType) :: ga_ws) B.pre
  have hown : s.vm.findClass "RankHouseModel" = some m.cls := findClass_of_methodNamed B.named
  have hlocks := B.notSynchronized
  have C : CallFix p m c prog_10_method_16_code 4 s args ga_ws "RankHouseModel" := ⟨hx, hb, hml, hown, fun w h => hts w (List.mem_cons_of_mem _ h)⟩
  have hw := ga_start hv
  have hl := lv_entry ([.ref p0, .int p1, .long p2]) (n := 4) (Nat.le_of_ble_eq_true rfl)
  rw [show entryFrame m args 4 = entryFrame m ([.ref p0, .int p1, .long p2] : List Value).toArray 4 by rw [ha], lg_entry_eq]
  generalize (lg_sl ([.ref p0, .int p1, .long p2]) ++ List.replicate (4 - (lg_sl ([.ref p0, .int p1, .long p2])).length) Slot.unset).toArray = ls at hl ⊢
  have hl : lv_has ls 4 [(0, .ref p0), (1, .int p1), (2, .long p2)] := hl
  have key : ∀ Q : State → Prop, (∀ (pc : Nat) (ls : Array Slot) (H : Heap) (locs : List Loc) (I1 : gMI) (J1 : gMJ), (I1, J1) = (RI, RJ) → decode prog_10_method_16_code pc = .ok (.return_, 1) → ga_W D T z L S I1 J1 s H locs → W p l e rm_M_answered s m args below meth c H locs 0 0 Q (F0 m pc ls [])) → W p l e rm_M_answered s m args below meth c s.heap [] 0 0 Q (F0 m 0 ls []) := by
    intro Q hret
    rw [f_M_answered] at hF
    refine lv_aload_n hx hb d_M_answered_0 rfl (lv_at hl 0 rfl) ?_
    obtain ⟨t1, hF⟩ := gd_ex hF
    obtain ⟨r2, hr2, hF⟩ := ob_ex hF
    refine ga_getR C hw gf_M_41 t1 hr2 d_M_answered_1 ?_
    refine lv_iload_n hx hb d_M_answered_4 rfl (lv_at hl 1 rfl) ?_
    refine lv_iconst (v := 1) hx hb d_M_answered_5 (by decide) ?_
    obtain ⟨t3, hF⟩ := gd_ex hF
    obtain ⟨b4, hF⟩ := gd_ex hF
    obtain ⟨I5, eI5, hF⟩ := bnd_ex hF
    refine ga_iast C hw t3 b4 eI5 d_M_answered_6 (fun H locs hw => ?_)
    refine lv_aload_n hx hb d_M_answered_7 rfl (lv_at hl 0 rfl) ?_
    obtain ⟨r6, hr6, hF⟩ := ob_ex hF
    refine ga_getR C hw gf_M_83 t1 hr6 d_M_answered_8 ?_
    refine lv_iload_n hx hb d_M_answered_11 rfl (lv_at hl 1 rfl) ?_
    refine lv_lload_n hx hb d_M_answered_12 rfl (lv_at hl 2 rfl) ?_
    obtain ⟨t7, hF⟩ := gd_ex hF
    obtain ⟨b8, hF⟩ := gd_ex hF
    obtain ⟨J9, eJ9, hF⟩ := bnd_ex hF
    refine ga_last C hw t7 b8 eJ9 d_M_answered_13 (fun H locs hw => ?_)
    exact hret _ _ _ _ _ _ (Option.some.inj hF) d_M_answered_14 hw
  refine key _ (fun pc ls H locs I1 J1 he hd hw => ?_)
  · cases he
    exact W.vret hx hb hr (fun t ht _ => ⟨⟨(), rfl, trivial, ga_o hw ht⟩, hw.2.2.2.1.F ht⟩) hw.2.2.2.1.2.2 hd
set_option maxHeartbeats 4000000 in
set_option maxRecDepth 100000 in
theorem m_M_total_b5 {I : gMI} {J : gMJ} {zz : Int32} (hret : ∀ (pc : Nat) (ls : Array Slot) (H : Heap) (locs : List Loc) (x : Int32), (x) = zz → decode prog_10_method_17_code pc = .ok (.ireturn, 1) → ga_W D T z L S I J s H locs → W p l e rm_M_total s m args below meth c H locs 0 0 Q (F0 m pc ls [.int x])) (C : CallFix p m c prog_10_method_17_code 5 s args ga_ws "RankHouseModel") : ∀ (n : Nat) (l0 : Nat) (l1 : Int32) (l2 : Int32) (l3 : Int32) (l4 : Int32), f_M_total_b5 S I J n l0 l1 l2 l3 l4 = some zz → ∀ (ls : Array Slot) (H : Heap) (locs : List Loc), lv_has ls 5 [(0, .ref l0), (1, .int l1), (2, .int l2), (3, .int l3), (4, .int l4)] → ga_W D T z L S I J s H locs → W p l e rm_M_total s m args below meth c H locs 0 0 Q (F0 m 5 ls []) := by
  intro n
  induction n with
  | zero =>
    intro l0 l1 l2 l3 l4 hF ls H locs hl hw
    rw [f_M_total_b5] at hF
    cases hF
  | succ n ih =>
    intro l0 l1 l2 l3 l4 hF ls H locs hl hw
    have hx := C.1
    have hb := C.2.1
    rw [f_M_total_b5] at hF
    refine lv_iload hx hb d_M_total_5 (lv_at hl 4 rfl) ?_
    refine lv_bipush (v := 8) hx hb d_M_total_7 (by decide) ?_
    by_cases h1 : (8 : Int32) ≤ l4
    · rw [if_pos h1] at hF
      refine lv_icmp_ge (tgt := 37) hx hb d_M_total_9 (by decide) (fun _ => ?_) (fun hn => absurd h1 hn)
      refine lv_iload_n hx hb d_M_total_37 rfl (lv_at hl 3 rfl) ?_
      exact hret _ _ _ _ _ (Option.some.inj hF) d_M_total_38 hw
    · rw [if_neg h1] at hF
      refine lv_icmp_ge (tgt := 37) hx hb d_M_total_9 (by decide) (fun hp => absurd hp h1) (fun _ => ?_)
      refine lv_iload_n hx hb d_M_total_12 rfl (lv_at hl 3 rfl) ?_
      refine lv_aload_n hx hb d_M_total_13 rfl (lv_at hl 0 rfl) ?_
      obtain ⟨t2, hF⟩ := gd_ex hF
      obtain ⟨r3, hr3, hF⟩ := ob_ex hF
      refine ga_getR C hw gf_M_90 t2 hr3 d_M_total_14 ?_
      refine lv_iconst (v := 4) hx hb d_M_total_17 (by decide) ?_
      refine lv_bipush (v := 8) hx hb d_M_total_18 (by decide) ?_
      refine lv_iload_n hx hb d_M_total_20 rfl (lv_at hl 1 rfl) ?_
      refine lv_imul hx hb d_M_total_21 ?_
      refine lv_iload hx hb d_M_total_22 (lv_at hl 4 rfl) ?_
      refine lv_iadd hx hb d_M_total_24 ?_
      refine lv_imul hx hb d_M_total_25 ?_
      refine lv_iload_n hx hb d_M_total_26 rfl (lv_at hl 2 rfl) ?_
      refine lv_iadd hx hb d_M_total_27 ?_
      obtain ⟨t4, hF⟩ := gd_ex hF
      obtain ⟨b5, hF⟩ := gd_ex hF
      refine ga_iald C hw t4 b5 d_M_total_28 ?_
      refine lv_iadd hx hb d_M_total_29 ?_
      refine lv_topi (fun v6 ev6 => ?_)
      replace hF := bnd_at hF ev6
      refine lv_istore_n hx hb d_M_total_30 rfl hl (by decide) rfl (fun ls hl => ?_)
      have hl : lv_has ls 5 [(3, .int v6), (0, .ref l0), (1, .int l1), (2, .int l2), (4, .int l4)] := hl
      obtain ⟨v7, ev7, hF⟩ := bnd_ex hF
      refine lv_iinc (k := 4) (v := v7) hx hb d_M_total_31 hl rfl (by rw [ev7]; rfl) (by decide) rfl (fun ls hl => ?_)
      have hl : lv_has ls 5 [(4, .int v7), (3, .int v6), (0, .ref l0), (1, .int l1), (2, .int l2)] := hl
      refine lv_goto (tgt := 5) hx hb d_M_total_34 (by decide) ?_
      exact ih _ _ _ _ _ hF _ _ _ (lv_sub hl [2, 3, 4, 1, 0] rfl) hw
set_option maxHeartbeats 4000000 in
set_option maxRecDepth 100000 in
theorem c_M_total (l : Launch) (D : va_G) (T : Nat → ClassId) (z : Nat) (L : List Nat) {S : gS} {I : gMI} {J : gMJ} {p0 : Nat} {p1 : Int32} {p2 : Int32} {r : Int32} (hF : f_M_total S I J p0 p1 p2 = some (r)) : ga_Mi l y_M_total prog_10_method_17_code 5 (Option.some Jvm.ClassFile.FieldType.int) rm_M_total [.ref p0, .int p1, .int p2] D T z L S I J r I J := by
  refine Met.ofW (cc := prog_10_method_17_code) (maxL := 5) (ret := (Option.some Jvm.ClassFile.FieldType.int)) (by decide) rfl ?_
  intro p e s m args below meth c s₁ B hml hv
  obtain ⟨ha, hv⟩ := hv
  have hx := B.exec
  have hb := B.bytes
  have hr := B.returns
  have hts := atoms_spec (ws := .code y_M_total prog_10_method_17_code 5 (Option.some Jvm.ClassFile.FieldType.int) :: ga_ws) B.pre
  have hown : s.vm.findClass "RankHouseModel" = some m.cls := findClass_of_methodNamed B.named
  have hlocks := B.notSynchronized
  have C : CallFix p m c prog_10_method_17_code 5 s args ga_ws "RankHouseModel" := ⟨hx, hb, hml, hown, fun w h => hts w (List.mem_cons_of_mem _ h)⟩
  have hw := ga_start hv
  have hl := lv_entry ([.ref p0, .int p1, .int p2]) (n := 5) (Nat.le_of_ble_eq_true rfl)
  rw [show entryFrame m args 5 = entryFrame m ([.ref p0, .int p1, .int p2] : List Value).toArray 5 by rw [ha], lg_entry_eq]
  generalize (lg_sl ([.ref p0, .int p1, .int p2]) ++ List.replicate (5 - (lg_sl ([.ref p0, .int p1, .int p2])).length) Slot.unset).toArray = ls at hl ⊢
  have hl : lv_has ls 5 [(0, .ref p0), (1, .int p1), (2, .int p2)] := hl
  have key : ∀ Q : State → Prop, (∀ (pc : Nat) (ls : Array Slot) (H : Heap) (locs : List Loc) (x : Int32), (x) = (r) → decode prog_10_method_17_code pc = .ok (.ireturn, 1) → ga_W D T z L S I J s H locs → W p l e rm_M_total s m args below meth c H locs 0 0 Q (F0 m pc ls [.int x])) → W p l e rm_M_total s m args below meth c s.heap [] 0 0 Q (F0 m 0 ls []) := by
    intro Q hret
    rw [f_M_total] at hF
    refine lv_iconst (v := 0) hx hb d_M_total_0 (by decide) ?_
    refine lv_istore_n hx hb d_M_total_1 rfl hl (by decide) rfl (fun ls hl => ?_)
    have hl : lv_has ls 5 [(3, .int (0 : Int32)), (0, .ref p0), (1, .int p1), (2, .int p2)] := hl
    refine lv_iconst (v := 0) hx hb d_M_total_2 (by decide) ?_
    refine lv_istore hx hb d_M_total_3 hl (by decide) rfl (fun ls hl => ?_)
    have hl : lv_has ls 5 [(4, .int (0 : Int32)), (3, .int (0 : Int32)), (0, .ref p0), (1, .int p1), (2, .int p2)] := hl
    exact m_M_total_b5 hret C gFuel _ _ _ _ _ hF _ _ _ (lv_sub hl [2, 3, 4, 1, 0] rfl) hw
  refine key _ (fun pc ls H locs x he hd hw => ?_)
  · cases he
    exact W.iret hx hb hr (fun t ht _ => ⟨⟨_, (), rfl, rfl, ga_o hw ht⟩, hw.2.2.2.1.F ht⟩) hw.2.2.2.1.2.2 hd
set_option maxHeartbeats 4000000 in
set_option maxRecDepth 100000 in
theorem m_M_firstRank_b93 {I : gMI} {J : gMJ} {zz : Int32} (hret : ∀ (pc : Nat) (ls : Array Slot) (H : Heap) (locs : List Loc) (x : Int32), (x) = zz → decode prog_10_method_18_code pc = .ok (.ireturn, 1) → ga_W D T z L S I J s H locs → W p l e rm_M_firstRank s m args below meth c H locs 0 0 Q (F0 m pc ls [.int x])) (C : CallFix p m c prog_10_method_18_code 4 s args ga_ws "RankHouseModel") : ∀ (s0 : Int32), f_M_firstRank_b93 S I J s0 = some zz → ∀ (ls : Array Slot) (H : Heap) (locs : List Loc), lv_has ls 4 [] → ga_W D T z L S I J s H locs → W p l e rm_M_firstRank s m args below meth c H locs 0 0 Q (F0 m 93 ls [.int s0]) := by
  intro s0 hF ls H locs hl hw
  have hx := C.1
  have hb := C.2.1
  rw [f_M_firstRank_b93] at hF
  exact hret _ _ _ _ _ (Option.some.inj hF) d_M_firstRank_93 hw
set_option maxHeartbeats 4000000 in
set_option maxRecDepth 100000 in
theorem c_M_firstRank (l : Launch) (D : va_G) (T : Nat → ClassId) (z : Nat) (L : List Nat) {S : gS} {I : gMI} {J : gMJ} {p0 : Nat} {p1 : Int32} {r : Int32} (hF : f_M_firstRank S I J p0 p1 = some (r)) : ga_Mi l y_M_firstRank prog_10_method_18_code 4 (Option.some Jvm.ClassFile.FieldType.int) rm_M_firstRank [.ref p0, .int p1] D T z L S I J r I J := by
  refine Met.ofW (cc := prog_10_method_18_code) (maxL := 4) (ret := (Option.some Jvm.ClassFile.FieldType.int)) (by decide) rfl ?_
  intro p e s m args below meth c s₁ B hml hv
  obtain ⟨ha, hv⟩ := hv
  have hx := B.exec
  have hb := B.bytes
  have hr := B.returns
  have hts := atoms_spec (ws := .code y_M_firstRank prog_10_method_18_code 4 (Option.some Jvm.ClassFile.FieldType.int) :: ga_ws) B.pre
  have hown : s.vm.findClass "RankHouseModel" = some m.cls := findClass_of_methodNamed B.named
  have hlocks := B.notSynchronized
  have C : CallFix p m c prog_10_method_18_code 4 s args ga_ws "RankHouseModel" := ⟨hx, hb, hml, hown, fun w h => hts w (List.mem_cons_of_mem _ h)⟩
  have hw := ga_start hv
  have hl := lv_entry ([.ref p0, .int p1]) (n := 4) (Nat.le_of_ble_eq_true rfl)
  rw [show entryFrame m args 4 = entryFrame m ([.ref p0, .int p1] : List Value).toArray 4 by rw [ha], lg_entry_eq]
  generalize (lg_sl ([.ref p0, .int p1]) ++ List.replicate (4 - (lg_sl ([.ref p0, .int p1])).length) Slot.unset).toArray = ls at hl ⊢
  have hl : lv_has ls 4 [(0, .ref p0), (1, .int p1)] := hl
  have key : ∀ Q : State → Prop, (∀ (pc : Nat) (ls : Array Slot) (H : Heap) (locs : List Loc) (x : Int32), (x) = (r) → decode prog_10_method_18_code pc = .ok (.ireturn, 1) → ga_W D T z L S I J s H locs → W p l e rm_M_firstRank s m args below meth c H locs 0 0 Q (F0 m pc ls [.int x])) → W p l e rm_M_firstRank s m args below meth c s.heap [] 0 0 Q (F0 m 0 ls []) := by
    intro Q hret
    rw [f_M_firstRank] at hF
    refine lv_aload_n hx hb d_M_firstRank_0 rfl (lv_at hl 0 rfl) ?_
    obtain ⟨t1, hF⟩ := gd_ex hF
    obtain ⟨r2, hr2, hF⟩ := ob_ex hF
    refine ga_getR C hw gf_M_47 t1 hr2 d_M_firstRank_1 ?_
    refine lv_iload_n hx hb d_M_firstRank_4 rfl (lv_at hl 1 rfl) ?_
    obtain ⟨t3, hF⟩ := gd_ex hF
    obtain ⟨b4, hF⟩ := gd_ex hF
    refine ga_iald C hw t3 b4 d_M_firstRank_5 ?_
    refine lv_iconst (v := 1) hx hb d_M_firstRank_6 (by decide) ?_
    refine lv_iadd hx hb d_M_firstRank_7 ?_
    refine lv_iconst (v := 2) hx hb d_M_firstRank_8 (by decide) ?_
    refine lv_idiv hx hb d_M_firstRank_9 (by decide) ?_
    refine lv_topi (fun v5 ev5 => ?_)
    replace hF := bnd_at hF ev5
    refine lv_istore_n hx hb d_M_firstRank_10 rfl hl (by decide) rfl (fun ls hl => ?_)
    have hl : lv_has ls 4 [(2, .int v5), (0, .ref p0), (1, .int p1)] := hl
    refine lv_aload_n hx hb d_M_firstRank_11 rfl (lv_at hl 1 rfl) ?_
    refine ga_getR C hw gf_M_47 t1 hr2 d_M_firstRank_12 ?_
    refine lv_iload_n hx hb d_M_firstRank_15 rfl (lv_at hl 2 rfl) ?_
    refine ga_iald C hw t3 b4 d_M_firstRank_16 ?_
    refine lv_aload_n hx hb d_M_firstRank_17 rfl (lv_at hl 1 rfl) ?_
    obtain ⟨r6, hr6, hF⟩ := ob_ex hF
    refine ga_getR C hw gf_M_26 t1 hr6 d_M_firstRank_18 ?_
    refine lv_iload_n hx hb d_M_firstRank_21 rfl (lv_at hl 2 rfl) ?_
    obtain ⟨t7, hF⟩ := gd_ex hF
    obtain ⟨b8, hF⟩ := gd_ex hF
    refine ga_iald C hw t7 b8 d_M_firstRank_22 ?_
    refine lv_imul hx hb d_M_firstRank_23 ?_
    refine lv_sipush (v := 2000) hx hb d_M_firstRank_24 (by decide) ?_
    refine lv_idiv hx hb d_M_firstRank_27 (by decide) ?_
    refine lv_topi (fun v9 ev9 => ?_)
    replace hF := bnd_at hF ev9
    refine lv_istore_n hx hb d_M_firstRank_28 rfl hl (by decide) rfl (fun ls hl => ?_)
    have hl : lv_has ls 4 [(3, .int v9), (2, .int v5), (0, .ref p0), (1, .int p1)] := hl
    refine lv_aload_n hx hb d_M_firstRank_29 rfl (lv_at hl 2 rfl) ?_
    obtain ⟨r10, hr10, hF⟩ := ob_ex hF
    refine ga_getR C hw gf_M_23 t1 hr10 d_M_firstRank_30 ?_
    refine lv_iload_n hx hb d_M_firstRank_33 rfl (lv_at hl 3 rfl) ?_
    obtain ⟨t11, hF⟩ := gd_ex hF
    obtain ⟨b12, hF⟩ := gd_ex hF
    refine ga_iald C hw t11 b12 d_M_firstRank_34 ?_
    by_cases h13 : (I r10 p1.toNatClampNeg) = 0
    · rw [if_pos h13] at hF
      refine lv_if_ne (tgt := 47) hx hb d_M_firstRank_35 (by decide) (fun hn => absurd h13 hn) (fun _ => ?_)
      refine lv_aload_n hx hb d_M_firstRank_38 rfl (lv_at hl 2 rfl) ?_
      refine ga_getR C hw gf_M_26 t1 hr6 d_M_firstRank_39 ?_
      refine lv_iload_n hx hb d_M_firstRank_42 rfl (lv_at hl 3 rfl) ?_
      refine ga_iald C hw t7 b8 d_M_firstRank_43 ?_
      refine lv_goto (tgt := 93) hx hb d_M_firstRank_44 (by decide) ?_
      exact m_M_firstRank_b93 hret C _ hF _ _ _ (lv_sub hl [] rfl) hw
    · rw [if_neg h13] at hF
      refine lv_if_ne (tgt := 47) hx hb d_M_firstRank_35 (by decide) (fun _ => ?_) (fun hp => absurd hp h13)
      refine lv_aload_n hx hb d_M_firstRank_47 rfl (lv_at hl 2 rfl) ?_
      refine ga_getR C hw gf_M_23 t1 hr10 d_M_firstRank_48 ?_
      refine lv_iload_n hx hb d_M_firstRank_51 rfl (lv_at hl 3 rfl) ?_
      refine ga_iald C hw t11 b12 d_M_firstRank_52 ?_
      refine lv_iconst (v := 2) hx hb d_M_firstRank_53 (by decide) ?_
      by_cases h14 : (I r10 p1.toNatClampNeg) = (2 : Int32)
      · rw [if_pos h14] at hF
        refine lv_icmp_ne (tgt := 79) hx hb d_M_firstRank_54 (by decide) (fun hn => absurd h14 hn) (fun _ => ?_)
        refine lv_aload_n hx hb d_M_firstRank_57 rfl (lv_at hl 2 rfl) ?_
        refine ga_getR C hw gf_M_47 t1 hr2 d_M_firstRank_58 ?_
        refine lv_iload_n hx hb d_M_firstRank_61 rfl (lv_at hl 3 rfl) ?_
        refine ga_iald C hw t3 b4 d_M_firstRank_62 ?_
        refine lv_aload_n hx hb d_M_firstRank_63 rfl (lv_at hl 2 rfl) ?_
        refine ga_getR C hw gf_M_26 t1 hr6 d_M_firstRank_64 ?_
        refine lv_iload_n hx hb d_M_firstRank_67 rfl (lv_at hl 3 rfl) ?_
        refine ga_iald C hw t7 b8 d_M_firstRank_68 ?_
        refine lv_imul hx hb d_M_firstRank_69 ?_
        refine lv_sipush (v := 1000) hx hb d_M_firstRank_70 (by decide) ?_
        refine lv_idiv hx hb d_M_firstRank_73 (by decide) ?_
        refine lv_iconst (v := 1) hx hb d_M_firstRank_74 (by decide) ?_
        refine lv_iadd hx hb d_M_firstRank_75 ?_
        refine lv_goto (tgt := 93) hx hb d_M_firstRank_76 (by decide) ?_
        exact m_M_firstRank_b93 hret C _ hF _ _ _ (lv_sub hl [] rfl) hw
      · rw [if_neg h14] at hF
        refine lv_icmp_ne (tgt := 79) hx hb d_M_firstRank_54 (by decide) (fun _ => ?_) (fun hp => absurd hp h14)
        refine lv_iload_n hx hb d_M_firstRank_79 rfl (lv_at hl 1 rfl) ?_
        refine lv_iload_n hx hb d_M_firstRank_80 rfl (lv_at hl 0 rfl) ?_
        refine lv_isub hx hb d_M_firstRank_81 ?_
        refine lv_iconst (v := 1) hx hb d_M_firstRank_82 (by decide) ?_
        by_cases h15 : (v5 - v9) ≤ (1 : Int32)
        · rw [if_pos h15] at hF
          refine lv_icmp_le (tgt := 92) hx hb d_M_firstRank_83 (by decide) (fun _ => ?_) (fun hn => absurd h15 hn)
          refine lv_iconst (v := 1) hx hb d_M_firstRank_92 (by decide) ?_
          exact m_M_firstRank_b93 hret C _ hF _ _ _ (lv_sub hl [] rfl) hw
        · rw [if_neg h15] at hF
          refine lv_icmp_le (tgt := 92) hx hb d_M_firstRank_83 (by decide) (fun hp => absurd hp h15) (fun _ => ?_)
          refine lv_iload_n hx hb d_M_firstRank_86 rfl (lv_at hl 1 rfl) ?_
          refine lv_iload_n hx hb d_M_firstRank_87 rfl (lv_at hl 0 rfl) ?_
          refine lv_isub hx hb d_M_firstRank_88 ?_
          refine lv_goto (tgt := 93) hx hb d_M_firstRank_89 (by decide) ?_
          exact m_M_firstRank_b93 hret C _ hF _ _ _ (lv_sub hl [] rfl) hw
  refine key _ (fun pc ls H locs x he hd hw => ?_)
  · cases he
    exact W.iret hx hb hr (fun t ht _ => ⟨⟨_, (), rfl, rfl, ga_o hw ht⟩, hw.2.2.2.1.F ht⟩) hw.2.2.2.1.2.2 hd
set_option maxHeartbeats 4000000 in
set_option maxRecDepth 100000 in
theorem m_M_lastRank_b90 {I : gMI} {J : gMJ} {zz : Int32} (hret : ∀ (pc : Nat) (ls : Array Slot) (H : Heap) (locs : List Loc) (x : Int32), (x) = zz → decode prog_10_method_19_code pc = .ok (.ireturn, 1) → ga_W D T z L S I J s H locs → W p l e rm_M_lastRank s m args below meth c H locs 0 0 Q (F0 m pc ls [.int x])) (C : CallFix p m c prog_10_method_19_code 4 s args ga_ws "RankHouseModel") : ∀ (s0 : Int32), f_M_lastRank_b90 S I J s0 = some zz → ∀ (ls : Array Slot) (H : Heap) (locs : List Loc), lv_has ls 4 [] → ga_W D T z L S I J s H locs → W p l e rm_M_lastRank s m args below meth c H locs 0 0 Q (F0 m 90 ls [.int s0]) := by
  intro s0 hF ls H locs hl hw
  have hx := C.1
  have hb := C.2.1
  rw [f_M_lastRank_b90] at hF
  exact hret _ _ _ _ _ (Option.some.inj hF) d_M_lastRank_90 hw
set_option maxHeartbeats 4000000 in
set_option maxRecDepth 100000 in
theorem c_M_lastRank (l : Launch) (D : va_G) (T : Nat → ClassId) (z : Nat) (L : List Nat) {S : gS} {I : gMI} {J : gMJ} {p0 : Nat} {p1 : Int32} {r : Int32} (hF : f_M_lastRank S I J p0 p1 = some (r)) : ga_Mi l y_M_lastRank prog_10_method_19_code 4 (Option.some Jvm.ClassFile.FieldType.int) rm_M_lastRank [.ref p0, .int p1] D T z L S I J r I J := by
  refine Met.ofW (cc := prog_10_method_19_code) (maxL := 4) (ret := (Option.some Jvm.ClassFile.FieldType.int)) (by decide) rfl ?_
  intro p e s m args below meth c s₁ B hml hv
  obtain ⟨ha, hv⟩ := hv
  have hx := B.exec
  have hb := B.bytes
  have hr := B.returns
  have hts := atoms_spec (ws := .code y_M_lastRank prog_10_method_19_code 4 (Option.some Jvm.ClassFile.FieldType.int) :: ga_ws) B.pre
  have hown : s.vm.findClass "RankHouseModel" = some m.cls := findClass_of_methodNamed B.named
  have hlocks := B.notSynchronized
  have C : CallFix p m c prog_10_method_19_code 4 s args ga_ws "RankHouseModel" := ⟨hx, hb, hml, hown, fun w h => hts w (List.mem_cons_of_mem _ h)⟩
  have hw := ga_start hv
  have hl := lv_entry ([.ref p0, .int p1]) (n := 4) (Nat.le_of_ble_eq_true rfl)
  rw [show entryFrame m args 4 = entryFrame m ([.ref p0, .int p1] : List Value).toArray 4 by rw [ha], lg_entry_eq]
  generalize (lg_sl ([.ref p0, .int p1]) ++ List.replicate (4 - (lg_sl ([.ref p0, .int p1])).length) Slot.unset).toArray = ls at hl ⊢
  have hl : lv_has ls 4 [(0, .ref p0), (1, .int p1)] := hl
  have key : ∀ Q : State → Prop, (∀ (pc : Nat) (ls : Array Slot) (H : Heap) (locs : List Loc) (x : Int32), (x) = (r) → decode prog_10_method_19_code pc = .ok (.ireturn, 1) → ga_W D T z L S I J s H locs → W p l e rm_M_lastRank s m args below meth c H locs 0 0 Q (F0 m pc ls [.int x])) → W p l e rm_M_lastRank s m args below meth c s.heap [] 0 0 Q (F0 m 0 ls []) := by
    intro Q hret
    rw [f_M_lastRank] at hF
    refine lv_aload_n hx hb d_M_lastRank_0 rfl (lv_at hl 0 rfl) ?_
    obtain ⟨t1, hF⟩ := gd_ex hF
    obtain ⟨r2, hr2, hF⟩ := ob_ex hF
    refine ga_getR C hw gf_M_47 t1 hr2 d_M_lastRank_1 ?_
    refine lv_iload_n hx hb d_M_lastRank_4 rfl (lv_at hl 1 rfl) ?_
    obtain ⟨t3, hF⟩ := gd_ex hF
    obtain ⟨b4, hF⟩ := gd_ex hF
    refine ga_iald C hw t3 b4 d_M_lastRank_5 ?_
    refine lv_iconst (v := 1) hx hb d_M_lastRank_6 (by decide) ?_
    refine lv_iadd hx hb d_M_lastRank_7 ?_
    refine lv_iconst (v := 2) hx hb d_M_lastRank_8 (by decide) ?_
    refine lv_idiv hx hb d_M_lastRank_9 (by decide) ?_
    refine lv_topi (fun v5 ev5 => ?_)
    replace hF := bnd_at hF ev5
    refine lv_istore_n hx hb d_M_lastRank_10 rfl hl (by decide) rfl (fun ls hl => ?_)
    have hl : lv_has ls 4 [(2, .int v5), (0, .ref p0), (1, .int p1)] := hl
    refine lv_aload_n hx hb d_M_lastRank_11 rfl (lv_at hl 1 rfl) ?_
    refine ga_getR C hw gf_M_47 t1 hr2 d_M_lastRank_12 ?_
    refine lv_iload_n hx hb d_M_lastRank_15 rfl (lv_at hl 2 rfl) ?_
    refine ga_iald C hw t3 b4 d_M_lastRank_16 ?_
    refine lv_aload_n hx hb d_M_lastRank_17 rfl (lv_at hl 1 rfl) ?_
    obtain ⟨r6, hr6, hF⟩ := ob_ex hF
    refine ga_getR C hw gf_M_26 t1 hr6 d_M_lastRank_18 ?_
    refine lv_iload_n hx hb d_M_lastRank_21 rfl (lv_at hl 2 rfl) ?_
    obtain ⟨t7, hF⟩ := gd_ex hF
    obtain ⟨b8, hF⟩ := gd_ex hF
    refine ga_iald C hw t7 b8 d_M_lastRank_22 ?_
    refine lv_imul hx hb d_M_lastRank_23 ?_
    refine lv_sipush (v := 2000) hx hb d_M_lastRank_24 (by decide) ?_
    refine lv_idiv hx hb d_M_lastRank_27 (by decide) ?_
    refine lv_topi (fun v9 ev9 => ?_)
    replace hF := bnd_at hF ev9
    refine lv_istore_n hx hb d_M_lastRank_28 rfl hl (by decide) rfl (fun ls hl => ?_)
    have hl : lv_has ls 4 [(3, .int v9), (2, .int v5), (0, .ref p0), (1, .int p1)] := hl
    refine lv_aload_n hx hb d_M_lastRank_29 rfl (lv_at hl 2 rfl) ?_
    obtain ⟨r10, hr10, hF⟩ := ob_ex hF
    refine ga_getR C hw gf_M_23 t1 hr10 d_M_lastRank_30 ?_
    refine lv_iload_n hx hb d_M_lastRank_33 rfl (lv_at hl 3 rfl) ?_
    obtain ⟨t11, hF⟩ := gd_ex hF
    obtain ⟨b12, hF⟩ := gd_ex hF
    refine ga_iald C hw t11 b12 d_M_lastRank_34 ?_
    refine lv_iconst (v := 2) hx hb d_M_lastRank_35 (by decide) ?_
    by_cases h13 : (I r10 p1.toNatClampNeg) = (2 : Int32)
    · rw [if_pos h13] at hF
      refine lv_icmp_ne (tgt := 66) hx hb d_M_lastRank_36 (by decide) (fun hn => absurd h13 hn) (fun _ => ?_)
      refine lv_aload_n hx hb d_M_lastRank_39 rfl (lv_at hl 2 rfl) ?_
      refine ga_getR C hw gf_M_47 t1 hr2 d_M_lastRank_40 ?_
      refine lv_iload_n hx hb d_M_lastRank_43 rfl (lv_at hl 3 rfl) ?_
      refine ga_iald C hw t3 b4 d_M_lastRank_44 ?_
      refine lv_aload_n hx hb d_M_lastRank_45 rfl (lv_at hl 2 rfl) ?_
      refine ga_getR C hw gf_M_47 t1 hr2 d_M_lastRank_46 ?_
      refine lv_iload_n hx hb d_M_lastRank_49 rfl (lv_at hl 3 rfl) ?_
      refine ga_iald C hw t3 b4 d_M_lastRank_50 ?_
      refine lv_aload_n hx hb d_M_lastRank_51 rfl (lv_at hl 2 rfl) ?_
      refine ga_getR C hw gf_M_26 t1 hr6 d_M_lastRank_52 ?_
      refine lv_iload_n hx hb d_M_lastRank_55 rfl (lv_at hl 3 rfl) ?_
      refine ga_iald C hw t7 b8 d_M_lastRank_56 ?_
      refine lv_imul hx hb d_M_lastRank_57 ?_
      refine lv_sipush (v := 1000) hx hb d_M_lastRank_58 (by decide) ?_
      refine lv_idiv hx hb d_M_lastRank_61 (by decide) ?_
      refine lv_isub hx hb d_M_lastRank_62 ?_
      refine lv_goto (tgt := 90) hx hb d_M_lastRank_63 (by decide) ?_
      exact m_M_lastRank_b90 hret C _ hF _ _ _ (lv_sub hl [] rfl) hw
    · rw [if_neg h13] at hF
      refine lv_icmp_ne (tgt := 66) hx hb d_M_lastRank_36 (by decide) (fun _ => ?_) (fun hp => absurd hp h13)
      refine lv_iload_n hx hb d_M_lastRank_66 rfl (lv_at hl 1 rfl) ?_
      refine lv_iload_n hx hb d_M_lastRank_67 rfl (lv_at hl 0 rfl) ?_
      refine lv_iadd hx hb d_M_lastRank_68 ?_
      refine lv_aload_n hx hb d_M_lastRank_69 rfl (lv_at hl 2 rfl) ?_
      refine ga_getR C hw gf_M_47 t1 hr2 d_M_lastRank_70 ?_
      refine lv_iload_n hx hb d_M_lastRank_73 rfl (lv_at hl 3 rfl) ?_
      refine ga_iald C hw t3 b4 d_M_lastRank_74 ?_
      by_cases h14 : (I r2 p1.toNatClampNeg) ≤ (v5 + v9)
      · rw [if_pos h14] at hF
        refine lv_icmp_ge (tgt := 84) hx hb d_M_lastRank_75 (by decide) (fun _ => ?_) (fun hn => absurd h14 hn)
        refine lv_aload_n hx hb d_M_lastRank_84 rfl (lv_at hl 2 rfl) ?_
        refine ga_getR C hw gf_M_47 t1 hr2 d_M_lastRank_85 ?_
        refine lv_iload_n hx hb d_M_lastRank_88 rfl (lv_at hl 3 rfl) ?_
        refine ga_iald C hw t3 b4 d_M_lastRank_89 ?_
        exact m_M_lastRank_b90 hret C _ hF _ _ _ (lv_sub hl [] rfl) hw
      · rw [if_neg h14] at hF
        refine lv_icmp_ge (tgt := 84) hx hb d_M_lastRank_75 (by decide) (fun hp => absurd hp h14) (fun _ => ?_)
        refine lv_iload_n hx hb d_M_lastRank_78 rfl (lv_at hl 1 rfl) ?_
        refine lv_iload_n hx hb d_M_lastRank_79 rfl (lv_at hl 0 rfl) ?_
        refine lv_iadd hx hb d_M_lastRank_80 ?_
        refine lv_goto (tgt := 90) hx hb d_M_lastRank_81 (by decide) ?_
        exact m_M_lastRank_b90 hret C _ hF _ _ _ (lv_sub hl [] rfl) hw
  refine key _ (fun pc ls H locs x he hd hw => ?_)
  · cases he
    exact W.iret hx hb hr (fun t ht _ => ⟨⟨_, (), rfl, rfl, ga_o hw ht⟩, hw.2.2.2.1.F ht⟩) hw.2.2.2.1.2.2 hd
set_option maxHeartbeats 4000000 in
set_option maxRecDepth 100000 in
theorem m_M_search_b29 {zz : gMI × gMJ} (hret : ∀ (pc : Nat) (ls : Array Slot) (H : Heap) (locs : List Loc) (I1 : gMI) (J1 : gMJ), (I1, J1) = zz → decode prog_10_method_20_code pc = .ok (.return_, 1) → ga_W D T z L S I1 J1 s H locs → W p l e rm_M_search s m args below meth c H locs 0 0 Q (F0 m pc ls [])) (C : CallFix p m c prog_10_method_20_code 3 s args ga_ws "RankHouseModel") : ∀ (I : gMI) (J : gMJ) (s0 : Int32) (s1 : Int32) (s2 : Nat) (l0 : Nat) (l1 : Int32), f_M_search_b29 S I J s0 s1 s2 l0 l1 = some zz → ∀ (ls : Array Slot) (H : Heap) (locs : List Loc), lv_has ls 3 [(0, .ref l0), (1, .int l1)] → ga_W D T z L S I J s H locs → W p l e rm_M_search s m args below meth c H locs 0 0 Q (F0 m 29 ls [.int s0, .int s1, .ref s2]) := by
  intro I J s0 s1 s2 l0 l1 hF ls H locs hl hw
  have hx := C.1
  have hb := C.2.1
  rw [f_M_search_b29] at hF
  obtain ⟨t1, hF⟩ := gd_ex hF
  obtain ⟨b2, hF⟩ := gd_ex hF
  obtain ⟨I3, eI3, hF⟩ := bnd_ex hF
  refine ga_iast C hw t1 b2 eI3 d_M_search_29 (fun H locs hw => ?_)
  refine lv_aload_n hx hb d_M_search_30 rfl (lv_at hl 0 rfl) ?_
  obtain ⟨t4, hF⟩ := gd_ex hF
  obtain ⟨r5, hr5, hF⟩ := ob_ex hF
  refine ga_getR C hw gf_M_59 t4 hr5 d_M_search_31 ?_
  refine lv_iload_n hx hb d_M_search_34 rfl (lv_at hl 1 rfl) ?_
  refine lv_ldc hx hb C.2.2.2.1 (C.2.2.2.2 _ gk_M_141) d_M_search_35 ?_
  obtain ⟨t6, hF⟩ := gd_ex hF
  obtain ⟨b7, hF⟩ := gd_ex hF
  obtain ⟨I8, eI8, hF⟩ := bnd_ex hF
  refine ga_iast C hw t6 b7 eI8 d_M_search_37 (fun H locs hw => ?_)
  refine lv_aload_n hx hb d_M_search_38 rfl (lv_at hl 0 rfl) ?_
  obtain ⟨r9, hr9, hF⟩ := ob_ex hF
  refine ga_getR C hw gf_M_62 t4 hr9 d_M_search_39 ?_
  refine lv_iload_n hx hb d_M_search_42 rfl (lv_at hl 1 rfl) ?_
  refine lv_ldc hx hb C.2.2.2.1 (C.2.2.2.2 _ gk_M_167) d_M_search_43 ?_
  obtain ⟨t10, hF⟩ := gd_ex hF
  obtain ⟨b11, hF⟩ := gd_ex hF
  obtain ⟨I12, eI12, hF⟩ := bnd_ex hF
  refine ga_iast C hw t10 b11 eI12 d_M_search_45 (fun H locs hw => ?_)
  refine lv_aload_n hx hb d_M_search_46 rfl (lv_at hl 0 rfl) ?_
  obtain ⟨r13, hr13, hF⟩ := ob_ex hF
  refine ga_getR C hw gf_M_65 t4 hr13 d_M_search_47 ?_
  refine lv_iload_n hx hb d_M_search_50 rfl (lv_at hl 1 rfl) ?_
  refine lv_iconst (v := 0) hx hb d_M_search_51 (by decide) ?_
  obtain ⟨t14, hF⟩ := gd_ex hF
  obtain ⟨b15, hF⟩ := gd_ex hF
  obtain ⟨I16, eI16, hF⟩ := bnd_ex hF
  refine ga_iast C hw t14 b15 eI16 d_M_search_52 (fun H locs hw => ?_)
  refine lv_aload_n hx hb d_M_search_53 rfl (lv_at hl 0 rfl) ?_
  obtain ⟨r17, hr17, hF⟩ := ob_ex hF
  refine ga_getR C hw gf_M_50 t4 hr17 d_M_search_54 ?_
  refine lv_iload_n hx hb d_M_search_57 rfl (lv_at hl 1 rfl) ?_
  refine lv_aload_n hx hb d_M_search_58 rfl (lv_at hl 0 rfl) ?_
  obtain ⟨r18, hr18, hF⟩ := ob_ex hF
  refine ga_getR C hw gf_M_47 t4 hr18 d_M_search_59 ?_
  refine lv_iload_n hx hb d_M_search_62 rfl (lv_at hl 1 rfl) ?_
  obtain ⟨t19, hF⟩ := gd_ex hF
  obtain ⟨b20, hF⟩ := gd_ex hF
  refine ga_iald C hw t19 b20 d_M_search_63 ?_
  obtain ⟨t21, hF⟩ := gd_ex hF
  obtain ⟨b22, hF⟩ := gd_ex hF
  obtain ⟨I23, eI23, hF⟩ := bnd_ex hF
  refine ga_iast C hw t21 b22 eI23 d_M_search_64 (fun H locs hw => ?_)
  refine lv_aload_n hx hb d_M_search_65 rfl (lv_at hl 0 rfl) ?_
  refine lv_iload_n hx hb d_M_search_66 rfl (lv_at hl 1 rfl) ?_
  refine lv_iconst (v := 3) hx hb d_M_search_67 (by decide) ?_
  obtain ⟨I24, J25, c26, hF⟩ := bd2_ex hF
  refine ga_cVv (As := [.int l1, .int (3 : Int32)]) C hw (c_M_askAll l D T z L c26) gy_M_168 t4 rfl hl.1 ⟨Nat.le_of_ble_eq_true rfl, Nat.le_of_ble_eq_true rfl, rfl, rfl, Nat.le_of_ble_eq_true rfl, Nat.le_of_ble_eq_true rfl⟩ (Nat.le_of_ble_eq_true rfl) rfl d_M_search_68 (fun H locs hw => ?_)
  exact hret _ _ _ _ _ _ (Option.some.inj hF) d_M_search_71 hw
set_option maxHeartbeats 4000000 in
set_option maxRecDepth 100000 in
theorem c_M_search (l : Launch) (D : va_G) (T : Nat → ClassId) (z : Nat) (L : List Nat) {S : gS} {I : gMI} {J : gMJ} {p0 : Nat} {p1 : Int32} {p2 : Int32} {RI : gMI} {RJ : gMJ} (hF : f_M_search S I J p0 p1 p2 = some (RI, RJ)) : ga_Mv l y_M_search prog_10_method_20_code 3 (Option.none : Option Jvm.ClassFile.FieldType) rm_M_search [.ref p0, .int p1, .int p2] D T z L S I J RI RJ := by
  refine Met.ofW (cc := prog_10_method_20_code) (maxL := 3) (ret := (Option.none : Option Jvm.ClassFile.FieldType)) (by decide) rfl ?_
  intro p e s m args below meth c s₁ B hml hv
  obtain ⟨ha, hv⟩ := hv
  have hx := B.exec
  have hb := B.bytes
  have hr := B.returns
  have hts := atoms_spec (ws := .code y_M_search prog_10_method_20_code 3 (Option.none : Option Jvm.ClassFile.FieldType) :: ga_ws) B.pre
  have hown : s.vm.findClass "RankHouseModel" = some m.cls := findClass_of_methodNamed B.named
  have hlocks := B.notSynchronized
  have C : CallFix p m c prog_10_method_20_code 3 s args ga_ws "RankHouseModel" := ⟨hx, hb, hml, hown, fun w h => hts w (List.mem_cons_of_mem _ h)⟩
  have hw := ga_start hv
  have hl := lv_entry ([.ref p0, .int p1, .int p2]) (n := 3) (Nat.le_of_ble_eq_true rfl)
  rw [show entryFrame m args 3 = entryFrame m ([.ref p0, .int p1, .int p2] : List Value).toArray 3 by rw [ha], lg_entry_eq]
  generalize (lg_sl ([.ref p0, .int p1, .int p2]) ++ List.replicate (3 - (lg_sl ([.ref p0, .int p1, .int p2])).length) Slot.unset).toArray = ls at hl ⊢
  have hl : lv_has ls 3 [(0, .ref p0), (1, .int p1), (2, .int p2)] := hl
  have key : ∀ Q : State → Prop, (∀ (pc : Nat) (ls : Array Slot) (H : Heap) (locs : List Loc) (I1 : gMI) (J1 : gMJ), (I1, J1) = (RI, RJ) → decode prog_10_method_20_code pc = .ok (.return_, 1) → ga_W D T z L S I1 J1 s H locs → W p l e rm_M_search s m args below meth c H locs 0 0 Q (F0 m pc ls [])) → W p l e rm_M_search s m args below meth c s.heap [] 0 0 Q (F0 m 0 ls []) := by
    intro Q hret
    rw [f_M_search] at hF
    refine lv_aload_n hx hb d_M_search_0 rfl (lv_at hl 0 rfl) ?_
    obtain ⟨t1, hF⟩ := gd_ex hF
    obtain ⟨r2, hr2, hF⟩ := ob_ex hF
    refine ga_getR C hw gf_M_71 t1 hr2 d_M_search_1 ?_
    refine lv_iload_n hx hb d_M_search_4 rfl (lv_at hl 1 rfl) ?_
    refine lv_iload_n hx hb d_M_search_5 rfl (lv_at hl 2 rfl) ?_
    obtain ⟨t3, hF⟩ := gd_ex hF
    obtain ⟨b4, hF⟩ := gd_ex hF
    obtain ⟨z5, hF⟩ := gd_ex hF
    obtain ⟨I6, eI6, hF⟩ := bnd_ex hF
    refine ga_zast C hw t3 b4 (ga_zn z5) eI6 d_M_search_6 (fun H locs hw => ?_)
    refine lv_aload_n hx hb d_M_search_7 rfl (lv_at hl 0 rfl) ?_
    obtain ⟨r7, hr7, hF⟩ := ob_ex hF
    refine ga_getR C hw gf_M_68 t1 hr7 d_M_search_8 ?_
    refine lv_iload_n hx hb d_M_search_11 rfl (lv_at hl 1 rfl) ?_
    refine lv_iload_n hx hb d_M_search_12 rfl (lv_at hl 2 rfl) ?_
    by_cases h8 : p2 = 0
    · rw [if_pos h8] at hF
      refine lv_if_eq (tgt := 24) hx hb d_M_search_13 (by decide) (fun _ => ?_) (fun hn => absurd h8 hn)
      refine lv_aload_n hx hb d_M_search_24 rfl (lv_at hl 0 rfl) ?_
      refine lv_iload_n hx hb d_M_search_25 rfl (lv_at hl 1 rfl) ?_
      obtain ⟨x9, c10, hF⟩ := ob_ex hF
      refine ga_cVi (As := [.int p1]) C hw (c_M_firstRank l D T z L c10) gy_M_164 t1 rfl hl.1 ⟨Nat.le_of_ble_eq_true rfl, Nat.le_of_ble_eq_true rfl, rfl, rfl, Nat.le_of_ble_eq_true rfl, Nat.le_of_ble_eq_true rfl⟩ (Nat.le_of_ble_eq_true rfl) rfl d_M_search_26 (fun H locs hw => ?_)
      exact m_M_search_b29 hret C _ _ _ _ _ _ _ hF _ _ _ (lv_sub hl [0, 1] rfl) hw
    · rw [if_neg h8] at hF
      refine lv_if_eq (tgt := 24) hx hb d_M_search_13 (by decide) (fun hp => absurd hp h8) (fun _ => ?_)
      refine lv_aload_n hx hb d_M_search_16 rfl (lv_at hl 0 rfl) ?_
      refine lv_iload_n hx hb d_M_search_17 rfl (lv_at hl 1 rfl) ?_
      obtain ⟨x11, c12, hF⟩ := ob_ex hF
      refine ga_cVi (As := [.int p1]) C hw (c_M_lastRank l D T z L c12) gy_M_160 t1 rfl hl.1 ⟨Nat.le_of_ble_eq_true rfl, Nat.le_of_ble_eq_true rfl, rfl, rfl, Nat.le_of_ble_eq_true rfl, Nat.le_of_ble_eq_true rfl⟩ (Nat.le_of_ble_eq_true rfl) rfl d_M_search_18 (fun H locs hw => ?_)
      refine lv_goto (tgt := 29) hx hb d_M_search_21 (by decide) ?_
      exact m_M_search_b29 hret C _ _ _ _ _ _ _ hF _ _ _ (lv_sub hl [0, 1] rfl) hw
  refine key _ (fun pc ls H locs I1 J1 he hd hw => ?_)
  · cases he
    exact W.vret hx hb hr (fun t ht _ => ⟨⟨(), rfl, trivial, ga_o hw ht⟩, hw.2.2.2.1.F ht⟩) hw.2.2.2.1.2.2 hd
set_option maxHeartbeats 4000000 in
set_option maxRecDepth 100000 in
theorem m_M_afterFreeze_b91 {zz : gMI × gMJ} (hret : ∀ (pc : Nat) (ls : Array Slot) (H : Heap) (locs : List Loc) (I1 : gMI) (J1 : gMJ), (I1, J1) = zz → decode prog_10_method_21_code pc = .ok (.return_, 1) → ga_W D T z L S I1 J1 s H locs → W p l e rm_M_afterFreeze s m args below meth c H locs 0 0 Q (F0 m pc ls [])) (C : CallFix p m c prog_10_method_21_code 2 s args ga_ws "RankHouseModel") : ∀ (I : gMI) (J : gMJ), f_M_afterFreeze_b91 S I J = some zz → ∀ (ls : Array Slot) (H : Heap) (locs : List Loc), lv_has ls 2 [] → ga_W D T z L S I J s H locs → W p l e rm_M_afterFreeze s m args below meth c H locs 0 0 Q (F0 m 91 ls []) := by
  intro I J hF ls H locs hl hw
  have hx := C.1
  have hb := C.2.1
  rw [f_M_afterFreeze_b91] at hF
  exact hret _ _ _ _ _ _ (Option.some.inj hF) d_M_afterFreeze_91 hw
set_option maxHeartbeats 4000000 in
set_option maxRecDepth 100000 in
theorem m_M_afterFreeze_b45 {zz : gMI × gMJ} (hret : ∀ (pc : Nat) (ls : Array Slot) (H : Heap) (locs : List Loc) (I1 : gMI) (J1 : gMJ), (I1, J1) = zz → decode prog_10_method_21_code pc = .ok (.return_, 1) → ga_W D T z L S I1 J1 s H locs → W p l e rm_M_afterFreeze s m args below meth c H locs 0 0 Q (F0 m pc ls [])) (C : CallFix p m c prog_10_method_21_code 2 s args ga_ws "RankHouseModel") : ∀ (I : gMI) (J : gMJ) (l0 : Nat) (l1 : Int32), f_M_afterFreeze_b45 S I J l0 l1 = some zz → ∀ (ls : Array Slot) (H : Heap) (locs : List Loc), lv_has ls 2 [(0, .ref l0), (1, .int l1)] → ga_W D T z L S I J s H locs → W p l e rm_M_afterFreeze s m args below meth c H locs 0 0 Q (F0 m 45 ls []) := by
  intro I J l0 l1 hF ls H locs hl hw
  have hx := C.1
  have hb := C.2.1
  rw [f_M_afterFreeze_b45] at hF
  refine lv_aload_n hx hb d_M_afterFreeze_45 rfl (lv_at hl 0 rfl) ?_
  obtain ⟨t1, hF⟩ := gd_ex hF
  obtain ⟨r2, hr2, hF⟩ := ob_ex hF
  refine ga_getR C hw gf_M_41 t1 hr2 d_M_afterFreeze_46 ?_
  refine lv_iload_n hx hb d_M_afterFreeze_49 rfl (lv_at hl 1 rfl) ?_
  refine lv_iconst (v := 2) hx hb d_M_afterFreeze_50 (by decide) ?_
  obtain ⟨t3, hF⟩ := gd_ex hF
  obtain ⟨b4, hF⟩ := gd_ex hF
  obtain ⟨I5, eI5, hF⟩ := bnd_ex hF
  refine ga_iast C hw t3 b4 eI5 d_M_afterFreeze_51 (fun H locs hw => ?_)
  refine lv_goto (tgt := 91) hx hb d_M_afterFreeze_52 (by decide) ?_
  exact m_M_afterFreeze_b91 hret C _ _ hF _ _ _ (lv_sub hl [] rfl) hw
set_option maxHeartbeats 4000000 in
set_option maxRecDepth 100000 in
theorem m_M_afterFreeze_b75 {zz : gMI × gMJ} (hret : ∀ (pc : Nat) (ls : Array Slot) (H : Heap) (locs : List Loc) (I1 : gMI) (J1 : gMJ), (I1, J1) = zz → decode prog_10_method_21_code pc = .ok (.return_, 1) → ga_W D T z L S I1 J1 s H locs → W p l e rm_M_afterFreeze s m args below meth c H locs 0 0 Q (F0 m pc ls [])) (C : CallFix p m c prog_10_method_21_code 2 s args ga_ws "RankHouseModel") : ∀ (I : gMI) (J : gMJ) (l0 : Nat) (l1 : Int32), f_M_afterFreeze_b75 S I J l0 l1 = some zz → ∀ (ls : Array Slot) (H : Heap) (locs : List Loc), lv_has ls 2 [(0, .ref l0), (1, .int l1)] → ga_W D T z L S I J s H locs → W p l e rm_M_afterFreeze s m args below meth c H locs 0 0 Q (F0 m 75 ls []) := by
  intro I J l0 l1 hF ls H locs hl hw
  have hx := C.1
  have hb := C.2.1
  rw [f_M_afterFreeze_b75] at hF
  refine lv_aload_n hx hb d_M_afterFreeze_75 rfl (lv_at hl 0 rfl) ?_
  refine lv_iload_n hx hb d_M_afterFreeze_76 rfl (lv_at hl 1 rfl) ?_
  refine lv_bipush (v := 9) hx hb d_M_afterFreeze_77 (by decide) ?_
  obtain ⟨t1, hF⟩ := gd_ex hF
  obtain ⟨I2, J3, c4, hF⟩ := bd2_ex hF
  refine ga_cVv (As := [.int l1, .int (9 : Int32)]) C hw (c_M_askAll l D T z L c4) gy_M_168 t1 rfl hl.1 ⟨Nat.le_of_ble_eq_true rfl, Nat.le_of_ble_eq_true rfl, rfl, rfl, Nat.le_of_ble_eq_true rfl, Nat.le_of_ble_eq_true rfl⟩ (Nat.le_of_ble_eq_true rfl) rfl d_M_afterFreeze_79 (fun H locs hw => ?_)
  refine lv_goto (tgt := 91) hx hb d_M_afterFreeze_82 (by decide) ?_
  exact m_M_afterFreeze_b91 hret C _ _ hF _ _ _ (lv_sub hl [] rfl) hw
set_option maxHeartbeats 4000000 in
set_option maxRecDepth 100000 in
theorem m_M_afterFreeze_b55 {zz : gMI × gMJ} (hret : ∀ (pc : Nat) (ls : Array Slot) (H : Heap) (locs : List Loc) (I1 : gMI) (J1 : gMJ), (I1, J1) = zz → decode prog_10_method_21_code pc = .ok (.return_, 1) → ga_W D T z L S I1 J1 s H locs → W p l e rm_M_afterFreeze s m args below meth c H locs 0 0 Q (F0 m pc ls [])) (C : CallFix p m c prog_10_method_21_code 2 s args ga_ws "RankHouseModel") : ∀ (I : gMI) (J : gMJ) (l0 : Nat) (l1 : Int32), f_M_afterFreeze_b55 S I J l0 l1 = some zz → ∀ (ls : Array Slot) (H : Heap) (locs : List Loc), lv_has ls 2 [(0, .ref l0), (1, .int l1)] → ga_W D T z L S I J s H locs → W p l e rm_M_afterFreeze s m args below meth c H locs 0 0 Q (F0 m 55 ls []) := by
  intro I J l0 l1 hF ls H locs hl hw
  have hx := C.1
  have hb := C.2.1
  rw [f_M_afterFreeze_b55] at hF
  refine lv_aload_n hx hb d_M_afterFreeze_55 rfl (lv_at hl 0 rfl) ?_
  obtain ⟨t1, hF⟩ := gd_ex hF
  obtain ⟨r2, hr2, hF⟩ := ob_ex hF
  refine ga_getR C hw gf_M_23 t1 hr2 d_M_afterFreeze_56 ?_
  refine lv_iload_n hx hb d_M_afterFreeze_59 rfl (lv_at hl 1 rfl) ?_
  obtain ⟨t3, hF⟩ := gd_ex hF
  obtain ⟨b4, hF⟩ := gd_ex hF
  refine ga_iald C hw t3 b4 d_M_afterFreeze_60 ?_
  refine lv_iconst (v := 1) hx hb d_M_afterFreeze_61 (by decide) ?_
  by_cases h5 : (I r2 l1.toNatClampNeg) = (1 : Int32)
  · rw [if_pos h5] at hF
    refine lv_icmp_eq (tgt := 75) hx hb d_M_afterFreeze_62 (by decide) (fun _ => ?_) (fun hn => absurd h5 hn)
    exact m_M_afterFreeze_b75 hret C _ _ _ _ hF _ _ _ hl hw
  · rw [if_neg h5] at hF
    refine lv_icmp_eq (tgt := 75) hx hb d_M_afterFreeze_62 (by decide) (fun hp => absurd hp h5) (fun _ => ?_)
    refine lv_aload_n hx hb d_M_afterFreeze_65 rfl (lv_at hl 0 rfl) ?_
    refine ga_getR C hw gf_M_23 t1 hr2 d_M_afterFreeze_66 ?_
    refine lv_iload_n hx hb d_M_afterFreeze_69 rfl (lv_at hl 1 rfl) ?_
    refine ga_iald C hw t3 b4 d_M_afterFreeze_70 ?_
    refine lv_iconst (v := 3) hx hb d_M_afterFreeze_71 (by decide) ?_
    by_cases h6 : (I r2 l1.toNatClampNeg) = (3 : Int32)
    · rw [if_pos h6] at hF
      refine lv_icmp_ne (tgt := 85) hx hb d_M_afterFreeze_72 (by decide) (fun hn => absurd h6 hn) (fun _ => ?_)
      exact m_M_afterFreeze_b75 hret C _ _ _ _ hF _ _ _ hl hw
    · rw [if_neg h6] at hF
      refine lv_icmp_ne (tgt := 85) hx hb d_M_afterFreeze_72 (by decide) (fun _ => ?_) (fun hp => absurd hp h6)
      refine lv_aload_n hx hb d_M_afterFreeze_85 rfl (lv_at hl 0 rfl) ?_
      refine lv_iload_n hx hb d_M_afterFreeze_86 rfl (lv_at hl 1 rfl) ?_
      refine lv_iconst (v := 0) hx hb d_M_afterFreeze_87 (by decide) ?_
      obtain ⟨I7, J8, c9, hF⟩ := bd2_ex hF
      refine ga_cVv (As := [.int l1, .int (0 : Int32)]) C hw (c_M_search l D T z L c9) gy_M_176 t1 rfl hl.1 ⟨Nat.le_of_ble_eq_true rfl, Nat.le_of_ble_eq_true rfl, rfl, rfl, Nat.le_of_ble_eq_true rfl, Nat.le_of_ble_eq_true rfl⟩ (Nat.le_of_ble_eq_true rfl) rfl d_M_afterFreeze_88 (fun H locs hw => ?_)
      exact m_M_afterFreeze_b91 hret C _ _ hF _ _ _ (lv_sub hl [] rfl) hw
set_option maxHeartbeats 4000000 in
set_option maxRecDepth 100000 in
theorem c_M_afterFreeze (l : Launch) (D : va_G) (T : Nat → ClassId) (z : Nat) (L : List Nat) {S : gS} {I : gMI} {J : gMJ} {p0 : Nat} {p1 : Int32} {RI : gMI} {RJ : gMJ} (hF : f_M_afterFreeze S I J p0 p1 = some (RI, RJ)) : ga_Mv l y_M_afterFreeze prog_10_method_21_code 2 (Option.none : Option Jvm.ClassFile.FieldType) rm_M_afterFreeze [.ref p0, .int p1] D T z L S I J RI RJ := by
  refine Met.ofW (cc := prog_10_method_21_code) (maxL := 2) (ret := (Option.none : Option Jvm.ClassFile.FieldType)) (by decide) rfl ?_
  intro p e s m args below meth c s₁ B hml hv
  obtain ⟨ha, hv⟩ := hv
  have hx := B.exec
  have hb := B.bytes
  have hr := B.returns
  have hts := atoms_spec (ws := .code y_M_afterFreeze prog_10_method_21_code 2 (Option.none : Option Jvm.ClassFile.FieldType) :: ga_ws) B.pre
  have hown : s.vm.findClass "RankHouseModel" = some m.cls := findClass_of_methodNamed B.named
  have hlocks := B.notSynchronized
  have C : CallFix p m c prog_10_method_21_code 2 s args ga_ws "RankHouseModel" := ⟨hx, hb, hml, hown, fun w h => hts w (List.mem_cons_of_mem _ h)⟩
  have hw := ga_start hv
  have hl := lv_entry ([.ref p0, .int p1]) (n := 2) (Nat.le_of_ble_eq_true rfl)
  rw [show entryFrame m args 2 = entryFrame m ([.ref p0, .int p1] : List Value).toArray 2 by rw [ha], lg_entry_eq]
  generalize (lg_sl ([.ref p0, .int p1]) ++ List.replicate (2 - (lg_sl ([.ref p0, .int p1])).length) Slot.unset).toArray = ls at hl ⊢
  have hl : lv_has ls 2 [(0, .ref p0), (1, .int p1)] := hl
  have key : ∀ Q : State → Prop, (∀ (pc : Nat) (ls : Array Slot) (H : Heap) (locs : List Loc) (I1 : gMI) (J1 : gMJ), (I1, J1) = (RI, RJ) → decode prog_10_method_21_code pc = .ok (.return_, 1) → ga_W D T z L S I1 J1 s H locs → W p l e rm_M_afterFreeze s m args below meth c H locs 0 0 Q (F0 m pc ls [])) → W p l e rm_M_afterFreeze s m args below meth c s.heap [] 0 0 Q (F0 m 0 ls []) := by
    intro Q hret
    rw [f_M_afterFreeze] at hF
    refine lv_aload_n hx hb d_M_afterFreeze_0 rfl (lv_at hl 0 rfl) ?_
    obtain ⟨t1, hF⟩ := gd_ex hF
    obtain ⟨r2, hr2, hF⟩ := ob_ex hF
    refine ga_getR C hw gf_M_47 t1 hr2 d_M_afterFreeze_1 ?_
    refine lv_iload_n hx hb d_M_afterFreeze_4 rfl (lv_at hl 1 rfl) ?_
    refine lv_aload_n hx hb d_M_afterFreeze_5 rfl (lv_at hl 0 rfl) ?_
    refine lv_iload_n hx hb d_M_afterFreeze_6 rfl (lv_at hl 1 rfl) ?_
    refine lv_iconst (v := 0) hx hb d_M_afterFreeze_7 (by decide) ?_
    obtain ⟨x3, c4, hF⟩ := ob_ex hF
    refine ga_cVi (As := [.int p1, .int (0 : Int32)]) C hw (c_M_total l D T z L c4) gy_M_172 t1 rfl hl.1 ⟨Nat.le_of_ble_eq_true rfl, Nat.le_of_ble_eq_true rfl, rfl, rfl, Nat.le_of_ble_eq_true rfl, Nat.le_of_ble_eq_true rfl⟩ (Nat.le_of_ble_eq_true rfl) rfl d_M_afterFreeze_8 (fun H locs hw => ?_)
    obtain ⟨t5, hF⟩ := gd_ex hF
    obtain ⟨b6, hF⟩ := gd_ex hF
    obtain ⟨I7, eI7, hF⟩ := bnd_ex hF
    refine ga_iast C hw t5 b6 eI7 d_M_afterFreeze_11 (fun H locs hw => ?_)
    refine lv_aload_n hx hb d_M_afterFreeze_12 rfl (lv_at hl 0 rfl) ?_
    refine ga_getR C hw gf_M_47 t1 hr2 d_M_afterFreeze_13 ?_
    refine lv_iload_n hx hb d_M_afterFreeze_16 rfl (lv_at hl 1 rfl) ?_
    refine ga_iald C hw t5 b6 d_M_afterFreeze_17 ?_
    by_cases h8 : (I7 r2 p1.toNatClampNeg) = 0
    · rw [if_pos h8] at hF
      refine lv_if_eq (tgt := 45) hx hb d_M_afterFreeze_18 (by decide) (fun _ => ?_) (fun hn => absurd h8 hn)
      exact m_M_afterFreeze_b45 hret C _ _ _ _ hF _ _ _ hl hw
    · rw [if_neg h8] at hF
      refine lv_if_eq (tgt := 45) hx hb d_M_afterFreeze_18 (by decide) (fun hp => absurd hp h8) (fun _ => ?_)
      refine lv_aload_n hx hb d_M_afterFreeze_21 rfl (lv_at hl 0 rfl) ?_
      obtain ⟨r9, hr9, hF⟩ := ob_ex hF
      refine ga_getR C hw gf_M_23 t1 hr9 d_M_afterFreeze_22 ?_
      refine lv_iload_n hx hb d_M_afterFreeze_25 rfl (lv_at hl 1 rfl) ?_
      obtain ⟨t10, hF⟩ := gd_ex hF
      obtain ⟨b11, hF⟩ := gd_ex hF
      refine ga_iald C hw t10 b11 d_M_afterFreeze_26 ?_
      by_cases h12 : (I7 r9 p1.toNatClampNeg) = 0
      · rw [if_pos h12] at hF
        refine lv_if_ne (tgt := 55) hx hb d_M_afterFreeze_27 (by decide) (fun hn => absurd h12 hn) (fun _ => ?_)
        refine lv_aload_n hx hb d_M_afterFreeze_30 rfl (lv_at hl 0 rfl) ?_
        obtain ⟨r13, hr13, hF⟩ := ob_ex hF
        refine ga_getR C hw gf_M_26 t1 hr13 d_M_afterFreeze_31 ?_
        refine lv_iload_n hx hb d_M_afterFreeze_34 rfl (lv_at hl 1 rfl) ?_
        obtain ⟨t14, hF⟩ := gd_ex hF
        obtain ⟨b15, hF⟩ := gd_ex hF
        refine ga_iald C hw t14 b15 d_M_afterFreeze_35 ?_
        refine lv_aload_n hx hb d_M_afterFreeze_36 rfl (lv_at hl 0 rfl) ?_
        refine ga_getR C hw gf_M_47 t1 hr2 d_M_afterFreeze_37 ?_
        refine lv_iload_n hx hb d_M_afterFreeze_40 rfl (lv_at hl 1 rfl) ?_
        refine ga_iald C hw t5 b6 d_M_afterFreeze_41 ?_
        by_cases h16 : (I7 r13 p1.toNatClampNeg) ≤ (I7 r2 p1.toNatClampNeg)
        · rw [if_pos h16] at hF
          refine lv_icmp_le (tgt := 55) hx hb d_M_afterFreeze_42 (by decide) (fun _ => ?_) (fun hn => absurd h16 hn)
          exact m_M_afterFreeze_b55 hret C _ _ _ _ hF _ _ _ hl hw
        · rw [if_neg h16] at hF
          refine lv_icmp_le (tgt := 55) hx hb d_M_afterFreeze_42 (by decide) (fun hp => absurd hp h16) (fun _ => ?_)
          exact m_M_afterFreeze_b45 hret C _ _ _ _ hF _ _ _ hl hw
      · rw [if_neg h12] at hF
        refine lv_if_ne (tgt := 55) hx hb d_M_afterFreeze_27 (by decide) (fun _ => ?_) (fun hp => absurd hp h12)
        exact m_M_afterFreeze_b55 hret C _ _ _ _ hF _ _ _ hl hw
  refine key _ (fun pc ls H locs I1 J1 he hd hw => ?_)
  · cases he
    exact W.vret hx hb hr (fun t ht _ => ⟨⟨(), rfl, trivial, ga_o hw ht⟩, hw.2.2.2.1.F ht⟩) hw.2.2.2.1.2.2 hd
set_option maxHeartbeats 4000000 in
set_option maxRecDepth 100000 in
theorem m_M_pivotOf_b86 {I : gMI} {J : gMJ} {zz : Int32} (hret : ∀ (pc : Nat) (ls : Array Slot) (H : Heap) (locs : List Loc) (x : Int32), (x) = zz → decode prog_10_method_22_code pc = .ok (.ireturn, 1) → ga_W D T z L S I J s H locs → W p l e rm_M_pivotOf s m args below meth c H locs 0 0 Q (F0 m pc ls [.int x])) (C : CallFix p m c prog_10_method_22_code 8 s args ga_ws "RankHouseModel") (k38 : Nat → Int32 → Int32 → Int32 → Int32 → Int32 → Int32 → Int32 → Option (Int32)) (hk38 : ∀ (l0 : Nat) (l1 : Int32) (l2 : Int32) (l3 : Int32) (l4 : Int32) (l5 : Int32) (l6 : Int32) (l7 : Int32), k38 l0 l1 l2 l3 l4 l5 l6 l7 = some zz → ∀ (ls : Array Slot) (H : Heap) (locs : List Loc), lv_has ls 8 [(0, .ref l0), (1, .int l1), (2, .int l2), (3, .int l3), (4, .int l4), (5, .int l5), (6, .int l6), (7, .int l7)] → ga_W D T z L S I J s H locs → W p l e rm_M_pivotOf s m args below meth c H locs 0 0 Q (F0 m 38 ls [])) : ∀ (s0 : Int32) (s1 : Int32) (l0 : Nat) (l1 : Int32) (l2 : Int32) (l3 : Int32) (l4 : Int32) (l5 : Int32) (l7 : Int32), f_M_pivotOf_b86 S I J k38 s0 s1 l0 l1 l2 l3 l4 l5 l7 = some zz → ∀ (ls : Array Slot) (H : Heap) (locs : List Loc), lv_has ls 8 [(0, .ref l0), (1, .int l1), (2, .int l2), (3, .int l3), (4, .int l4), (5, .int l5), (7, .int l7)] → ga_W D T z L S I J s H locs → W p l e rm_M_pivotOf s m args below meth c H locs 0 0 Q (F0 m 86 ls [.int s0, .int s1]) := by
  intro s0 s1 l0 l1 l2 l3 l4 l5 l7 hF ls H locs hl hw
  have hx := C.1
  have hb := C.2.1
  rw [f_M_pivotOf_b86] at hF
  refine lv_iadd hx hb d_M_pivotOf_86 ?_
  refine lv_topi (fun v1 ev1 => ?_)
  replace hF := bnd_at hF ev1
  refine lv_istore hx hb d_M_pivotOf_87 hl (by decide) rfl (fun ls hl => ?_)
  have hl : lv_has ls 8 [(6, .int v1), (0, .ref l0), (1, .int l1), (2, .int l2), (3, .int l3), (4, .int l4), (5, .int l5), (7, .int l7)] := hl
  obtain ⟨v2, ev2, hF⟩ := bnd_ex hF
  refine lv_iinc (k := 7) (v := v2) hx hb d_M_pivotOf_89 hl rfl (by rw [ev2]; rfl) (by decide) rfl (fun ls hl => ?_)
  have hl : lv_has ls 8 [(7, .int v2), (6, .int v1), (0, .ref l0), (1, .int l1), (2, .int l2), (3, .int l3), (4, .int l4), (5, .int l5)] := hl
  refine lv_goto (tgt := 38) hx hb d_M_pivotOf_92 (by decide) ?_
  exact hk38 _ _ _ _ _ _ _ _ hF _ _ _ (lv_sub hl [2, 3, 4, 5, 6, 7, 1, 0] rfl) hw
set_option maxHeartbeats 4000000 in
set_option maxRecDepth 100000 in
theorem m_M_pivotOf_b152 {I : gMI} {J : gMJ} {zz : Int32} (hret : ∀ (pc : Nat) (ls : Array Slot) (H : Heap) (locs : List Loc) (x : Int32), (x) = zz → decode prog_10_method_22_code pc = .ok (.ireturn, 1) → ga_W D T z L S I J s H locs → W p l e rm_M_pivotOf s m args below meth c H locs 0 0 Q (F0 m pc ls [.int x])) (C : CallFix p m c prog_10_method_22_code 8 s args ga_ws "RankHouseModel") (k7 : Nat → Int32 → Int32 → Int32 → Int32 → Option (Int32)) (hk7 : ∀ (l0 : Nat) (l1 : Int32) (l2 : Int32) (l3 : Int32) (l4 : Int32), k7 l0 l1 l2 l3 l4 = some zz → ∀ (ls : Array Slot) (H : Heap) (locs : List Loc), lv_has ls 8 [(0, .ref l0), (1, .int l1), (2, .int l2), (3, .int l3), (4, .int l4)] → ga_W D T z L S I J s H locs → W p l e rm_M_pivotOf s m args below meth c H locs 0 0 Q (F0 m 7 ls [])) : ∀ (l0 : Nat) (l1 : Int32) (l2 : Int32) (l3 : Int32) (l4 : Int32), f_M_pivotOf_b152 S I J k7 l0 l1 l2 l3 l4 = some zz → ∀ (ls : Array Slot) (H : Heap) (locs : List Loc), lv_has ls 8 [(0, .ref l0), (1, .int l1), (2, .int l2), (3, .int l3), (4, .int l4)] → ga_W D T z L S I J s H locs → W p l e rm_M_pivotOf s m args below meth c H locs 0 0 Q (F0 m 152 ls []) := by
  intro l0 l1 l2 l3 l4 hF ls H locs hl hw
  have hx := C.1
  have hb := C.2.1
  rw [f_M_pivotOf_b152] at hF
  obtain ⟨v1, ev1, hF⟩ := bnd_ex hF
  refine lv_iinc (k := 4) (v := v1) hx hb d_M_pivotOf_152 hl rfl (by rw [ev1]; rfl) (by decide) rfl (fun ls hl => ?_)
  have hl : lv_has ls 8 [(4, .int v1), (0, .ref l0), (1, .int l1), (2, .int l2), (3, .int l3)] := hl
  refine lv_goto (tgt := 7) hx hb d_M_pivotOf_155 (by decide) ?_
  exact hk7 _ _ _ _ _ hF _ _ _ (lv_sub hl [1, 2, 3, 4, 0] rfl) hw
set_option maxHeartbeats 4000000 in
set_option maxRecDepth 100000 in
theorem m_M_pivotOf_b147 {I : gMI} {J : gMJ} {zz : Int32} (hret : ∀ (pc : Nat) (ls : Array Slot) (H : Heap) (locs : List Loc) (x : Int32), (x) = zz → decode prog_10_method_22_code pc = .ok (.ireturn, 1) → ga_W D T z L S I J s H locs → W p l e rm_M_pivotOf s m args below meth c H locs 0 0 Q (F0 m pc ls [.int x])) (C : CallFix p m c prog_10_method_22_code 8 s args ga_ws "RankHouseModel") (k7 : Nat → Int32 → Int32 → Int32 → Int32 → Option (Int32)) (hk7 : ∀ (l0 : Nat) (l1 : Int32) (l2 : Int32) (l3 : Int32) (l4 : Int32), k7 l0 l1 l2 l3 l4 = some zz → ∀ (ls : Array Slot) (H : Heap) (locs : List Loc), lv_has ls 8 [(0, .ref l0), (1, .int l1), (2, .int l2), (3, .int l3), (4, .int l4)] → ga_W D T z L S I J s H locs → W p l e rm_M_pivotOf s m args below meth c H locs 0 0 Q (F0 m 7 ls [])) : ∀ (l0 : Nat) (l1 : Int32) (l4 : Int32) (l5 : Int32), f_M_pivotOf_b147 S I J k7 l0 l1 l4 l5 = some zz → ∀ (ls : Array Slot) (H : Heap) (locs : List Loc), lv_has ls 8 [(0, .ref l0), (1, .int l1), (4, .int l4), (5, .int l5)] → ga_W D T z L S I J s H locs → W p l e rm_M_pivotOf s m args below meth c H locs 0 0 Q (F0 m 147 ls []) := by
  intro l0 l1 l4 l5 hF ls H locs hl hw
  have hx := C.1
  have hb := C.2.1
  rw [f_M_pivotOf_b147] at hF
  refine lv_iload hx hb d_M_pivotOf_147 (lv_at hl 3 rfl) ?_
  refine lv_istore_n hx hb d_M_pivotOf_149 rfl hl (by decide) rfl (fun ls hl => ?_)
  have hl : lv_has ls 8 [(2, .int l5), (0, .ref l0), (1, .int l1), (4, .int l4), (5, .int l5)] := hl
  refine lv_iconst (v := 1) hx hb d_M_pivotOf_150 (by decide) ?_
  refine lv_istore_n hx hb d_M_pivotOf_151 rfl hl (by decide) rfl (fun ls hl => ?_)
  have hl : lv_has ls 8 [(3, .int (1 : Int32)), (2, .int l5), (0, .ref l0), (1, .int l1), (4, .int l4), (5, .int l5)] := hl
  exact m_M_pivotOf_b152 hret C k7 hk7 _ _ _ _ _ hF _ _ _ (lv_sub hl [2, 3, 1, 0, 4] rfl) hw
set_option maxHeartbeats 4000000 in
set_option maxRecDepth 100000 in
theorem m_M_pivotOf_b130 {I : gMI} {J : gMJ} {zz : Int32} (hret : ∀ (pc : Nat) (ls : Array Slot) (H : Heap) (locs : List Loc) (x : Int32), (x) = zz → decode prog_10_method_22_code pc = .ok (.ireturn, 1) → ga_W D T z L S I J s H locs → W p l e rm_M_pivotOf s m args below meth c H locs 0 0 Q (F0 m pc ls [.int x])) (C : CallFix p m c prog_10_method_22_code 8 s args ga_ws "RankHouseModel") (k7 : Nat → Int32 → Int32 → Int32 → Int32 → Option (Int32)) (hk7 : ∀ (l0 : Nat) (l1 : Int32) (l2 : Int32) (l3 : Int32) (l4 : Int32), k7 l0 l1 l2 l3 l4 = some zz → ∀ (ls : Array Slot) (H : Heap) (locs : List Loc), lv_has ls 8 [(0, .ref l0), (1, .int l1), (2, .int l2), (3, .int l3), (4, .int l4)] → ga_W D T z L S I J s H locs → W p l e rm_M_pivotOf s m args below meth c H locs 0 0 Q (F0 m 7 ls [])) : ∀ (s0 : Int32) (l0 : Nat) (l1 : Int32) (l2 : Int32) (l3 : Int32) (l4 : Int32) (l5 : Int32), f_M_pivotOf_b130 S I J k7 s0 l0 l1 l2 l3 l4 l5 = some zz → ∀ (ls : Array Slot) (H : Heap) (locs : List Loc), lv_has ls 8 [(0, .ref l0), (1, .int l1), (2, .int l2), (3, .int l3), (4, .int l4), (5, .int l5)] → ga_W D T z L S I J s H locs → W p l e rm_M_pivotOf s m args below meth c H locs 0 0 Q (F0 m 130 ls [.int s0]) := by
  intro s0 l0 l1 l2 l3 l4 l5 hF ls H locs hl hw
  have hx := C.1
  have hb := C.2.1
  rw [f_M_pivotOf_b130] at hF
  refine lv_istore hx hb d_M_pivotOf_130 hl (by decide) rfl (fun ls hl => ?_)
  have hl : lv_has ls 8 [(7, .int s0), (0, .ref l0), (1, .int l1), (2, .int l2), (3, .int l3), (4, .int l4), (5, .int l5)] := hl
  refine lv_iload hx hb d_M_pivotOf_132 (lv_at hl 0 rfl) ?_
  by_cases h1 : s0 = 0
  · rw [if_pos h1] at hF
    refine lv_if_eq (tgt := 152) hx hb d_M_pivotOf_134 (by decide) (fun _ => ?_) (fun hn => absurd h1 hn)
    exact m_M_pivotOf_b152 hret C k7 hk7 _ _ _ _ _ hF _ _ _ (lv_sub hl [1, 2, 3, 4, 5] rfl) hw
  · rw [if_neg h1] at hF
    refine lv_if_eq (tgt := 152) hx hb d_M_pivotOf_134 (by decide) (fun hp => absurd hp h1) (fun _ => ?_)
    refine lv_iload_n hx hb d_M_pivotOf_137 rfl (lv_at hl 4 rfl) ?_
    by_cases h2 : l3 = 0
    · rw [if_pos h2] at hF
      refine lv_if_eq (tgt := 147) hx hb d_M_pivotOf_138 (by decide) (fun _ => ?_) (fun hn => absurd h2 hn)
      exact m_M_pivotOf_b147 hret C k7 hk7 _ _ _ _ hF _ _ _ (lv_sub hl [1, 2, 5, 6] rfl) hw
    · rw [if_neg h2] at hF
      refine lv_if_eq (tgt := 147) hx hb d_M_pivotOf_138 (by decide) (fun hp => absurd hp h2) (fun _ => ?_)
      refine lv_iload hx hb d_M_pivotOf_141 (lv_at hl 6 rfl) ?_
      refine lv_iload_n hx hb d_M_pivotOf_143 rfl (lv_at hl 3 rfl) ?_
      by_cases h3 : l2 ≤ l5
      · rw [if_pos h3] at hF
        refine lv_icmp_ge (tgt := 152) hx hb d_M_pivotOf_144 (by decide) (fun _ => ?_) (fun hn => absurd h3 hn)
        exact m_M_pivotOf_b152 hret C k7 hk7 _ _ _ _ _ hF _ _ _ (lv_sub hl [1, 2, 3, 4, 5] rfl) hw
      · rw [if_neg h3] at hF
        refine lv_icmp_ge (tgt := 152) hx hb d_M_pivotOf_144 (by decide) (fun hp => absurd hp h3) (fun _ => ?_)
        exact m_M_pivotOf_b147 hret C k7 hk7 _ _ _ _ hF _ _ _ (lv_sub hl [1, 2, 5, 6] rfl) hw
set_option maxHeartbeats 4000000 in
set_option maxRecDepth 100000 in
theorem m_M_pivotOf_b129 {I : gMI} {J : gMJ} {zz : Int32} (hret : ∀ (pc : Nat) (ls : Array Slot) (H : Heap) (locs : List Loc) (x : Int32), (x) = zz → decode prog_10_method_22_code pc = .ok (.ireturn, 1) → ga_W D T z L S I J s H locs → W p l e rm_M_pivotOf s m args below meth c H locs 0 0 Q (F0 m pc ls [.int x])) (C : CallFix p m c prog_10_method_22_code 8 s args ga_ws "RankHouseModel") (k7 : Nat → Int32 → Int32 → Int32 → Int32 → Option (Int32)) (hk7 : ∀ (l0 : Nat) (l1 : Int32) (l2 : Int32) (l3 : Int32) (l4 : Int32), k7 l0 l1 l2 l3 l4 = some zz → ∀ (ls : Array Slot) (H : Heap) (locs : List Loc), lv_has ls 8 [(0, .ref l0), (1, .int l1), (2, .int l2), (3, .int l3), (4, .int l4)] → ga_W D T z L S I J s H locs → W p l e rm_M_pivotOf s m args below meth c H locs 0 0 Q (F0 m 7 ls [])) : ∀ (l0 : Nat) (l1 : Int32) (l2 : Int32) (l3 : Int32) (l4 : Int32) (l5 : Int32), f_M_pivotOf_b129 S I J k7 l0 l1 l2 l3 l4 l5 = some zz → ∀ (ls : Array Slot) (H : Heap) (locs : List Loc), lv_has ls 8 [(0, .ref l0), (1, .int l1), (2, .int l2), (3, .int l3), (4, .int l4), (5, .int l5)] → ga_W D T z L S I J s H locs → W p l e rm_M_pivotOf s m args below meth c H locs 0 0 Q (F0 m 129 ls []) := by
  intro l0 l1 l2 l3 l4 l5 hF ls H locs hl hw
  have hx := C.1
  have hb := C.2.1
  rw [f_M_pivotOf_b129] at hF
  refine lv_iconst (v := 0) hx hb d_M_pivotOf_129 (by decide) ?_
  exact m_M_pivotOf_b130 hret C k7 hk7 _ _ _ _ _ _ _ hF _ _ _ hl hw
set_option maxHeartbeats 4000000 in
set_option maxRecDepth 100000 in
theorem m_M_pivotOf_b38 {I : gMI} {J : gMJ} {zz : Int32} (hret : ∀ (pc : Nat) (ls : Array Slot) (H : Heap) (locs : List Loc) (x : Int32), (x) = zz → decode prog_10_method_22_code pc = .ok (.ireturn, 1) → ga_W D T z L S I J s H locs → W p l e rm_M_pivotOf s m args below meth c H locs 0 0 Q (F0 m pc ls [.int x])) (C : CallFix p m c prog_10_method_22_code 8 s args ga_ws "RankHouseModel") (k7 : Nat → Int32 → Int32 → Int32 → Int32 → Option (Int32)) (hk7 : ∀ (l0 : Nat) (l1 : Int32) (l2 : Int32) (l3 : Int32) (l4 : Int32), k7 l0 l1 l2 l3 l4 = some zz → ∀ (ls : Array Slot) (H : Heap) (locs : List Loc), lv_has ls 8 [(0, .ref l0), (1, .int l1), (2, .int l2), (3, .int l3), (4, .int l4)] → ga_W D T z L S I J s H locs → W p l e rm_M_pivotOf s m args below meth c H locs 0 0 Q (F0 m 7 ls [])) : ∀ (n : Nat) (l0 : Nat) (l1 : Int32) (l2 : Int32) (l3 : Int32) (l4 : Int32) (l5 : Int32) (l6 : Int32) (l7 : Int32), f_M_pivotOf_b38 S I J k7 n l0 l1 l2 l3 l4 l5 l6 l7 = some zz → ∀ (ls : Array Slot) (H : Heap) (locs : List Loc), lv_has ls 8 [(0, .ref l0), (1, .int l1), (2, .int l2), (3, .int l3), (4, .int l4), (5, .int l5), (6, .int l6), (7, .int l7)] → ga_W D T z L S I J s H locs → W p l e rm_M_pivotOf s m args below meth c H locs 0 0 Q (F0 m 38 ls []) := by
  intro n
  induction n with
  | zero =>
    intro l0 l1 l2 l3 l4 l5 l6 l7 hF ls H locs hl hw
    rw [f_M_pivotOf_b38] at hF
    cases hF
  | succ n ih =>
    intro l0 l1 l2 l3 l4 l5 l6 l7 hF ls H locs hl hw
    have hx := C.1
    have hb := C.2.1
    rw [f_M_pivotOf_b38] at hF
    refine lv_iload hx hb d_M_pivotOf_38 (lv_at hl 7 rfl) ?_
    refine lv_bipush (v := 8) hx hb d_M_pivotOf_40 (by decide) ?_
    by_cases h1 : (8 : Int32) ≤ l7
    · rw [if_pos h1] at hF
      refine lv_icmp_ge (tgt := 95) hx hb d_M_pivotOf_42 (by decide) (fun _ => ?_) (fun hn => absurd h1 hn)
      refine lv_aload_n hx hb d_M_pivotOf_95 rfl (lv_at hl 0 rfl) ?_
      obtain ⟨t2, hF⟩ := gd_ex hF
      obtain ⟨r3, hr3, hF⟩ := ob_ex hF
      refine ga_getR C hw gf_M_90 t2 hr3 d_M_pivotOf_96 ?_
      refine lv_iconst (v := 4) hx hb d_M_pivotOf_99 (by decide) ?_
      refine lv_bipush (v := 8) hx hb d_M_pivotOf_100 (by decide) ?_
      refine lv_iload_n hx hb d_M_pivotOf_102 rfl (lv_at hl 1 rfl) ?_
      refine lv_imul hx hb d_M_pivotOf_103 ?_
      refine lv_iload hx hb d_M_pivotOf_104 (lv_at hl 4 rfl) ?_
      refine lv_iadd hx hb d_M_pivotOf_106 ?_
      refine lv_imul hx hb d_M_pivotOf_107 ?_
      obtain ⟨t4, hF⟩ := gd_ex hF
      obtain ⟨b5, hF⟩ := gd_ex hF
      refine ga_iald C hw t4 b5 d_M_pivotOf_108 ?_
      by_cases h6 : (I r3 ((4 : Int32) * (((8 : Int32) * l1) + l4)).toNatClampNeg) ≤ 0
      · rw [if_pos h6] at hF
        refine lv_if_le (tgt := 129) hx hb d_M_pivotOf_109 (by decide) (fun _ => ?_) (fun hn => absurd h6 hn)
        exact m_M_pivotOf_b129 hret C k7 hk7 _ _ _ _ _ _ hF _ _ _ (lv_sub hl [0, 1, 2, 3, 4, 5] rfl) hw
      · rw [if_neg h6] at hF
        refine lv_if_le (tgt := 129) hx hb d_M_pivotOf_109 (by decide) (fun hp => absurd hp h6) (fun _ => ?_)
        refine lv_iconst (v := 2) hx hb d_M_pivotOf_112 (by decide) ?_
        refine lv_iload hx hb d_M_pivotOf_113 (lv_at hl 6 rfl) ?_
        refine lv_imul hx hb d_M_pivotOf_115 ?_
        refine lv_aload_n hx hb d_M_pivotOf_116 rfl (lv_at hl 0 rfl) ?_
        obtain ⟨r7, hr7, hF⟩ := ob_ex hF
        refine ga_getR C hw gf_M_50 t2 hr7 d_M_pivotOf_117 ?_
        refine lv_iload_n hx hb d_M_pivotOf_120 rfl (lv_at hl 1 rfl) ?_
        obtain ⟨t8, hF⟩ := gd_ex hF
        obtain ⟨b9, hF⟩ := gd_ex hF
        refine ga_iald C hw t8 b9 d_M_pivotOf_121 ?_
        by_cases h10 : ((2 : Int32) * l6) < (I r7 l1.toNatClampNeg)
        · rw [if_pos h10] at hF
          refine lv_icmp_lt (tgt := 129) hx hb d_M_pivotOf_122 (by decide) (fun _ => ?_) (fun hn => absurd h10 hn)
          exact m_M_pivotOf_b129 hret C k7 hk7 _ _ _ _ _ _ hF _ _ _ (lv_sub hl [0, 1, 2, 3, 4, 5] rfl) hw
        · rw [if_neg h10] at hF
          refine lv_icmp_lt (tgt := 129) hx hb d_M_pivotOf_122 (by decide) (fun hp => absurd hp h10) (fun _ => ?_)
          refine lv_iconst (v := 1) hx hb d_M_pivotOf_125 (by decide) ?_
          refine lv_goto (tgt := 130) hx hb d_M_pivotOf_126 (by decide) ?_
          exact m_M_pivotOf_b130 hret C k7 hk7 _ _ _ _ _ _ _ hF _ _ _ (lv_sub hl [0, 1, 2, 3, 4, 5] rfl) hw
    · rw [if_neg h1] at hF
      refine lv_icmp_ge (tgt := 95) hx hb d_M_pivotOf_42 (by decide) (fun hp => absurd hp h1) (fun _ => ?_)
      refine lv_iload hx hb d_M_pivotOf_45 (lv_at hl 6 rfl) ?_
      refine lv_aload_n hx hb d_M_pivotOf_47 rfl (lv_at hl 0 rfl) ?_
      obtain ⟨t11, hF⟩ := gd_ex hF
      obtain ⟨r12, hr12, hF⟩ := ob_ex hF
      refine ga_getR C hw gf_M_90 t11 hr12 d_M_pivotOf_48 ?_
      refine lv_iconst (v := 4) hx hb d_M_pivotOf_51 (by decide) ?_
      refine lv_bipush (v := 8) hx hb d_M_pivotOf_52 (by decide) ?_
      refine lv_iload_n hx hb d_M_pivotOf_54 rfl (lv_at hl 1 rfl) ?_
      refine lv_imul hx hb d_M_pivotOf_55 ?_
      refine lv_iload hx hb d_M_pivotOf_56 (lv_at hl 7 rfl) ?_
      refine lv_iadd hx hb d_M_pivotOf_58 ?_
      refine lv_imul hx hb d_M_pivotOf_59 ?_
      refine lv_iconst (v := 1) hx hb d_M_pivotOf_60 (by decide) ?_
      refine lv_iadd hx hb d_M_pivotOf_61 ?_
      obtain ⟨t13, hF⟩ := gd_ex hF
      obtain ⟨b14, hF⟩ := gd_ex hF
      refine ga_iald C hw t13 b14 d_M_pivotOf_62 ?_
      refine lv_iload hx hb d_M_pivotOf_63 (lv_at hl 5 rfl) ?_
      by_cases h15 : l5 < (I r12 (((4 : Int32) * (((8 : Int32) * l1) + l7)) + (1 : Int32)).toNatClampNeg)
      · rw [if_pos h15] at hF
        refine lv_icmp_gt (tgt := 85) hx hb d_M_pivotOf_65 (by decide) (fun _ => ?_) (fun hn => absurd h15 hn)
        refine lv_iconst (v := 0) hx hb d_M_pivotOf_85 (by decide) ?_
        exact m_M_pivotOf_b86 hret C _ ih _ _ _ _ _ _ _ _ _ hF _ _ _ (lv_sub hl [0, 1, 2, 3, 4, 5, 7] rfl) hw
      · rw [if_neg h15] at hF
        refine lv_icmp_gt (tgt := 85) hx hb d_M_pivotOf_65 (by decide) (fun hp => absurd hp h15) (fun _ => ?_)
        refine lv_aload_n hx hb d_M_pivotOf_68 rfl (lv_at hl 0 rfl) ?_
        refine ga_getR C hw gf_M_90 t11 hr12 d_M_pivotOf_69 ?_
        refine lv_iconst (v := 4) hx hb d_M_pivotOf_72 (by decide) ?_
        refine lv_bipush (v := 8) hx hb d_M_pivotOf_73 (by decide) ?_
        refine lv_iload_n hx hb d_M_pivotOf_75 rfl (lv_at hl 1 rfl) ?_
        refine lv_imul hx hb d_M_pivotOf_76 ?_
        refine lv_iload hx hb d_M_pivotOf_77 (lv_at hl 7 rfl) ?_
        refine lv_iadd hx hb d_M_pivotOf_79 ?_
        refine lv_imul hx hb d_M_pivotOf_80 ?_
        obtain ⟨b16, hF⟩ := gd_ex hF
        refine ga_iald C hw t13 b16 d_M_pivotOf_81 ?_
        refine lv_goto (tgt := 86) hx hb d_M_pivotOf_82 (by decide) ?_
        exact m_M_pivotOf_b86 hret C _ ih _ _ _ _ _ _ _ _ _ hF _ _ _ (lv_sub hl [0, 1, 2, 3, 4, 5, 7] rfl) hw
set_option maxHeartbeats 4000000 in
set_option maxRecDepth 100000 in
theorem m_M_pivotOf_b7 {I : gMI} {J : gMJ} {zz : Int32} (hret : ∀ (pc : Nat) (ls : Array Slot) (H : Heap) (locs : List Loc) (x : Int32), (x) = zz → decode prog_10_method_22_code pc = .ok (.ireturn, 1) → ga_W D T z L S I J s H locs → W p l e rm_M_pivotOf s m args below meth c H locs 0 0 Q (F0 m pc ls [.int x])) (C : CallFix p m c prog_10_method_22_code 8 s args ga_ws "RankHouseModel") : ∀ (n : Nat) (l0 : Nat) (l1 : Int32) (l2 : Int32) (l3 : Int32) (l4 : Int32), f_M_pivotOf_b7 S I J n l0 l1 l2 l3 l4 = some zz → ∀ (ls : Array Slot) (H : Heap) (locs : List Loc), lv_has ls 8 [(0, .ref l0), (1, .int l1), (2, .int l2), (3, .int l3), (4, .int l4)] → ga_W D T z L S I J s H locs → W p l e rm_M_pivotOf s m args below meth c H locs 0 0 Q (F0 m 7 ls []) := by
  intro n
  induction n with
  | zero =>
    intro l0 l1 l2 l3 l4 hF ls H locs hl hw
    rw [f_M_pivotOf_b7] at hF
    cases hF
  | succ n ih =>
    intro l0 l1 l2 l3 l4 hF ls H locs hl hw
    have hx := C.1
    have hb := C.2.1
    rw [f_M_pivotOf_b7] at hF
    refine lv_iload hx hb d_M_pivotOf_7 (lv_at hl 4 rfl) ?_
    refine lv_bipush (v := 8) hx hb d_M_pivotOf_9 (by decide) ?_
    by_cases h1 : (8 : Int32) ≤ l4
    · rw [if_pos h1] at hF
      refine lv_icmp_ge (tgt := 158) hx hb d_M_pivotOf_11 (by decide) (fun _ => ?_) (fun hn => absurd h1 hn)
      refine lv_iload_n hx hb d_M_pivotOf_158 rfl (lv_at hl 2 rfl) ?_
      exact hret _ _ _ _ _ (Option.some.inj hF) d_M_pivotOf_159 hw
    · rw [if_neg h1] at hF
      refine lv_icmp_ge (tgt := 158) hx hb d_M_pivotOf_11 (by decide) (fun hp => absurd hp h1) (fun _ => ?_)
      refine lv_aload_n hx hb d_M_pivotOf_14 rfl (lv_at hl 0 rfl) ?_
      obtain ⟨t2, hF⟩ := gd_ex hF
      obtain ⟨r3, hr3, hF⟩ := ob_ex hF
      refine ga_getR C hw gf_M_90 t2 hr3 d_M_pivotOf_15 ?_
      refine lv_iconst (v := 4) hx hb d_M_pivotOf_18 (by decide) ?_
      refine lv_bipush (v := 8) hx hb d_M_pivotOf_19 (by decide) ?_
      refine lv_iload_n hx hb d_M_pivotOf_21 rfl (lv_at hl 1 rfl) ?_
      refine lv_imul hx hb d_M_pivotOf_22 ?_
      refine lv_iload hx hb d_M_pivotOf_23 (lv_at hl 4 rfl) ?_
      refine lv_iadd hx hb d_M_pivotOf_25 ?_
      refine lv_imul hx hb d_M_pivotOf_26 ?_
      refine lv_iconst (v := 1) hx hb d_M_pivotOf_27 (by decide) ?_
      refine lv_iadd hx hb d_M_pivotOf_28 ?_
      obtain ⟨t4, hF⟩ := gd_ex hF
      obtain ⟨b5, hF⟩ := gd_ex hF
      refine ga_iald C hw t4 b5 d_M_pivotOf_29 ?_
      refine lv_topi (fun v6 ev6 => ?_)
      replace hF := bnd_at hF ev6
      refine lv_istore hx hb d_M_pivotOf_30 hl (by decide) rfl (fun ls hl => ?_)
      have hl : lv_has ls 8 [(5, .int v6), (0, .ref l0), (1, .int l1), (2, .int l2), (3, .int l3), (4, .int l4)] := hl
      refine lv_iconst (v := 0) hx hb d_M_pivotOf_32 (by decide) ?_
      refine lv_istore hx hb d_M_pivotOf_33 hl (by decide) rfl (fun ls hl => ?_)
      have hl : lv_has ls 8 [(6, .int (0 : Int32)), (5, .int v6), (0, .ref l0), (1, .int l1), (2, .int l2), (3, .int l3), (4, .int l4)] := hl
      refine lv_iconst (v := 0) hx hb d_M_pivotOf_35 (by decide) ?_
      refine lv_istore hx hb d_M_pivotOf_36 hl (by decide) rfl (fun ls hl => ?_)
      have hl : lv_has ls 8 [(7, .int (0 : Int32)), (6, .int (0 : Int32)), (5, .int v6), (0, .ref l0), (1, .int l1), (2, .int l2), (3, .int l3), (4, .int l4)] := hl
      exact m_M_pivotOf_b38 hret C _ ih gFuel _ _ _ _ _ _ _ _ hF _ _ _ (lv_sub hl [3, 4, 5, 6, 7, 2, 1, 0] rfl) hw
set_option maxHeartbeats 4000000 in
set_option maxRecDepth 100000 in
theorem c_M_pivotOf (l : Launch) (D : va_G) (T : Nat → ClassId) (z : Nat) (L : List Nat) {S : gS} {I : gMI} {J : gMJ} {p0 : Nat} {p1 : Int32} {r : Int32} (hF : f_M_pivotOf S I J p0 p1 = some (r)) : ga_Mi l y_M_pivotOf prog_10_method_22_code 8 (Option.some Jvm.ClassFile.FieldType.int) rm_M_pivotOf [.ref p0, .int p1] D T z L S I J r I J := by
  refine Met.ofW (cc := prog_10_method_22_code) (maxL := 8) (ret := (Option.some Jvm.ClassFile.FieldType.int)) (by decide) rfl ?_
  intro p e s m args below meth c s₁ B hml hv
  obtain ⟨ha, hv⟩ := hv
  have hx := B.exec
  have hb := B.bytes
  have hr := B.returns
  have hts := atoms_spec (ws := .code y_M_pivotOf prog_10_method_22_code 8 (Option.some Jvm.ClassFile.FieldType.int) :: ga_ws) B.pre
  have hown : s.vm.findClass "RankHouseModel" = some m.cls := findClass_of_methodNamed B.named
  have hlocks := B.notSynchronized
  have C : CallFix p m c prog_10_method_22_code 8 s args ga_ws "RankHouseModel" := ⟨hx, hb, hml, hown, fun w h => hts w (List.mem_cons_of_mem _ h)⟩
  have hw := ga_start hv
  have hl := lv_entry ([.ref p0, .int p1]) (n := 8) (Nat.le_of_ble_eq_true rfl)
  rw [show entryFrame m args 8 = entryFrame m ([.ref p0, .int p1] : List Value).toArray 8 by rw [ha], lg_entry_eq]
  generalize (lg_sl ([.ref p0, .int p1]) ++ List.replicate (8 - (lg_sl ([.ref p0, .int p1])).length) Slot.unset).toArray = ls at hl ⊢
  have hl : lv_has ls 8 [(0, .ref p0), (1, .int p1)] := hl
  have key : ∀ Q : State → Prop, (∀ (pc : Nat) (ls : Array Slot) (H : Heap) (locs : List Loc) (x : Int32), (x) = (r) → decode prog_10_method_22_code pc = .ok (.ireturn, 1) → ga_W D T z L S I J s H locs → W p l e rm_M_pivotOf s m args below meth c H locs 0 0 Q (F0 m pc ls [.int x])) → W p l e rm_M_pivotOf s m args below meth c s.heap [] 0 0 Q (F0 m 0 ls []) := by
    intro Q hret
    rw [f_M_pivotOf] at hF
    refine lv_iconst (v := 0) hx hb d_M_pivotOf_0 (by decide) ?_
    refine lv_istore_n hx hb d_M_pivotOf_1 rfl hl (by decide) rfl (fun ls hl => ?_)
    have hl : lv_has ls 8 [(2, .int (0 : Int32)), (0, .ref p0), (1, .int p1)] := hl
    refine lv_iconst (v := 0) hx hb d_M_pivotOf_2 (by decide) ?_
    refine lv_istore_n hx hb d_M_pivotOf_3 rfl hl (by decide) rfl (fun ls hl => ?_)
    have hl : lv_has ls 8 [(3, .int (0 : Int32)), (2, .int (0 : Int32)), (0, .ref p0), (1, .int p1)] := hl
    refine lv_iconst (v := 0) hx hb d_M_pivotOf_4 (by decide) ?_
    refine lv_istore hx hb d_M_pivotOf_5 hl (by decide) rfl (fun ls hl => ?_)
    have hl : lv_has ls 8 [(4, .int (0 : Int32)), (3, .int (0 : Int32)), (2, .int (0 : Int32)), (0, .ref p0), (1, .int p1)] := hl
    exact m_M_pivotOf_b7 hret C gFuel _ _ _ _ _ hF _ _ _ (lv_sub hl [3, 4, 2, 1, 0] rfl) hw
  refine key _ (fun pc ls H locs x he hd hw => ?_)
  · cases he
    exact W.iret hx hb hr (fun t ht _ => ⟨⟨_, (), rfl, rfl, ga_o hw ht⟩, hw.2.2.2.1.F ht⟩) hw.2.2.2.1.2.2 hd
set_option maxHeartbeats 4000000 in
set_option maxRecDepth 100000 in
theorem m_M_afterSplit_b50 {zz : gMI × gMJ} (hret : ∀ (pc : Nat) (ls : Array Slot) (H : Heap) (locs : List Loc) (I1 : gMI) (J1 : gMJ), (I1, J1) = zz → decode prog_10_method_23_code pc = .ok (.return_, 1) → ga_W D T z L S I1 J1 s H locs → W p l e rm_M_afterSplit s m args below meth c H locs 0 0 Q (F0 m pc ls [])) (C : CallFix p m c prog_10_method_23_code 2 s args ga_ws "RankHouseModel") : ∀ (I : gMI) (J : gMJ), f_M_afterSplit_b50 S I J = some zz → ∀ (ls : Array Slot) (H : Heap) (locs : List Loc), lv_has ls 2 [] → ga_W D T z L S I J s H locs → W p l e rm_M_afterSplit s m args below meth c H locs 0 0 Q (F0 m 50 ls []) := by
  intro I J hF ls H locs hl hw
  have hx := C.1
  have hb := C.2.1
  rw [f_M_afterSplit_b50] at hF
  exact hret _ _ _ _ _ _ (Option.some.inj hF) d_M_afterSplit_50 hw
set_option maxHeartbeats 4000000 in
set_option maxRecDepth 100000 in
theorem c_M_afterSplit (l : Launch) (D : va_G) (T : Nat → ClassId) (z : Nat) (L : List Nat) {S : gS} {I : gMI} {J : gMJ} {p0 : Nat} {p1 : Int32} {RI : gMI} {RJ : gMJ} (hF : f_M_afterSplit S I J p0 p1 = some (RI, RJ)) : ga_Mv l y_M_afterSplit prog_10_method_23_code 2 (Option.none : Option Jvm.ClassFile.FieldType) rm_M_afterSplit [.ref p0, .int p1] D T z L S I J RI RJ := by
  refine Met.ofW (cc := prog_10_method_23_code) (maxL := 2) (ret := (Option.none : Option Jvm.ClassFile.FieldType)) (by decide) rfl ?_
  intro p e s m args below meth c s₁ B hml hv
  obtain ⟨ha, hv⟩ := hv
  have hx := B.exec
  have hb := B.bytes
  have hr := B.returns
  have hts := atoms_spec (ws := .code y_M_afterSplit prog_10_method_23_code 2 (Option.none : Option Jvm.ClassFile.FieldType) :: ga_ws) B.pre
  have hown : s.vm.findClass "RankHouseModel" = some m.cls := findClass_of_methodNamed B.named
  have hlocks := B.notSynchronized
  have C : CallFix p m c prog_10_method_23_code 2 s args ga_ws "RankHouseModel" := ⟨hx, hb, hml, hown, fun w h => hts w (List.mem_cons_of_mem _ h)⟩
  have hw := ga_start hv
  have hl := lv_entry ([.ref p0, .int p1]) (n := 2) (Nat.le_of_ble_eq_true rfl)
  rw [show entryFrame m args 2 = entryFrame m ([.ref p0, .int p1] : List Value).toArray 2 by rw [ha], lg_entry_eq]
  generalize (lg_sl ([.ref p0, .int p1]) ++ List.replicate (2 - (lg_sl ([.ref p0, .int p1])).length) Slot.unset).toArray = ls at hl ⊢
  have hl : lv_has ls 2 [(0, .ref p0), (1, .int p1)] := hl
  have key : ∀ Q : State → Prop, (∀ (pc : Nat) (ls : Array Slot) (H : Heap) (locs : List Loc) (I1 : gMI) (J1 : gMJ), (I1, J1) = (RI, RJ) → decode prog_10_method_23_code pc = .ok (.return_, 1) → ga_W D T z L S I1 J1 s H locs → W p l e rm_M_afterSplit s m args below meth c H locs 0 0 Q (F0 m pc ls [])) → W p l e rm_M_afterSplit s m args below meth c s.heap [] 0 0 Q (F0 m 0 ls []) := by
    intro Q hret
    rw [f_M_afterSplit] at hF
    refine lv_aload_n hx hb d_M_afterSplit_0 rfl (lv_at hl 0 rfl) ?_
    obtain ⟨t1, hF⟩ := gd_ex hF
    obtain ⟨r2, hr2, hF⟩ := ob_ex hF
    refine ga_getR C hw gf_M_50 t1 hr2 d_M_afterSplit_1 ?_
    refine lv_iload_n hx hb d_M_afterSplit_4 rfl (lv_at hl 1 rfl) ?_
    refine lv_aload_n hx hb d_M_afterSplit_5 rfl (lv_at hl 0 rfl) ?_
    refine lv_iload_n hx hb d_M_afterSplit_6 rfl (lv_at hl 1 rfl) ?_
    refine lv_iconst (v := 0) hx hb d_M_afterSplit_7 (by decide) ?_
    obtain ⟨x3, c4, hF⟩ := ob_ex hF
    refine ga_cVi (As := [.int p1, .int (0 : Int32)]) C hw (c_M_total l D T z L c4) gy_M_172 t1 rfl hl.1 ⟨Nat.le_of_ble_eq_true rfl, Nat.le_of_ble_eq_true rfl, rfl, rfl, Nat.le_of_ble_eq_true rfl, Nat.le_of_ble_eq_true rfl⟩ (Nat.le_of_ble_eq_true rfl) rfl d_M_afterSplit_8 (fun H locs hw => ?_)
    obtain ⟨t5, hF⟩ := gd_ex hF
    obtain ⟨b6, hF⟩ := gd_ex hF
    obtain ⟨I7, eI7, hF⟩ := bnd_ex hF
    refine ga_iast C hw t5 b6 eI7 d_M_afterSplit_11 (fun H locs hw => ?_)
    refine lv_aload_n hx hb d_M_afterSplit_12 rfl (lv_at hl 0 rfl) ?_
    refine ga_getR C hw gf_M_50 t1 hr2 d_M_afterSplit_13 ?_
    refine lv_iload_n hx hb d_M_afterSplit_16 rfl (lv_at hl 1 rfl) ?_
    refine ga_iald C hw t5 b6 d_M_afterSplit_17 ?_
    refine lv_bipush (v := 64) hx hb d_M_afterSplit_18 (by decide) ?_
    by_cases h8 : (64 : Int32) < (I7 r2 p1.toNatClampNeg)
    · rw [if_pos h8] at hF
      refine lv_icmp_gt (tgt := 33) hx hb d_M_afterSplit_20 (by decide) (fun _ => ?_) (fun hn => absurd h8 hn)
      refine lv_aload_n hx hb d_M_afterSplit_33 rfl (lv_at hl 0 rfl) ?_
      obtain ⟨r9, hr9, hF⟩ := ob_ex hF
      refine ga_getR C hw gf_M_74 t1 hr9 d_M_afterSplit_34 ?_
      refine lv_iload_n hx hb d_M_afterSplit_37 rfl (lv_at hl 1 rfl) ?_
      refine lv_aload_n hx hb d_M_afterSplit_38 rfl (lv_at hl 0 rfl) ?_
      refine lv_iload_n hx hb d_M_afterSplit_39 rfl (lv_at hl 1 rfl) ?_
      obtain ⟨x10, c11, hF⟩ := ob_ex hF
      refine ga_cVi (As := [.int p1]) C hw (c_M_pivotOf l D T z L c11) gy_M_180 t1 rfl hl.1 ⟨Nat.le_of_ble_eq_true rfl, Nat.le_of_ble_eq_true rfl, rfl, rfl, Nat.le_of_ble_eq_true rfl, Nat.le_of_ble_eq_true rfl⟩ (Nat.le_of_ble_eq_true rfl) rfl d_M_afterSplit_40 (fun H locs hw => ?_)
      obtain ⟨t12, hF⟩ := gd_ex hF
      obtain ⟨b13, hF⟩ := gd_ex hF
      obtain ⟨I14, eI14, hF⟩ := bnd_ex hF
      refine ga_iast C hw t12 b13 eI14 d_M_afterSplit_43 (fun H locs hw => ?_)
      refine lv_aload_n hx hb d_M_afterSplit_44 rfl (lv_at hl 0 rfl) ?_
      refine lv_iload_n hx hb d_M_afterSplit_45 rfl (lv_at hl 1 rfl) ?_
      refine lv_iconst (v := 5) hx hb d_M_afterSplit_46 (by decide) ?_
      obtain ⟨I15, J16, c17, hF⟩ := bd2_ex hF
      refine ga_cVv (As := [.int p1, .int (5 : Int32)]) C hw (c_M_askAll l D T z L c17) gy_M_168 t1 rfl hl.1 ⟨Nat.le_of_ble_eq_true rfl, Nat.le_of_ble_eq_true rfl, rfl, rfl, Nat.le_of_ble_eq_true rfl, Nat.le_of_ble_eq_true rfl⟩ (Nat.le_of_ble_eq_true rfl) rfl d_M_afterSplit_47 (fun H locs hw => ?_)
      exact m_M_afterSplit_b50 hret C _ _ hF _ _ _ (lv_sub hl [] rfl) hw
    · rw [if_neg h8] at hF
      refine lv_icmp_gt (tgt := 33) hx hb d_M_afterSplit_20 (by decide) (fun hp => absurd hp h8) (fun _ => ?_)
      refine lv_aload_n hx hb d_M_afterSplit_23 rfl (lv_at hl 0 rfl) ?_
      refine lv_iload_n hx hb d_M_afterSplit_24 rfl (lv_at hl 1 rfl) ?_
      refine lv_bipush (v := 7) hx hb d_M_afterSplit_25 (by decide) ?_
      obtain ⟨I18, J19, c20, hF⟩ := bd2_ex hF
      refine ga_cVv (As := [.int p1, .int (7 : Int32)]) C hw (c_M_askAll l D T z L c20) gy_M_168 t1 rfl hl.1 ⟨Nat.le_of_ble_eq_true rfl, Nat.le_of_ble_eq_true rfl, rfl, rfl, Nat.le_of_ble_eq_true rfl, Nat.le_of_ble_eq_true rfl⟩ (Nat.le_of_ble_eq_true rfl) rfl d_M_afterSplit_27 (fun H locs hw => ?_)
      refine lv_goto (tgt := 50) hx hb d_M_afterSplit_30 (by decide) ?_
      exact m_M_afterSplit_b50 hret C _ _ hF _ _ _ (lv_sub hl [] rfl) hw
  refine key _ (fun pc ls H locs I1 J1 he hd hw => ?_)
  · cases he
    exact W.vret hx hb hr (fun t ht _ => ⟨⟨(), rfl, trivial, ga_o hw ht⟩, hw.2.2.2.1.F ht⟩) hw.2.2.2.1.2.2 hd
set_option maxHeartbeats 4000000 in
set_option maxRecDepth 100000 in
theorem m_M_isFound_b143 {zz : gMI × gMJ} (hret : ∀ (pc : Nat) (ls : Array Slot) (H : Heap) (locs : List Loc) (I1 : gMI) (J1 : gMJ), (I1, J1) = zz → decode prog_10_method_27_code pc = .ok (.return_, 1) → ga_W D T z L S I1 J1 s H locs → W p l e rm_M_isFound s m args below meth c H locs 0 0 Q (F0 m pc ls [])) (C : CallFix p m c prog_10_method_27_code 3 s args ga_ws "RankHouseModel") : ∀ (I : gMI) (J : gMJ), f_M_isFound_b143 S I J = some zz → ∀ (ls : Array Slot) (H : Heap) (locs : List Loc), lv_has ls 3 [] → ga_W D T z L S I J s H locs → W p l e rm_M_isFound s m args below meth c H locs 0 0 Q (F0 m 143 ls []) := by
  intro I J hF ls H locs hl hw
  have hx := C.1
  have hb := C.2.1
  rw [f_M_isFound_b143] at hF
  exact hret _ _ _ _ _ _ (Option.some.inj hF) d_M_isFound_143 hw
set_option maxHeartbeats 4000000 in
set_option maxRecDepth 100000 in
theorem m_M_isFound_b26 {zz : gMI × gMJ} (hret : ∀ (pc : Nat) (ls : Array Slot) (H : Heap) (locs : List Loc) (I1 : gMI) (J1 : gMJ), (I1, J1) = zz → decode prog_10_method_27_code pc = .ok (.return_, 1) → ga_W D T z L S I1 J1 s H locs → W p l e rm_M_isFound s m args below meth c H locs 0 0 Q (F0 m pc ls [])) (C : CallFix p m c prog_10_method_27_code 3 s args ga_ws "RankHouseModel") : ∀ (I : gMI) (J : gMJ) (l0 : Nat) (l1 : Int32) (l2 : Int32), f_M_isFound_b26 S I J l0 l1 l2 = some zz → ∀ (ls : Array Slot) (H : Heap) (locs : List Loc), lv_has ls 3 [(0, .ref l0), (1, .int l1), (2, .int l2)] → ga_W D T z L S I J s H locs → W p l e rm_M_isFound s m args below meth c H locs 0 0 Q (F0 m 26 ls []) := by
  intro I J l0 l1 l2 hF ls H locs hl hw
  have hx := C.1
  have hb := C.2.1
  rw [f_M_isFound_b26] at hF
  refine lv_aload_n hx hb d_M_isFound_26 rfl (lv_at hl 0 rfl) ?_
  obtain ⟨t1, hF⟩ := gd_ex hF
  obtain ⟨r2, hr2, hF⟩ := ob_ex hF
  refine ga_getR C hw gf_M_23 t1 hr2 d_M_isFound_27 ?_
  refine lv_iload_n hx hb d_M_isFound_30 rfl (lv_at hl 1 rfl) ?_
  obtain ⟨t3, hF⟩ := gd_ex hF
  obtain ⟨b4, hF⟩ := gd_ex hF
  refine ga_iald C hw t3 b4 d_M_isFound_31 ?_
  by_cases h5 : (I r2 l1.toNatClampNeg) = 0
  · rw [if_pos h5] at hF
    refine lv_if_ne (tgt := 45) hx hb d_M_isFound_32 (by decide) (fun hn => absurd h5 hn) (fun _ => ?_)
    refine lv_aload_n hx hb d_M_isFound_35 rfl (lv_at hl 0 rfl) ?_
    refine lv_iload_n hx hb d_M_isFound_36 rfl (lv_at hl 1 rfl) ?_
    refine lv_iload_n hx hb d_M_isFound_37 rfl (lv_at hl 2 rfl) ?_
    refine lv_i2l hx hb d_M_isFound_38 rfl ?_
    obtain ⟨I40, J41, c42, hF⟩ := bd2_ex hF
    refine ga_cVv (As := [.int l1, .long l2.toInt64]) C hw (c_M_answered l D T z L c42) gy_M_190 t1 rfl hl.1 ⟨Nat.le_of_ble_eq_true rfl, Nat.le_of_ble_eq_true rfl, rfl, rfl, Nat.le_of_ble_eq_true rfl, Nat.le_of_ble_eq_true rfl⟩ (Nat.le_of_ble_eq_true rfl) rfl d_M_isFound_39 (fun H locs hw => ?_)
    refine lv_goto (tgt := 143) hx hb d_M_isFound_42 (by decide) ?_
    exact m_M_isFound_b143 hret C _ _ hF _ _ _ (lv_sub hl [] rfl) hw
  · rw [if_neg h5] at hF
    refine lv_if_ne (tgt := 45) hx hb d_M_isFound_32 (by decide) (fun _ => ?_) (fun hp => absurd hp h5)
    refine lv_aload_n hx hb d_M_isFound_45 rfl (lv_at hl 0 rfl) ?_
    obtain ⟨r6, hr6, hF⟩ := ob_ex hF
    refine ga_getR C hw gf_M_71 t1 hr6 d_M_isFound_46 ?_
    refine lv_iload_n hx hb d_M_isFound_49 rfl (lv_at hl 1 rfl) ?_
    obtain ⟨t7, hF⟩ := gd_ex hF
    obtain ⟨b8, hF⟩ := gd_ex hF
    refine ga_zald C hw t7 b8 d_M_isFound_50 ?_
    by_cases h9 : (I r6 l1.toNatClampNeg) = 0
    · rw [if_pos h9] at hF
      refine lv_if_ne (tgt := 63) hx hb d_M_isFound_51 (by decide) (fun hn => absurd h9 hn) (fun _ => ?_)
      refine lv_aload_n hx hb d_M_isFound_54 rfl (lv_at hl 0 rfl) ?_
      refine lv_iload_n hx hb d_M_isFound_55 rfl (lv_at hl 1 rfl) ?_
      refine lv_iconst (v := 1) hx hb d_M_isFound_56 (by decide) ?_
      obtain ⟨I37, J38, c39, hF⟩ := bd2_ex hF
      refine ga_cVv (As := [.int l1, .int (1 : Int32)]) C hw (c_M_search l D T z L c39) gy_M_176 t1 rfl hl.1 ⟨Nat.le_of_ble_eq_true rfl, Nat.le_of_ble_eq_true rfl, rfl, rfl, Nat.le_of_ble_eq_true rfl, Nat.le_of_ble_eq_true rfl⟩ (Nat.le_of_ble_eq_true rfl) rfl d_M_isFound_57 (fun H locs hw => ?_)
      refine lv_goto (tgt := 143) hx hb d_M_isFound_60 (by decide) ?_
      exact m_M_isFound_b143 hret C _ _ hF _ _ _ (lv_sub hl [] rfl) hw
    · rw [if_neg h9] at hF
      refine lv_if_ne (tgt := 63) hx hb d_M_isFound_51 (by decide) (fun _ => ?_) (fun hp => absurd hp h9)
      refine lv_aload_n hx hb d_M_isFound_63 rfl (lv_at hl 0 rfl) ?_
      refine ga_getR C hw gf_M_23 t1 hr2 d_M_isFound_64 ?_
      refine lv_iload_n hx hb d_M_isFound_67 rfl (lv_at hl 1 rfl) ?_
      refine ga_iald C hw t3 b4 d_M_isFound_68 ?_
      refine lv_iconst (v := 4) hx hb d_M_isFound_69 (by decide) ?_
      by_cases h10 : (I r2 l1.toNatClampNeg) = (4 : Int32)
      · rw [if_pos h10] at hF
        refine lv_icmp_ne (tgt := 96) hx hb d_M_isFound_70 (by decide) (fun hn => absurd h10 hn) (fun _ => ?_)
        refine lv_aload_n hx hb d_M_isFound_73 rfl (lv_at hl 0 rfl) ?_
        refine lv_iload_n hx hb d_M_isFound_74 rfl (lv_at hl 1 rfl) ?_
        refine lv_aload_n hx hb d_M_isFound_75 rfl (lv_at hl 0 rfl) ?_
        obtain ⟨r28, hr28, hF⟩ := ob_ex hF
        refine ga_getR C hw gf_M_80 t1 hr28 d_M_isFound_76 ?_
        refine lv_iload_n hx hb d_M_isFound_79 rfl (lv_at hl 1 rfl) ?_
        obtain ⟨t29, hF⟩ := gd_ex hF
        obtain ⟨b30, hF⟩ := gd_ex hF
        refine ga_iald C hw t29 b30 d_M_isFound_80 ?_
        refine lv_i2l hx hb d_M_isFound_81 rfl ?_
        refine lv_aload_n hx hb d_M_isFound_82 rfl (lv_at hl 0 rfl) ?_
        obtain ⟨r31, hr31, hF⟩ := ob_ex hF
        refine ga_getR C hw gf_M_77 t1 hr31 d_M_isFound_83 ?_
        refine lv_iload_n hx hb d_M_isFound_86 rfl (lv_at hl 1 rfl) ?_
        obtain ⟨t32, hF⟩ := gd_ex hF
        obtain ⟨b33, hF⟩ := gd_ex hF
        refine ga_iald C hw t32 b33 d_M_isFound_87 ?_
        refine lv_i2l hx hb d_M_isFound_88 rfl ?_
        refine lv_lsub hx hb d_M_isFound_89 ?_
        obtain ⟨I34, J35, c36, hF⟩ := bd2_ex hF
        refine ga_cVv (As := [.int l1, .long ((I r28 l1.toNatClampNeg).toInt64 - (I r31 l1.toNatClampNeg).toInt64)]) C hw (c_M_answered l D T z L c36) gy_M_190 t1 rfl hl.1 ⟨Nat.le_of_ble_eq_true rfl, Nat.le_of_ble_eq_true rfl, rfl, rfl, Nat.le_of_ble_eq_true rfl, Nat.le_of_ble_eq_true rfl⟩ (Nat.le_of_ble_eq_true rfl) rfl d_M_isFound_90 (fun H locs hw => ?_)
        refine lv_goto (tgt := 143) hx hb d_M_isFound_93 (by decide) ?_
        exact m_M_isFound_b143 hret C _ _ hF _ _ _ (lv_sub hl [] rfl) hw
      · rw [if_neg h10] at hF
        refine lv_icmp_ne (tgt := 96) hx hb d_M_isFound_70 (by decide) (fun _ => ?_) (fun hp => absurd hp h10)
        refine lv_aload_n hx hb d_M_isFound_96 rfl (lv_at hl 0 rfl) ?_
        obtain ⟨r11, hr11, hF⟩ := ob_ex hF
        refine ga_getR C hw gf_M_77 t1 hr11 d_M_isFound_97 ?_
        refine lv_iload_n hx hb d_M_isFound_100 rfl (lv_at hl 1 rfl) ?_
        obtain ⟨t12, hF⟩ := gd_ex hF
        obtain ⟨b13, hF⟩ := gd_ex hF
        refine ga_iald C hw t12 b13 d_M_isFound_101 ?_
        refine lv_aload_n hx hb d_M_isFound_102 rfl (lv_at hl 0 rfl) ?_
        obtain ⟨r14, hr14, hF⟩ := ob_ex hF
        refine ga_getR C hw gf_M_80 t1 hr14 d_M_isFound_103 ?_
        refine lv_iload_n hx hb d_M_isFound_106 rfl (lv_at hl 1 rfl) ?_
        obtain ⟨t15, hF⟩ := gd_ex hF
        obtain ⟨b16, hF⟩ := gd_ex hF
        refine ga_iald C hw t15 b16 d_M_isFound_107 ?_
        by_cases h17 : (I r11 l1.toNatClampNeg) = (I r14 l1.toNatClampNeg)
        · rw [if_pos h17] at hF
          refine lv_icmp_ne (tgt := 136) hx hb d_M_isFound_108 (by decide) (fun hn => absurd h17 hn) (fun _ => ?_)
          refine lv_aload_n hx hb d_M_isFound_111 rfl (lv_at hl 0 rfl) ?_
          refine lv_iload_n hx hb d_M_isFound_112 rfl (lv_at hl 1 rfl) ?_
          refine lv_iload_n hx hb d_M_isFound_113 rfl (lv_at hl 2 rfl) ?_
          refine lv_i2l hx hb d_M_isFound_114 rfl ?_
          refine lv_aload_n hx hb d_M_isFound_115 rfl (lv_at hl 0 rfl) ?_
          refine lv_iload_n hx hb d_M_isFound_116 rfl (lv_at hl 1 rfl) ?_
          obtain ⟨x21, c22, hF⟩ := ob_ex hF
          refine ga_cVi (As := [.int l1]) C hw (c_M_lastRank l D T z L c22) gy_M_160 t1 rfl hl.1 ⟨Nat.le_of_ble_eq_true rfl, Nat.le_of_ble_eq_true rfl, rfl, rfl, Nat.le_of_ble_eq_true rfl, Nat.le_of_ble_eq_true rfl⟩ (Nat.le_of_ble_eq_true rfl) rfl d_M_isFound_117 (fun H locs hw => ?_)
          refine lv_aload_n hx hb d_M_isFound_120 rfl (lv_at hl 0 rfl) ?_
          refine lv_iload_n hx hb d_M_isFound_121 rfl (lv_at hl 1 rfl) ?_
          obtain ⟨x23, c24, hF⟩ := ob_ex hF
          refine ga_cVi (As := [.int l1]) C hw (c_M_firstRank l D T z L c24) gy_M_164 t1 rfl hl.1 ⟨Nat.le_of_ble_eq_true rfl, Nat.le_of_ble_eq_true rfl, rfl, rfl, Nat.le_of_ble_eq_true rfl, Nat.le_of_ble_eq_true rfl⟩ (Nat.le_of_ble_eq_true rfl) rfl d_M_isFound_122 (fun H locs hw => ?_)
          refine lv_isub hx hb d_M_isFound_125 ?_
          refine lv_iconst (v := 1) hx hb d_M_isFound_126 (by decide) ?_
          refine lv_iadd hx hb d_M_isFound_127 ?_
          refine lv_i2l hx hb d_M_isFound_128 rfl ?_
          refine lv_lmul hx hb d_M_isFound_129 ?_
          obtain ⟨I25, J26, c27, hF⟩ := bd2_ex hF
          refine ga_cVv (As := [.int l1, .long (l2.toInt64 * ((x21 - x23) + (1 : Int32)).toInt64)]) C hw (c_M_answered l D T z L c27) gy_M_190 t1 rfl hl.1 ⟨Nat.le_of_ble_eq_true rfl, Nat.le_of_ble_eq_true rfl, rfl, rfl, Nat.le_of_ble_eq_true rfl, Nat.le_of_ble_eq_true rfl⟩ (Nat.le_of_ble_eq_true rfl) rfl d_M_isFound_130 (fun H locs hw => ?_)
          refine lv_goto (tgt := 143) hx hb d_M_isFound_133 (by decide) ?_
          exact m_M_isFound_b143 hret C _ _ hF _ _ _ (lv_sub hl [] rfl) hw
        · rw [if_neg h17] at hF
          refine lv_icmp_ne (tgt := 136) hx hb d_M_isFound_108 (by decide) (fun _ => ?_) (fun hp => absurd hp h17)
          refine lv_aload_n hx hb d_M_isFound_136 rfl (lv_at hl 0 rfl) ?_
          refine lv_iload_n hx hb d_M_isFound_137 rfl (lv_at hl 1 rfl) ?_
          refine lv_bipush (v := 11) hx hb d_M_isFound_138 (by decide) ?_
          obtain ⟨I18, J19, c20, hF⟩ := bd2_ex hF
          refine ga_cVv (As := [.int l1, .int (11 : Int32)]) C hw (c_M_askAll l D T z L c20) gy_M_168 t1 rfl hl.1 ⟨Nat.le_of_ble_eq_true rfl, Nat.le_of_ble_eq_true rfl, rfl, rfl, Nat.le_of_ble_eq_true rfl, Nat.le_of_ble_eq_true rfl⟩ (Nat.le_of_ble_eq_true rfl) rfl d_M_isFound_140 (fun H locs hw => ?_)
          exact m_M_isFound_b143 hret C _ _ hF _ _ _ (lv_sub hl [] rfl) hw
end WALK
