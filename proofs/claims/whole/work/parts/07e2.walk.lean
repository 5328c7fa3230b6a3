section WALK
variable {p : Program} {l : Launch} {e : Env} {s : State} {m : MethodId} {args : Array Value} {below : List Frame} {meth : Method} {c : Code} {Q : State → Prop} {D : va_G} {T : Nat → ClassId} {z : Nat} {L : List Nat} {S : gS}
set_option maxHeartbeats 4000000 in
set_option maxRecDepth 100000 in
theorem m_H_run_b11 {zz : Nat × Int32 × gMI × gMJ} (hl9 : l.stackTraces = false) (hret : ∀ (pc cells slots : Nat) (ls : Array Slot) (H : Heap) (locs : List Loc) (x : Int32) (I1 : gMI) (J1 : gMJ), (0, x, I1, J1) = zz → decode prog_1_method_11_code pc = .ok (.ireturn, 1) → cells ≤ rm_H_run.cells → slots ≤ rm_H_run.slots → ga_W D T z L S I1 J1 s H locs → W p l e rm_H_run s m args below meth c H locs cells slots Q (F0 m pc ls [.int x])) (hnew : ∀ (pc ey cells slots : Nat) (ls : Array Slot) (rest : List Value) (H : Heap) (locs : List Loc) (I1 : gMI) (J1 : gMJ), (ey, 0, I1, J1) = zz → ga_TH "RankHouse" prog_1_method_11_code pc ey → ls.size = 3 → (rest.map fun v => v.category).sum ≤ 8 → cells + 1 ≤ rm_H_run.cells → slots + 6 ≤ rm_H_run.slots → ga_W D T z L S I1 J1 s H locs → W p l e rm_H_run s m args below meth c H locs cells slots Q (F0 m pc ls rest)) (C : CallFix p m c prog_1_method_11_code 3 s args ga_ws "RankHouse") : ∀ (I : gMI) (J : gMJ), f_H_run_b11 S I J = some zz → ∀ (ls : Array Slot) (H : Heap) (locs : List Loc), lv_has ls 3 [] → ga_W D T z L S I J s H locs → W p l e rm_H_run s m args below meth c H locs 0 0 Q (F0 m 11 ls []) := by
  intro I J hF ls H locs hl hw
  have hx := C.1
  have hb := C.2.1
  rw [f_H_run_b11] at hF
  exact hnew _ _ _ _ _ _ _ _ _ _ (Option.some.inj hF) gt_H_run_11 hl.1 (Nat.le_of_ble_eq_true rfl) (Nat.le_of_ble_eq_true rfl) (Nat.le_of_ble_eq_true rfl) hw
set_option maxHeartbeats 4000000 in
set_option maxRecDepth 100000 in
theorem m_H_run_b56 {zz : Nat × Int32 × gMI × gMJ} (hl9 : l.stackTraces = false) (hret : ∀ (pc cells slots : Nat) (ls : Array Slot) (H : Heap) (locs : List Loc) (x : Int32) (I1 : gMI) (J1 : gMJ), (0, x, I1, J1) = zz → decode prog_1_method_11_code pc = .ok (.ireturn, 1) → cells ≤ rm_H_run.cells → slots ≤ rm_H_run.slots → ga_W D T z L S I1 J1 s H locs → W p l e rm_H_run s m args below meth c H locs cells slots Q (F0 m pc ls [.int x])) (hnew : ∀ (pc ey cells slots : Nat) (ls : Array Slot) (rest : List Value) (H : Heap) (locs : List Loc) (I1 : gMI) (J1 : gMJ), (ey, 0, I1, J1) = zz → ga_TH "RankHouse" prog_1_method_11_code pc ey → ls.size = 3 → (rest.map fun v => v.category).sum ≤ 8 → cells + 1 ≤ rm_H_run.cells → slots + 6 ≤ rm_H_run.slots → ga_W D T z L S I1 J1 s H locs → W p l e rm_H_run s m args below meth c H locs cells slots Q (F0 m pc ls rest)) (C : CallFix p m c prog_1_method_11_code 3 s args ga_ws "RankHouse") : ∀ (I : gMI) (J : gMJ) (l2 : Int32), f_H_run_b56 S I J l2 = some zz → ∀ (ls : Array Slot) (H : Heap) (locs : List Loc), lv_has ls 3 [(2, .int l2)] → ga_W D T z L S I J s H locs → W p l e rm_H_run s m args below meth c H locs 0 0 Q (F0 m 56 ls []) := by
  intro I J l2 hF ls H locs hl hw
  have hx := C.1
  have hb := C.2.1
  rw [f_H_run_b56] at hF
  refine lv_iload_n hx hb d_H_run_56 rfl (lv_at hl 0 rfl) ?_
  exact hret _ _ _ _ _ _ _ _ _ (Option.some.inj hF) d_H_run_57 (Nat.le_of_ble_eq_true rfl) (Nat.le_of_ble_eq_true rfl) hw
set_option maxHeartbeats 4000000 in
set_option maxRecDepth 100000 in
theorem m_H_run_b23 {zz : Nat × Int32 × gMI × gMJ} (hl9 : l.stackTraces = false) (hret : ∀ (pc cells slots : Nat) (ls : Array Slot) (H : Heap) (locs : List Loc) (x : Int32) (I1 : gMI) (J1 : gMJ), (0, x, I1, J1) = zz → decode prog_1_method_11_code pc = .ok (.ireturn, 1) → cells ≤ rm_H_run.cells → slots ≤ rm_H_run.slots → ga_W D T z L S I1 J1 s H locs → W p l e rm_H_run s m args below meth c H locs cells slots Q (F0 m pc ls [.int x])) (hnew : ∀ (pc ey cells slots : Nat) (ls : Array Slot) (rest : List Value) (H : Heap) (locs : List Loc) (I1 : gMI) (J1 : gMJ), (ey, 0, I1, J1) = zz → ga_TH "RankHouse" prog_1_method_11_code pc ey → ls.size = 3 → (rest.map fun v => v.category).sum ≤ 8 → cells + 1 ≤ rm_H_run.cells → slots + 6 ≤ rm_H_run.slots → ga_W D T z L S I1 J1 s H locs → W p l e rm_H_run s m args below meth c H locs cells slots Q (F0 m pc ls rest)) (C : CallFix p m c prog_1_method_11_code 3 s args ga_ws "RankHouse") : ∀ (n : Nat) (I : gMI) (J : gMJ) (l0 : Nat) (l1 : Int32) (l2 : Int32), f_H_run_b23 S n I J l0 l1 l2 = some zz → ∀ (ls : Array Slot) (H : Heap) (locs : List Loc), lv_has ls 3 [(0, .ref l0), (1, .int l1), (2, .int l2)] → ga_W D T z L S I J s H locs → W p l e rm_H_run s m args below meth c H locs 0 0 Q (F0 m 23 ls []) := by
  intro n
  induction n with
  | zero =>
    intro I J l0 l1 l2 hF ls H locs hl hw
    rw [f_H_run_b23] at hF
    cases hF
  | succ n ih =>
    intro I J l0 l1 l2 hF ls H locs hl hw
    have hx := C.1
    have hb := C.2.1
    rw [f_H_run_b23] at hF
    refine lv_iload_n hx hb d_H_run_23 rfl (lv_at hl 2 rfl) ?_
    refine lv_iload_n hx hb d_H_run_24 rfl (lv_at hl 1 rfl) ?_
    by_cases h1 : l1 ≤ l2
    · rw [if_pos h1] at hF
      refine lv_icmp_ge (tgt := 56) hx hb d_H_run_25 (by decide) (fun _ => ?_) (fun hn => absurd h1 hn)
      refine W.widen (k := 0) (n := 0) (Nat.le_of_ble_eq_true rfl) (Nat.le_of_ble_eq_true rfl) ?_
      exact m_H_run_b56 hl9 hret hnew C _ _ _ hF _ _ _ (lv_sub hl [2] rfl) hw
    · rw [if_neg h1] at hF
      refine lv_icmp_ge (tgt := 56) hx hb d_H_run_25 (by decide) (fun hp => absurd hp h1) (fun _ => ?_)
      refine lv_aload_n hx hb d_H_run_28 rfl (lv_at hl 0 rfl) ?_
      obtain ⟨t2, hF⟩ := gd_ex hF
      obtain ⟨r3, hr3, hF⟩ := ob_ex hF
      refine ga_getR C hw gf_H_25 t2 hr3 d_H_run_29 ?_
      obtain ⟨t4, hF⟩ := gd_ex hF
      refine ga_getI C hw gf_H_87 t4 d_H_run_32 ?_
      by_cases h5 : (I r3 2) ≤ 0
      · rw [if_pos h5] at hF
        refine lv_if_le (tgt := 56) hx hb d_H_run_35 (by decide) (fun _ => ?_) (fun hn => absurd h5 hn)
        refine W.widen (k := 0) (n := 0) (Nat.le_of_ble_eq_true rfl) (Nat.le_of_ble_eq_true rfl) ?_
        exact m_H_run_b56 hl9 hret hnew C _ _ _ hF _ _ _ (lv_sub hl [2] rfl) hw
      · rw [if_neg h5] at hF
        refine lv_if_le (tgt := 56) hx hb d_H_run_35 (by decide) (fun hp => absurd hp h5) (fun _ => ?_)
        refine lv_aload_n hx hb d_H_run_38 rfl (lv_at hl 0 rfl) ?_
        refine lv_aload_n hx hb d_H_run_39 rfl (lv_at hl 0 rfl) ?_
        refine ga_getR C hw gf_H_25 t2 hr3 d_H_run_40 ?_
        refine lv_iconst (v := 0) hx hb d_H_run_43 (by decide) ?_
        obtain ⟨q6, I7, c8, hF⟩ := bd2_ex hF
        refine ga_cVq (As := [.int (0 : Int32)]) C hw (c_Post_takeOut l D T z L c8) gy_H_105 t4 rfl hl.1 ⟨Nat.le_of_ble_eq_true rfl, Nat.le_of_ble_eq_true rfl, rfl, rfl, Nat.le_of_ble_eq_true rfl, Nat.le_of_ble_eq_true rfl⟩ (Nat.le_of_ble_eq_true rfl) rfl d_H_run_44 (fun H locs hw => ?_)
        obtain ⟨r9, h10, hG⟩ := ob_ex hF
        clear hF
        subst h10
        have hF := hG
        obtain ⟨I11, J12, c13, hF⟩ := bd2_ex hF
        refine ga_cVv (As := [.ref r9]) C hw (c_H_arrive l D T z L c13) gy_H_108 t2 rfl hl.1 ⟨Nat.le_of_ble_eq_true rfl, Nat.le_of_ble_eq_true rfl, rfl, rfl, Nat.le_of_ble_eq_true rfl, Nat.le_of_ble_eq_true rfl⟩ (Nat.le_of_ble_eq_true rfl) rfl d_H_run_47 (fun H locs hw => ?_)
        obtain ⟨v14, ev14, hF⟩ := bnd_ex hF
        refine lv_iinc (k := 2) (v := v14) hx hb d_H_run_50 hl rfl (by rw [ev14]; rfl) (by decide) rfl (fun ls hl => ?_)
        have hl : lv_has ls 3 [(2, .int v14), (0, .ref l0), (1, .int l1)] := hl
        refine lv_goto (tgt := 23) hx hb d_H_run_53 (by decide) ?_
        exact ih _ _ _ _ _ hF _ _ _ (lv_sub hl [1, 2, 0] rfl) hw
set_option maxHeartbeats 4000000 in
set_option maxRecDepth 100000 in
theorem c_H_run (l : Launch) (D : va_G) (T : Nat → ClassId) (z : Nat) (L : List Nat) {S : gS} {I : gMI} {J : gMJ} {p0 : Nat} {p1 : Int32} {ex : Nat} {r : Int32} {RI : gMI} {RJ : gMJ} (hl9 : l.stackTraces = false) (hF : f_H_run S I J p0 p1 = some (ex, r, RI, RJ)) : ga_Xi l y_H_run prog_1_method_11_code 3 (Option.some Jvm.ClassFile.FieldType.int) rm_H_run [.ref p0, .int p1] D T z L S I J ex r RI RJ := by
  refine vx_ofW (cc := prog_1_method_11_code) (maxL := 3) (ret := (Option.some Jvm.ClassFile.FieldType.int)) (by decide) rfl ?_
  intro p e s m args below meth c s₁ B hml hno hv
  obtain ⟨ha, hv⟩ := hv
  have hx := B.exec
  have hb := B.bytes
  have hr := B.returns
  have hts := atoms_spec (ws := .code y_H_run prog_1_method_11_code 3 (Option.some Jvm.ClassFile.FieldType.int) :: ga_ws) B.pre
  have hown : s.vm.findClass "RankHouse" = some m.cls := findClass_of_methodNamed B.named
  have hlocks := B.notSynchronized
  have C : CallFix p m c prog_1_method_11_code 3 s args ga_ws "RankHouse" := ⟨hx, hb, hml, hown, fun w h => hts w (List.mem_cons_of_mem _ h)⟩
  have hw := ga_start hv
  have hl := lv_entry ([.ref p0, .int p1]) (n := 3) (Nat.le_of_ble_eq_true rfl)
  rw [show entryFrame m args 3 = entryFrame m ([.ref p0, .int p1] : List Value).toArray 3 by rw [ha], lg_entry_eq]
  generalize (lg_sl ([.ref p0, .int p1]) ++ List.replicate (3 - (lg_sl ([.ref p0, .int p1])).length) Slot.unset).toArray = ls at hl ⊢
  have hl : lv_has ls 3 [(0, .ref p0), (1, .int p1)] := hl
  have key : ∀ Q : State → Prop, (∀ (pc cells slots : Nat) (ls : Array Slot) (H : Heap) (locs : List Loc) (x : Int32) (I1 : gMI) (J1 : gMJ), (0, x, I1, J1) = (ex, r, RI, RJ) → decode prog_1_method_11_code pc = .ok (.ireturn, 1) → cells ≤ rm_H_run.cells → slots ≤ rm_H_run.slots → ga_W D T z L S I1 J1 s H locs → W p l e rm_H_run s m args below meth c H locs cells slots Q (F0 m pc ls [.int x])) → (∀ (pc ey cells slots : Nat) (ls : Array Slot) (rest : List Value) (H : Heap) (locs : List Loc) (I1 : gMI) (J1 : gMJ), (ey, 0, I1, J1) = (ex, r, RI, RJ) → ga_TH "RankHouse" prog_1_method_11_code pc ey → ls.size = 3 → (rest.map fun v => v.category).sum ≤ 8 → cells + 1 ≤ rm_H_run.cells → slots + 6 ≤ rm_H_run.slots → ga_W D T z L S I1 J1 s H locs → W p l e rm_H_run s m args below meth c H locs cells slots Q (F0 m pc ls rest)) → W p l e rm_H_run s m args below meth c s.heap [] 0 0 Q (F0 m 0 ls []) := by
    intro Q hret hnew
    rw [f_H_run] at hF
    refine lv_iload_n hx hb d_H_run_0 rfl (lv_at hl 1 rfl) ?_
    by_cases h1 : p1 < 0
    · rw [if_pos h1] at hF
      refine lv_if_lt (tgt := 11) hx hb d_H_run_1 (by decide) (fun _ => ?_) (fun hn => absurd h1 hn)
      refine W.widen (k := 0) (n := 0) (Nat.le_of_ble_eq_true rfl) (Nat.le_of_ble_eq_true rfl) ?_
      exact m_H_run_b11 hl9 hret hnew C _ _ hF _ _ _ (lv_sub hl [] rfl) hw
    · rw [if_neg h1] at hF
      refine lv_if_lt (tgt := 11) hx hb d_H_run_1 (by decide) (fun hp => absurd hp h1) (fun _ => ?_)
      refine lv_iload_n hx hb d_H_run_4 rfl (lv_at hl 1 rfl) ?_
      refine lv_sipush (v := 1000) hx hb d_H_run_5 (by decide) ?_
      by_cases h2 : p1 ≤ (1000 : Int32)
      · rw [if_pos h2] at hF
        refine lv_icmp_le (tgt := 21) hx hb d_H_run_8 (by decide) (fun _ => ?_) (fun hn => absurd h2 hn)
        refine lv_iconst (v := 0) hx hb d_H_run_21 (by decide) ?_
        refine lv_istore_n hx hb d_H_run_22 rfl hl (by decide) rfl (fun ls hl => ?_)
        have hl : lv_has ls 3 [(2, .int (0 : Int32)), (0, .ref p0), (1, .int p1)] := hl
        refine W.widen (k := 0) (n := 0) (Nat.le_of_ble_eq_true rfl) (Nat.le_of_ble_eq_true rfl) ?_
        exact m_H_run_b23 hl9 hret hnew C gFuel _ _ _ _ _ hF _ _ _ (lv_sub hl [1, 2, 0] rfl) hw
      · rw [if_neg h2] at hF
        refine lv_icmp_le (tgt := 21) hx hb d_H_run_8 (by decide) (fun hp => absurd hp h2) (fun _ => ?_)
        refine W.widen (k := 0) (n := 0) (Nat.le_of_ble_eq_true rfl) (Nat.le_of_ble_eq_true rfl) ?_
        exact m_H_run_b11 hl9 hret hnew C _ _ hF _ _ _ (lv_sub hl [] rfl) hw
  refine key _ (fun pc cells slots ls H locs x I1 J1 he hd hc hs hw => ?_) (fun pc ey cells slots ls rest H locs I1 J1 he ht hsz hre hc hs hw => ?_)
  · cases he
    exact W.widen hc hs (vx_ret (W.iret hx hb hr (fun t ht _ => ⟨⟨_, (), rfl, ⟨rfl, rfl⟩, ga_o hw ht⟩, hw.2.2.2.1.F ht⟩) hw.2.2.2.1.2.2 hd))
  · cases he
    exact ga_throw C hl9 hno hlocks hw ht hsz hre (Nat.le_of_ble_eq_true rfl) (Nat.le_of_ble_eq_true rfl) hc hs
set_option maxHeartbeats 4000000 in
set_option maxRecDepth 100000 in
theorem c_H_questionOf (l : Launch) (D : va_G) (T : Nat → ClassId) (z : Nat) (L : List Nat) {S : gS} {I : gMI} {J : gMJ} {p0 : Nat} {p1 : Int32} {ex : Nat} {r : Option Nat} (hl9 : l.stackTraces = false) (hF : f_H_questionOf S I J p0 p1 = some (ex, r)) : ga_Xq l y_H_questionOf prog_1_method_30_code 3 (Option.some (Jvm.ClassFile.FieldType.object "RankHouse$Question")) rm_H_questionOf [.ref p0, .int p1] D T z L S I J ex r I J := by
  refine vx_ofW (cc := prog_1_method_30_code) (maxL := 3) (ret := (Option.some (Jvm.ClassFile.FieldType.object "RankHouse$Question"))) (by decide) rfl ?_
  intro p e s m args below meth c s₁ B hml hno hv
  obtain ⟨ha, hv⟩ := hv
  have hx := B.exec
  have hb := B.bytes
  have hr := B.returns
  have hts := atoms_spec (ws := .code y_H_questionOf prog_1_method_30_code 3 (Option.some (Jvm.ClassFile.FieldType.object "RankHouse$Question")) :: ga_ws) B.pre
  have hown : s.vm.findClass "RankHouse" = some m.cls := findClass_of_methodNamed B.named
  have hlocks := B.notSynchronized
  have C : CallFix p m c prog_1_method_30_code 3 s args ga_ws "RankHouse" := ⟨hx, hb, hml, hown, fun w h => hts w (List.mem_cons_of_mem _ h)⟩
  have hw := ga_start hv
  have hl := lv_entry ([.ref p0, .int p1]) (n := 3) (Nat.le_of_ble_eq_true rfl)
  rw [show entryFrame m args 3 = entryFrame m ([.ref p0, .int p1] : List Value).toArray 3 by rw [ha], lg_entry_eq]
  generalize (lg_sl ([.ref p0, .int p1]) ++ List.replicate (3 - (lg_sl ([.ref p0, .int p1])).length) Slot.unset).toArray = ls at hl ⊢
  have hl : lv_has ls 3 [(0, .ref p0), (1, .int p1)] := hl
  have key : ∀ Q : State → Prop, (∀ (pc cells slots : Nat) (ls : Array Slot) (H : Heap) (locs : List Loc) (x : Option Nat), (0, x) = (ex, r) → decode prog_1_method_30_code pc = .ok (.areturn, 1) → cells ≤ rm_H_questionOf.cells → slots ≤ rm_H_questionOf.slots → ga_W D T z L S I J s H locs → W p l e rm_H_questionOf s m args below meth c H locs cells slots Q (F0 m pc ls [va_rf x])) → (∀ (pc ey cells slots : Nat) (ls : Array Slot) (rest : List Value) (H : Heap) (locs : List Loc), (ey, none) = (ex, r) → ga_TH "RankHouse" prog_1_method_30_code pc ey → ls.size = 3 → (rest.map fun v => v.category).sum ≤ 8 → cells + 1 ≤ rm_H_questionOf.cells → slots + 6 ≤ rm_H_questionOf.slots → ga_W D T z L S I J s H locs → W p l e rm_H_questionOf s m args below meth c H locs cells slots Q (F0 m pc ls rest)) → W p l e rm_H_questionOf s m args below meth c s.heap [] 0 0 Q (F0 m 0 ls []) := by
    intro Q hret hnew
    rw [f_H_questionOf] at hF
    refine lv_aload_n hx hb d_H_questionOf_0 rfl (lv_at hl 0 rfl) ?_
    refine lv_iload_n hx hb d_H_questionOf_1 rfl (lv_at hl 1 rfl) ?_
    obtain ⟨t1, hF⟩ := gd_ex hF
    obtain ⟨q2, c3, hF⟩ := ob_ex hF
    refine ga_cVq (As := [.int p1]) C hw (c_H_seek l D T z L c3) gy_H_229 t1 rfl hl.1 ⟨Nat.le_of_ble_eq_true rfl, Nat.le_of_ble_eq_true rfl, rfl, rfl, Nat.le_of_ble_eq_true rfl, Nat.le_of_ble_eq_true rfl⟩ (Nat.le_of_ble_eq_true rfl) rfl d_H_questionOf_2 (fun H locs hw => ?_)
    rcases gm_ex hF with ⟨h5, hG⟩ | ⟨r4, h5, hG⟩
    · clear hF
      subst h5
      have hF := hG
      show W _ _ _ _ _ _ _ _ _ _ _ _ _ _ _ (F0 _ _ _ (.null :: _))
      refine lv_astore_nN hx hb d_H_questionOf_5 rfl hl (by decide) rfl (fun ls hl => ?_)
      have hl : lv_has ls 3 [(2, .null), (0, .ref p0), (1, .int p1)] := hl
      refine lv_aload_nN hx hb d_H_questionOf_6 rfl (lv_at hl 0 rfl) ?_
      refine lv_ifnonnullN hx hb d_H_questionOf_7 ?_
      exact hnew _ _ _ _ _ _ _ _ (Option.some.inj hF) gt_H_questionOf_10 hl.1 (Nat.le_of_ble_eq_true rfl) (Nat.le_of_ble_eq_true rfl) (Nat.le_of_ble_eq_true rfl) hw
    · clear hF
      subst h5
      have hF := hG
      show W _ _ _ _ _ _ _ _ _ _ _ _ _ _ _ (F0 _ _ _ (.ref _ :: _))
      refine lv_astore_n hx hb d_H_questionOf_5 rfl hl (by decide) rfl (fun ls hl => ?_)
      have hl : lv_has ls 3 [(2, .ref r4), (0, .ref p0), (1, .int p1)] := hl
      refine lv_aload_n hx hb d_H_questionOf_6 rfl (lv_at hl 0 rfl) ?_
      refine lv_ifnonnull (tgt := 20) hx hb d_H_questionOf_7 (by decide) ?_
      refine lv_aload_n hx hb d_H_questionOf_20 rfl (lv_at hl 0 rfl) ?_
      exact hret _ _ _ _ _ _ _ (Option.some.inj hF) d_H_questionOf_21 (Nat.le_of_ble_eq_true rfl) (Nat.le_of_ble_eq_true rfl) hw
  refine key _ (fun pc cells slots ls H locs x he hd hc hs hw => ?_) (fun pc ey cells slots ls rest H locs he ht hsz hre hc hs hw => ?_)
  · cases he
    exact W.widen hc hs (vx_ret (W.aret (v := va_rf _) hx hb hr (Or.inl ⟨_, rfl⟩) (ga_rfq _) (fun t ht _ => ⟨⟨_, (), rfl, ⟨rfl, rfl⟩, ga_o hw ht⟩, hw.2.2.2.1.F ht⟩) hw.2.2.2.1.2.2 hd))
  · cases he
    exact ga_throw C hl9 hno hlocks hw ht hsz hre (Nat.le_of_ble_eq_true rfl) (Nat.le_of_ble_eq_true rfl) hc hs
set_option maxHeartbeats 4000000 in
set_option maxRecDepth 100000 in
theorem c_H_resend (l : Launch) (D : va_G) (T : Nat → ClassId) (z : Nat) (L : List Nat) {S : gS} {I : gMI} {J : gMJ} {p0 : Nat} {p1 : Int32} {ex : Nat} {r : Int32} {RI : gMI} {RJ : gMJ} (hl9 : l.stackTraces = false) (hF : f_H_resend S I J p0 p1 = some (ex, r, RI, RJ)) : ga_Xi l y_H_resend prog_1_method_12_code 3 (Option.some Jvm.ClassFile.FieldType.int) rm_H_resend [.ref p0, .int p1] D T z L S I J ex r RI RJ := by
  refine vx_ofW (cc := prog_1_method_12_code) (maxL := 3) (ret := (Option.some Jvm.ClassFile.FieldType.int)) (by decide) rfl ?_
  intro p e s m args below meth c s₁ B hml hno hv
  obtain ⟨ha, hv⟩ := hv
  have hx := B.exec
  have hb := B.bytes
  have hr := B.returns
  have hts := atoms_spec (ws := .code y_H_resend prog_1_method_12_code 3 (Option.some Jvm.ClassFile.FieldType.int) :: ga_ws) B.pre
  have hown : s.vm.findClass "RankHouse" = some m.cls := findClass_of_methodNamed B.named
  have hlocks := B.notSynchronized
  have C : CallFix p m c prog_1_method_12_code 3 s args ga_ws "RankHouse" := ⟨hx, hb, hml, hown, fun w h => hts w (List.mem_cons_of_mem _ h)⟩
  have hw := ga_start hv
  have hl := lv_entry ([.ref p0, .int p1]) (n := 3) (Nat.le_of_ble_eq_true rfl)
  rw [show entryFrame m args 3 = entryFrame m ([.ref p0, .int p1] : List Value).toArray 3 by rw [ha], lg_entry_eq]
  generalize (lg_sl ([.ref p0, .int p1]) ++ List.replicate (3 - (lg_sl ([.ref p0, .int p1])).length) Slot.unset).toArray = ls at hl ⊢
  have hl : lv_has ls 3 [(0, .ref p0), (1, .int p1)] := hl
  have key : ∀ Q : State → Prop, (∀ (pc cells slots : Nat) (ls : Array Slot) (H : Heap) (locs : List Loc) (x : Int32) (I1 : gMI) (J1 : gMJ), (0, x, I1, J1) = (ex, r, RI, RJ) → decode prog_1_method_12_code pc = .ok (.ireturn, 1) → cells ≤ rm_H_resend.cells → slots ≤ rm_H_resend.slots → ga_W D T z L S I1 J1 s H locs → W p l e rm_H_resend s m args below meth c H locs cells slots Q (F0 m pc ls [.int x])) → (∀ (pc ey cells slots : Nat) (ls : Array Slot) (rest : List Value) (H : Heap) (locs : List Loc) (ce : Cell) (q9 : Addr) (I1 : gMI) (J1 : gMJ), (ey, 0, I1, J1) = (ex, r, RI, RJ) → ¬ ey = 0 → cells ≤ rm_H_resend.cells → slots ≤ rm_H_resend.slots → ga_W D T z L S I1 J1 s H locs → H[q9]? = some ce → ce.vm = .none → s.vm.findClass (ga_ex ey) = some ce.cls → vx_W p l e rm_H_resend s m args below meth c H locs cells slots Q (F0 m pc ls rest) q9) → (∀ (pc ey cells slots : Nat) (ls : Array Slot) (rest : List Value) (H : Heap) (locs : List Loc) (I1 : gMI) (J1 : gMJ), (ey, 0, I1, J1) = (ex, r, RI, RJ) → ga_TH "RankHouse" prog_1_method_12_code pc ey → ls.size = 3 → (rest.map fun v => v.category).sum ≤ 8 → cells + 1 ≤ rm_H_resend.cells → slots + 6 ≤ rm_H_resend.slots → ga_W D T z L S I1 J1 s H locs → W p l e rm_H_resend s m args below meth c H locs cells slots Q (F0 m pc ls rest)) → W p l e rm_H_resend s m args below meth c s.heap [] 0 0 Q (F0 m 0 ls []) := by
    intro Q hret hthr hnew
    rw [f_H_resend] at hF
    refine lv_aload_n hx hb d_H_resend_0 rfl (lv_at hl 0 rfl) ?_
    refine lv_iload_n hx hb d_H_resend_1 rfl (lv_at hl 1 rfl) ?_
    obtain ⟨t1, hF⟩ := gd_ex hF
    obtain ⟨e2, q3, c4, hF⟩ := bd2_ex hF
    refine ga_xVq (As := [.int p1]) C hw (c_H_questionOf l D T z L hl9 c4) gy_H_121 t1 rfl hl.1 ⟨Nat.le_of_ble_eq_true rfl, Nat.le_of_ble_eq_true rfl, Nat.le_of_ble_eq_true rfl, Nat.le_of_ble_eq_true rfl⟩ (Nat.le_of_ble_eq_true rfl) rfl d_H_resend_2 (fun hne ce q9 H locs hw hce hcv hcl => ?_) (fun h0 H locs hw => ?_)
    · rw [if_neg hne] at hF
      exact hthr _ _ _ _ _ _ _ _ _ _ _ _ (Option.some.inj hF) hne (Nat.le_of_ble_eq_true rfl) (Nat.le_of_ble_eq_true rfl) hw hce hcv hcl
    · rw [if_pos h0] at hF
      obtain ⟨r5, er5, hG⟩ := ob_ex hF
      clear hF
      subst er5
      have hF := hG
      refine lv_astore_n hx hb d_H_resend_5 rfl hl (by decide) rfl (fun ls hl => ?_)
      have hl : lv_has ls 3 [(2, .ref r5), (0, .ref p0), (1, .int p1)] := hl
      refine lv_aload_n hx hb d_H_resend_6 rfl (lv_at hl 0 rfl) ?_
      obtain ⟨t6, hF⟩ := gd_ex hF
      refine ga_getI C hw gf_H_125 t6 d_H_resend_7 ?_
      by_cases h7 : (I r5 14) = 0
      · rw [if_pos h7] at hF
        refine lv_if_eq (tgt := 23) hx hb d_H_resend_10 (by decide) (fun _ => ?_) (fun hn => absurd h7 hn)
        refine lv_aload_n hx hb d_H_resend_23 rfl (lv_at hl 1 rfl) ?_
        refine lv_aload_n hx hb d_H_resend_24 rfl (lv_at hl 0 rfl) ?_
        obtain ⟨x8, I9, J10, c11, hF⟩ := bd3_ex hF
        refine ga_cVi (As := [.ref r5]) C hw (c_H_askThoseLeft l D T z L c11) gy_H_133 t1 rfl hl.1 ⟨Nat.le_of_ble_eq_true rfl, Nat.le_of_ble_eq_true rfl, rfl, rfl, Nat.le_of_ble_eq_true rfl, Nat.le_of_ble_eq_true rfl⟩ (Nat.le_of_ble_eq_true rfl) rfl d_H_resend_25 (fun H locs hw => ?_)
        exact hret _ _ _ _ _ _ _ _ _ (Option.some.inj hF) d_H_resend_28 (Nat.le_of_ble_eq_true rfl) (Nat.le_of_ble_eq_true rfl) hw
      · rw [if_neg h7] at hF
        refine lv_if_eq (tgt := 23) hx hb d_H_resend_10 (by decide) (fun hp => absurd hp h7) (fun _ => ?_)
        exact hnew _ _ _ _ _ _ _ _ _ _ (Option.some.inj hF) gt_H_resend_13 hl.1 (Nat.le_of_ble_eq_true rfl) (Nat.le_of_ble_eq_true rfl) (Nat.le_of_ble_eq_true rfl) hw
  refine key _ (fun pc cells slots ls H locs x I1 J1 he hd hc hs hw => ?_) (fun pc ey cells slots ls rest H locs ce q9 I1 J1 he hne hc hs hw hce hcv hcl => ?_) (fun pc ey cells slots ls rest H locs I1 J1 he ht hsz hre hc hs hw => ?_)
  · cases he
    exact W.widen hc hs (vx_ret (W.iret hx hb hr (fun t ht _ => ⟨⟨_, (), rfl, ⟨rfl, rfl⟩, ga_o hw ht⟩, hw.2.2.2.1.F ht⟩) hw.2.2.2.1.2.2 hd))
  · cases he
    exact vx_out (fun x hx => (hno x hx).elim) hlocks hce hcv hcl (fun t ht _ => ⟨(), hne, ⟨rfl, ga_o hw ht⟩, hw.2.2.2.1.F ht⟩) hw.2.2.2.1.2.2 hc hs
  · cases he
    exact ga_throw C hl9 hno hlocks hw ht hsz hre (Nat.le_of_ble_eq_true rfl) (Nat.le_of_ble_eq_true rfl) hc hs
set_option maxHeartbeats 4000000 in
set_option maxRecDepth 100000 in
theorem m_H_takeOver_b39 {zz : Nat × Int32 × gMI × gMJ} (hl9 : l.stackTraces = false) (hret : ∀ (pc cells slots : Nat) (ls : Array Slot) (H : Heap) (locs : List Loc) (x : Int32) (I1 : gMI) (J1 : gMJ), (0, x, I1, J1) = zz → decode prog_1_method_13_code pc = .ok (.ireturn, 1) → cells ≤ rm_H_takeOver.cells → slots ≤ rm_H_takeOver.slots → ga_W D T z L S I1 J1 s H locs → W p l e rm_H_takeOver s m args below meth c H locs cells slots Q (F0 m pc ls [.int x])) (hthr : ∀ (pc ey cells slots : Nat) (ls : Array Slot) (rest : List Value) (H : Heap) (locs : List Loc) (ce : Cell) (q9 : Addr) (I1 : gMI) (J1 : gMJ), (ey, 0, I1, J1) = zz → ¬ ey = 0 → cells ≤ rm_H_takeOver.cells → slots ≤ rm_H_takeOver.slots → ga_W D T z L S I1 J1 s H locs → H[q9]? = some ce → ce.vm = .none → s.vm.findClass (ga_ex ey) = some ce.cls → vx_W p l e rm_H_takeOver s m args below meth c H locs cells slots Q (F0 m pc ls rest) q9) (hnew : ∀ (pc ey cells slots : Nat) (ls : Array Slot) (rest : List Value) (H : Heap) (locs : List Loc) (I1 : gMI) (J1 : gMJ), (ey, 0, I1, J1) = zz → ga_TH "RankHouse" prog_1_method_13_code pc ey → ls.size = 4 → (rest.map fun v => v.category).sum ≤ 8 → cells + 1 ≤ rm_H_takeOver.cells → slots + 6 ≤ rm_H_takeOver.slots → ga_W D T z L S I1 J1 s H locs → W p l e rm_H_takeOver s m args below meth c H locs cells slots Q (F0 m pc ls rest)) (C : CallFix p m c prog_1_method_13_code 4 s args ga_ws "RankHouse") : ∀ (I : gMI) (J : gMJ) (l0 : Nat) (l2 : Int32) (l3 : Nat), f_H_takeOver_b39 S I J l0 l2 l3 = some zz → ∀ (ls : Array Slot) (H : Heap) (locs : List Loc), lv_has ls 4 [(0, .ref l0), (2, .int l2), (3, .ref l3)] → ga_W D T z L S I J s H locs → W p l e rm_H_takeOver s m args below meth c H locs 3 18 Q (F0 m 39 ls []) := by
  intro I J l0 l2 l3 hF ls H locs hl hw
  have hx := C.1
  have hb := C.2.1
  rw [f_H_takeOver_b39] at hF
  refine lv_aload_n hx hb d_H_takeOver_39 rfl (lv_at hl 2 rfl) ?_
  refine lv_iload_n hx hb d_H_takeOver_40 rfl (lv_at hl 1 rfl) ?_
  obtain ⟨t1, hF⟩ := gd_ex hF
  obtain ⟨I2, c3, hF⟩ := ob_ex hF
  refine ga_cVv (As := [.int l2]) C hw (c_Question_beginTurn l D T z L c3) gy_H_80 t1 rfl hl.1 ⟨Nat.le_of_ble_eq_true rfl, Nat.le_of_ble_eq_true rfl, rfl, rfl, Nat.le_of_ble_eq_true rfl, Nat.le_of_ble_eq_true rfl⟩ (Nat.le_of_ble_eq_true rfl) rfl d_H_takeOver_41 (fun H locs hw => ?_)
  refine lv_aload_n hx hb d_H_takeOver_44 rfl (lv_at hl 0 rfl) ?_
  refine lv_aload_n hx hb d_H_takeOver_45 rfl (lv_at hl 2 rfl) ?_
  obtain ⟨t4, hF⟩ := gd_ex hF
  obtain ⟨I5, J6, c7, hF⟩ := bd2_ex hF
  refine ga_cVv (As := [.ref l3]) C hw (c_H_askAll l D T z L c7) gy_H_83 t4 rfl hl.1 ⟨Nat.le_of_ble_eq_true rfl, Nat.le_of_ble_eq_true rfl, rfl, rfl, Nat.le_of_ble_eq_true rfl, Nat.le_of_ble_eq_true rfl⟩ (Nat.le_of_ble_eq_true rfl) rfl d_H_takeOver_46 (fun H locs hw => ?_)
  refine lv_aload_n hx hb d_H_takeOver_49 rfl (lv_at hl 2 rfl) ?_
  refine ga_getI C hw gf_H_139 t1 d_H_takeOver_50 ?_
  exact hret _ _ _ _ _ _ _ _ _ (Option.some.inj hF) d_H_takeOver_53 (Nat.le_of_ble_eq_true rfl) (Nat.le_of_ble_eq_true rfl) hw
set_option maxHeartbeats 4000000 in
set_option maxRecDepth 100000 in
theorem c_H_takeOver (l : Launch) (D : va_G) (T : Nat → ClassId) (z : Nat) (L : List Nat) {S : gS} {I : gMI} {J : gMJ} {p0 : Nat} {p1 : Int32} {p2 : Int32} {ex : Nat} {r : Int32} {RI : gMI} {RJ : gMJ} (hl9 : l.stackTraces = false) (hF : f_H_takeOver S I J p0 p1 p2 = some (ex, r, RI, RJ)) : ga_Xi l y_H_takeOver prog_1_method_13_code 4 (Option.some Jvm.ClassFile.FieldType.int) rm_H_takeOver [.ref p0, .int p1, .int p2] D T z L S I J ex r RI RJ := by
  refine vx_ofW (cc := prog_1_method_13_code) (maxL := 4) (ret := (Option.some Jvm.ClassFile.FieldType.int)) (by decide) rfl ?_
  intro p e s m args below meth c s₁ B hml hno hv
  obtain ⟨ha, hv⟩ := hv
  have hx := B.exec
  have hb := B.bytes
  have hr := B.returns
  have hts := atoms_spec (ws := .code y_H_takeOver prog_1_method_13_code 4 (Option.some Jvm.ClassFile.FieldType.int) :: ga_ws) B.pre
  have hown : s.vm.findClass "RankHouse" = some m.cls := findClass_of_methodNamed B.named
  have hlocks := B.notSynchronized
  have C : CallFix p m c prog_1_method_13_code 4 s args ga_ws "RankHouse" := ⟨hx, hb, hml, hown, fun w h => hts w (List.mem_cons_of_mem _ h)⟩
  have hw := ga_start hv
  have hl := lv_entry ([.ref p0, .int p1, .int p2]) (n := 4) (Nat.le_of_ble_eq_true rfl)
  rw [show entryFrame m args 4 = entryFrame m ([.ref p0, .int p1, .int p2] : List Value).toArray 4 by rw [ha], lg_entry_eq]
  generalize (lg_sl ([.ref p0, .int p1, .int p2]) ++ List.replicate (4 - (lg_sl ([.ref p0, .int p1, .int p2])).length) Slot.unset).toArray = ls at hl ⊢
  have hl : lv_has ls 4 [(0, .ref p0), (1, .int p1), (2, .int p2)] := hl
  have key : ∀ Q : State → Prop, (∀ (pc cells slots : Nat) (ls : Array Slot) (H : Heap) (locs : List Loc) (x : Int32) (I1 : gMI) (J1 : gMJ), (0, x, I1, J1) = (ex, r, RI, RJ) → decode prog_1_method_13_code pc = .ok (.ireturn, 1) → cells ≤ rm_H_takeOver.cells → slots ≤ rm_H_takeOver.slots → ga_W D T z L S I1 J1 s H locs → W p l e rm_H_takeOver s m args below meth c H locs cells slots Q (F0 m pc ls [.int x])) → (∀ (pc ey cells slots : Nat) (ls : Array Slot) (rest : List Value) (H : Heap) (locs : List Loc) (ce : Cell) (q9 : Addr) (I1 : gMI) (J1 : gMJ), (ey, 0, I1, J1) = (ex, r, RI, RJ) → ¬ ey = 0 → cells ≤ rm_H_takeOver.cells → slots ≤ rm_H_takeOver.slots → ga_W D T z L S I1 J1 s H locs → H[q9]? = some ce → ce.vm = .none → s.vm.findClass (ga_ex ey) = some ce.cls → vx_W p l e rm_H_takeOver s m args below meth c H locs cells slots Q (F0 m pc ls rest) q9) → (∀ (pc ey cells slots : Nat) (ls : Array Slot) (rest : List Value) (H : Heap) (locs : List Loc) (I1 : gMI) (J1 : gMJ), (ey, 0, I1, J1) = (ex, r, RI, RJ) → ga_TH "RankHouse" prog_1_method_13_code pc ey → ls.size = 4 → (rest.map fun v => v.category).sum ≤ 8 → cells + 1 ≤ rm_H_takeOver.cells → slots + 6 ≤ rm_H_takeOver.slots → ga_W D T z L S I1 J1 s H locs → W p l e rm_H_takeOver s m args below meth c H locs cells slots Q (F0 m pc ls rest)) → W p l e rm_H_takeOver s m args below meth c s.heap [] 0 0 Q (F0 m 0 ls []) := by
    intro Q hret hthr hnew
    rw [f_H_takeOver] at hF
    refine lv_aload_n hx hb d_H_takeOver_0 rfl (lv_at hl 0 rfl) ?_
    refine lv_iload_n hx hb d_H_takeOver_1 rfl (lv_at hl 1 rfl) ?_
    obtain ⟨t1, hF⟩ := gd_ex hF
    obtain ⟨e2, q3, c4, hF⟩ := bd2_ex hF
    refine ga_xVq (As := [.int p1]) C hw (c_H_questionOf l D T z L hl9 c4) gy_H_121 t1 rfl hl.1 ⟨Nat.le_of_ble_eq_true rfl, Nat.le_of_ble_eq_true rfl, Nat.le_of_ble_eq_true rfl, Nat.le_of_ble_eq_true rfl⟩ (Nat.le_of_ble_eq_true rfl) rfl d_H_takeOver_2 (fun hne ce q9 H locs hw hce hcv hcl => ?_) (fun h0 H locs hw => ?_)
    · rw [if_neg hne] at hF
      exact hthr _ _ _ _ _ _ _ _ _ _ _ _ (Option.some.inj hF) hne (Nat.le_of_ble_eq_true rfl) (Nat.le_of_ble_eq_true rfl) hw hce hcv hcl
    · rw [if_pos h0] at hF
      obtain ⟨r5, er5, hG⟩ := ob_ex hF
      clear hF
      subst er5
      have hF := hG
      refine lv_astore_n hx hb d_H_takeOver_5 rfl hl (by decide) rfl (fun ls hl => ?_)
      have hl : lv_has ls 4 [(3, .ref r5), (0, .ref p0), (1, .int p1), (2, .int p2)] := hl
      refine lv_aload_n hx hb d_H_takeOver_6 rfl (lv_at hl 1 rfl) ?_
      refine lv_iload_n hx hb d_H_takeOver_7 rfl (lv_at hl 3 rfl) ?_
      obtain ⟨e6, q7, c8, hF⟩ := bd2_ex hF
      refine ga_xVq (As := [.int p2]) C hw (c_H_loggerOf l D T z L hl9 c8) gy_H_29 t1 rfl hl.1 ⟨Nat.le_of_ble_eq_true rfl, Nat.le_of_ble_eq_true rfl, Nat.le_of_ble_eq_true rfl, Nat.le_of_ble_eq_true rfl⟩ (Nat.le_of_ble_eq_true rfl) rfl d_H_takeOver_8 (fun hne ce q9 H locs hw hce hcv hcl => ?_) (fun h0 H locs hw => ?_)
      · rw [if_neg hne] at hF
        exact hthr _ _ _ _ _ _ _ _ _ _ _ _ (Option.some.inj hF) hne (Nat.le_of_ble_eq_true rfl) (Nat.le_of_ble_eq_true rfl) hw hce hcv hcl
      · rw [if_pos h0] at hF
        obtain ⟨r9, er9, hG⟩ := ob_ex hF
        clear hF
        subst er9
        have hF := hG
        obtain ⟨e10, c11, hF⟩ := ob_ex hF
        refine ga_xSv (As := [.ref r9]) C hw (c_H_needUp l D T z L hl9 c11) gs_H_65 rfl hl.1 ⟨Nat.le_of_ble_eq_true rfl, Nat.le_of_ble_eq_true rfl, Nat.le_of_ble_eq_true rfl, Nat.le_of_ble_eq_true rfl⟩ (Nat.le_of_ble_eq_true rfl) rfl d_H_takeOver_11 (fun hne ce q9 H locs hw hce hcv hcl => ?_) (fun h0 H locs hw => ?_)
        · rw [if_neg hne] at hF
          exact hthr _ _ _ _ _ _ _ _ _ _ _ _ (Option.some.inj hF) hne (Nat.le_of_ble_eq_true rfl) (Nat.le_of_ble_eq_true rfl) hw hce hcv hcl
        · rw [if_pos h0] at hF
          refine lv_aload_n hx hb d_H_takeOver_14 rfl (lv_at hl 0 rfl) ?_
          obtain ⟨t12, hF⟩ := gd_ex hF
          refine ga_getI C hw gf_H_125 t12 d_H_takeOver_15 ?_
          by_cases h13 : (I r5 14) = 0
          · rw [if_pos h13] at hF
            refine lv_if_eq (tgt := 39) hx hb d_H_takeOver_18 (by decide) (fun _ => ?_) (fun hn => absurd h13 hn)
            refine W.widen (k := 3) (n := 18) (Nat.le_of_ble_eq_true rfl) (Nat.le_of_ble_eq_true rfl) ?_
            exact m_H_takeOver_b39 hl9 hret hthr hnew C _ _ _ _ _ hF _ _ _ (lv_sub hl [1, 3, 0] rfl) hw
          · rw [if_neg h13] at hF
            refine lv_if_eq (tgt := 39) hx hb d_H_takeOver_18 (by decide) (fun hp => absurd hp h13) (fun _ => ?_)
            refine lv_aload_n hx hb d_H_takeOver_21 rfl (lv_at hl 0 rfl) ?_
            refine ga_getI C hw gf_H_125 t12 d_H_takeOver_22 ?_
            refine lv_iconst (v := 3) hx hb d_H_takeOver_25 (by decide) ?_
            by_cases h14 : (I r5 14) = (3 : Int32)
            · rw [if_pos h14] at hF
              refine lv_icmp_eq (tgt := 39) hx hb d_H_takeOver_26 (by decide) (fun _ => ?_) (fun hn => absurd h14 hn)
              refine W.widen (k := 3) (n := 18) (Nat.le_of_ble_eq_true rfl) (Nat.le_of_ble_eq_true rfl) ?_
              exact m_H_takeOver_b39 hl9 hret hthr hnew C _ _ _ _ _ hF _ _ _ (lv_sub hl [1, 3, 0] rfl) hw
            · rw [if_neg h14] at hF
              refine lv_icmp_eq (tgt := 39) hx hb d_H_takeOver_26 (by decide) (fun hp => absurd hp h14) (fun _ => ?_)
              exact hnew _ _ _ _ _ _ _ _ _ _ (Option.some.inj hF) gt_H_takeOver_29 hl.1 (Nat.le_of_ble_eq_true rfl) (Nat.le_of_ble_eq_true rfl) (Nat.le_of_ble_eq_true rfl) hw
  refine key _ (fun pc cells slots ls H locs x I1 J1 he hd hc hs hw => ?_) (fun pc ey cells slots ls rest H locs ce q9 I1 J1 he hne hc hs hw hce hcv hcl => ?_) (fun pc ey cells slots ls rest H locs I1 J1 he ht hsz hre hc hs hw => ?_)
  · cases he
    exact W.widen hc hs (vx_ret (W.iret hx hb hr (fun t ht _ => ⟨⟨_, (), rfl, ⟨rfl, rfl⟩, ga_o hw ht⟩, hw.2.2.2.1.F ht⟩) hw.2.2.2.1.2.2 hd))
  · cases he
    exact vx_out (fun x hx => (hno x hx).elim) hlocks hce hcv hcl (fun t ht _ => ⟨(), hne, ⟨rfl, ga_o hw ht⟩, hw.2.2.2.1.F ht⟩) hw.2.2.2.1.2.2 hc hs
  · cases he
    exact ga_throw C hl9 hno hlocks hw ht hsz hre (Nat.le_of_ble_eq_true rfl) (Nat.le_of_ble_eq_true rfl) hc hs
set_option maxHeartbeats 4000000 in
set_option maxRecDepth 100000 in
theorem m_H_crash_b66 {J : gMJ} {zz : Nat × Int32 × gMI} (hl9 : l.stackTraces = false) (hret : ∀ (pc cells slots : Nat) (ls : Array Slot) (H : Heap) (locs : List Loc) (x : Int32) (I1 : gMI), (0, x, I1) = zz → decode prog_1_method_14_code pc = .ok (.ireturn, 1) → cells ≤ rm_H_crash.cells → slots ≤ rm_H_crash.slots → ga_W D T z L S I1 J s H locs → W p l e rm_H_crash s m args below meth c H locs cells slots Q (F0 m pc ls [.int x])) (hthr : ∀ (pc ey cells slots : Nat) (ls : Array Slot) (rest : List Value) (H : Heap) (locs : List Loc) (ce : Cell) (q9 : Addr) (I1 : gMI), (ey, 0, I1) = zz → ¬ ey = 0 → cells ≤ rm_H_crash.cells → slots ≤ rm_H_crash.slots → ga_W D T z L S I1 J s H locs → H[q9]? = some ce → ce.vm = .none → s.vm.findClass (ga_ex ey) = some ce.cls → vx_W p l e rm_H_crash s m args below meth c H locs cells slots Q (F0 m pc ls rest) q9) (C : CallFix p m c prog_1_method_14_code 5 s args ga_ws "RankHouse") (k13 : gMI → Nat → Int32 → Int32 → Int32 → Option (Nat × Int32 × gMI)) (hk13 : ∀ (I : gMI) (l0 : Nat) (l1 : Int32) (l2 : Int32) (l3 : Int32), k13 I l0 l1 l2 l3 = some zz → ∀ (ls : Array Slot) (H : Heap) (locs : List Loc), lv_has ls 5 [(0, .ref l0), (1, .int l1), (2, .int l2), (3, .int l3)] → ga_W D T z L S I J s H locs → W p l e rm_H_crash s m args below meth c H locs 1 6 Q (F0 m 13 ls [])) : ∀ (I : gMI) (l0 : Nat) (l1 : Int32) (l2 : Int32) (l3 : Int32), f_H_crash_b66 S J k13 I l0 l1 l2 l3 = some zz → ∀ (ls : Array Slot) (H : Heap) (locs : List Loc), lv_has ls 5 [(0, .ref l0), (1, .int l1), (2, .int l2), (3, .int l3)] → ga_W D T z L S I J s H locs → W p l e rm_H_crash s m args below meth c H locs 1 6 Q (F0 m 66 ls []) := by
  intro I l0 l1 l2 l3 hF ls H locs hl hw
  have hx := C.1
  have hb := C.2.1
  rw [f_H_crash_b66] at hF
  obtain ⟨v1, ev1, hF⟩ := bnd_ex hF
  refine lv_iinc (k := 3) (v := v1) hx hb d_H_crash_66 hl rfl (by rw [ev1]; rfl) (by decide) rfl (fun ls hl => ?_)
  have hl : lv_has ls 5 [(3, .int v1), (0, .ref l0), (1, .int l1), (2, .int l2)] := hl
  refine lv_goto (tgt := 13) hx hb d_H_crash_69 (by decide) ?_
  exact hk13 _ _ _ _ _ hF _ _ _ (lv_sub hl [1, 2, 3, 0] rfl) hw
set_option maxHeartbeats 4000000 in
set_option maxRecDepth 100000 in
theorem m_H_crash_b13 {J : gMJ} {zz : Nat × Int32 × gMI} (hl9 : l.stackTraces = false) (hret : ∀ (pc cells slots : Nat) (ls : Array Slot) (H : Heap) (locs : List Loc) (x : Int32) (I1 : gMI), (0, x, I1) = zz → decode prog_1_method_14_code pc = .ok (.ireturn, 1) → cells ≤ rm_H_crash.cells → slots ≤ rm_H_crash.slots → ga_W D T z L S I1 J s H locs → W p l e rm_H_crash s m args below meth c H locs cells slots Q (F0 m pc ls [.int x])) (hthr : ∀ (pc ey cells slots : Nat) (ls : Array Slot) (rest : List Value) (H : Heap) (locs : List Loc) (ce : Cell) (q9 : Addr) (I1 : gMI), (ey, 0, I1) = zz → ¬ ey = 0 → cells ≤ rm_H_crash.cells → slots ≤ rm_H_crash.slots → ga_W D T z L S I1 J s H locs → H[q9]? = some ce → ce.vm = .none → s.vm.findClass (ga_ex ey) = some ce.cls → vx_W p l e rm_H_crash s m args below meth c H locs cells slots Q (F0 m pc ls rest) q9) (C : CallFix p m c prog_1_method_14_code 5 s args ga_ws "RankHouse") : ∀ (n : Nat) (I : gMI) (l0 : Nat) (l1 : Int32) (l2 : Int32) (l3 : Int32), f_H_crash_b13 S J n I l0 l1 l2 l3 = some zz → ∀ (ls : Array Slot) (H : Heap) (locs : List Loc), lv_has ls 5 [(0, .ref l0), (1, .int l1), (2, .int l2), (3, .int l3)] → ga_W D T z L S I J s H locs → W p l e rm_H_crash s m args below meth c H locs 1 6 Q (F0 m 13 ls []) := by
  intro n
  induction n with
  | zero =>
    intro I l0 l1 l2 l3 hF ls H locs hl hw
    rw [f_H_crash_b13] at hF
    cases hF
  | succ n ih =>
    intro I l0 l1 l2 l3 hF ls H locs hl hw
    have hx := C.1
    have hb := C.2.1
    rw [f_H_crash_b13] at hF
    refine lv_iload_n hx hb d_H_crash_13 rfl (lv_at hl 3 rfl) ?_
    refine lv_bipush (v := 8) hx hb d_H_crash_14 (by decide) ?_
    by_cases h1 : (8 : Int32) ≤ l3
    · rw [if_pos h1] at hF
      refine lv_icmp_ge (tgt := 72) hx hb d_H_crash_16 (by decide) (fun _ => ?_) (fun hn => absurd h1 hn)
      refine lv_iload_n hx hb d_H_crash_72 rfl (lv_at hl 2 rfl) ?_
      exact hret _ _ _ _ _ _ _ _ (Option.some.inj hF) d_H_crash_73 (Nat.le_of_ble_eq_true rfl) (Nat.le_of_ble_eq_true rfl) hw
    · rw [if_neg h1] at hF
      refine lv_icmp_ge (tgt := 72) hx hb d_H_crash_16 (by decide) (fun hp => absurd hp h1) (fun _ => ?_)
      refine lv_aload_n hx hb d_H_crash_19 rfl (lv_at hl 0 rfl) ?_
      obtain ⟨t2, hF⟩ := gd_ex hF
      obtain ⟨r3, hr3, hF⟩ := ob_ex hF
      refine ga_getR C hw gf_H_18 t2 hr3 d_H_crash_20 ?_
      refine lv_iload_n hx hb d_H_crash_23 rfl (lv_at hl 3 rfl) ?_
      obtain ⟨t4, hF⟩ := gd_ex hF
      obtain ⟨b5, hF⟩ := gd_ex hF
      rcases gm_ex hF with ⟨h7, hF⟩ | ⟨r6, h7, hF⟩
      · refine ga_rald C hw t4 (by decide) rfl rfl b5 h7 d_H_crash_24 ?_
        refine lv_astoreN hx hb d_H_crash_25 hl (by decide) rfl (fun ls hl => ?_)
        have hl : lv_has ls 5 [(4, .null), (0, .ref l0), (1, .int l1), (2, .int l2), (3, .int l3)] := hl
        refine lv_aloadN hx hb d_H_crash_27 (lv_at hl 0 rfl) ?_
        refine lv_ifnullN (tgt := 66) hx hb d_H_crash_29 (by decide) ?_
        refine W.widen (k := 1) (n := 6) (Nat.le_of_ble_eq_true rfl) (Nat.le_of_ble_eq_true rfl) ?_
        exact m_H_crash_b66 hl9 hret hthr C _ ih _ _ _ _ _ hF _ _ _ (lv_sub hl [1, 2, 3, 4] rfl) hw
      · refine ga_rald C hw t4 (by decide) rfl rfl b5 h7 d_H_crash_24 ?_
        refine lv_astore hx hb d_H_crash_25 hl (by decide) rfl (fun ls hl => ?_)
        have hl : lv_has ls 5 [(4, .ref r6), (0, .ref l0), (1, .int l1), (2, .int l2), (3, .int l3)] := hl
        refine lv_aload hx hb d_H_crash_27 (lv_at hl 0 rfl) ?_
        refine lv_ifnull hx hb d_H_crash_29 ?_
        refine lv_aload hx hb d_H_crash_32 (lv_at hl 0 rfl) ?_
        obtain ⟨t8, hF⟩ := gd_ex hF
        obtain ⟨x9, c10, hF⟩ := ob_ex hF
        refine ga_cVi (As := []) C hw (c_Question_isThere l D T z L c10) gy_H_146 t8 rfl hl.1 ⟨Nat.le_of_ble_eq_true rfl, Nat.le_of_ble_eq_true rfl, rfl, rfl, Nat.le_of_ble_eq_true rfl, Nat.le_of_ble_eq_true rfl⟩ (Nat.le_of_ble_eq_true rfl) rfl d_H_crash_34 (fun H locs hw => ?_)
        by_cases h11 : x9 = 0
        · rw [if_pos h11] at hF
          refine lv_if_eq (tgt := 66) hx hb d_H_crash_37 (by decide) (fun _ => ?_) (fun hn => absurd h11 hn)
          refine W.widen (k := 1) (n := 6) (Nat.le_of_ble_eq_true rfl) (Nat.le_of_ble_eq_true rfl) ?_
          exact m_H_crash_b66 hl9 hret hthr C _ ih _ _ _ _ _ hF _ _ _ (lv_sub hl [1, 2, 3, 4] rfl) hw
        · rw [if_neg h11] at hF
          refine lv_if_eq (tgt := 66) hx hb d_H_crash_37 (by decide) (fun hp => absurd hp h11) (fun _ => ?_)
          refine lv_aload hx hb d_H_crash_40 (lv_at hl 0 rfl) ?_
          refine ga_getI C hw gf_H_150 t8 d_H_crash_42 ?_
          refine lv_iload_n hx hb d_H_crash_45 rfl (lv_at hl 2 rfl) ?_
          by_cases h12 : (I r6 10) = l1
          · rw [if_pos h12] at hF
            refine lv_icmp_ne (tgt := 66) hx hb d_H_crash_46 (by decide) (fun hn => absurd h12 hn) (fun _ => ?_)
            refine lv_aload hx hb d_H_crash_49 (lv_at hl 0 rfl) ?_
            refine ga_getI C hw gf_H_125 t8 d_H_crash_51 ?_
            by_cases h13 : (I r6 14) = 0
            · rw [if_pos h13] at hF
              refine lv_if_ne (tgt := 66) hx hb d_H_crash_54 (by decide) (fun hn => absurd h13 hn) (fun _ => ?_)
              refine lv_aload hx hb d_H_crash_57 (lv_at hl 0 rfl) ?_
              refine lv_iconst (v := 3) hx hb d_H_crash_59 (by decide) ?_
              obtain ⟨I14, eI14, hF⟩ := bnd_ex hF
              refine ga_putI C hw gp_H_125 t8 rfl rfl eI14 d_H_crash_60 (fun H locs hw => ?_)
              obtain ⟨v15, ev15, hF⟩ := bnd_ex hF
              refine lv_iinc (k := 3) (v := v15) hx hb d_H_crash_63 hl rfl (by rw [ev15]; rfl) (by decide) rfl (fun ls hl => ?_)
              have hl : lv_has ls 5 [(2, .int v15), (4, .ref r6), (0, .ref l0), (1, .int l1), (3, .int l3)] := hl
              refine W.widen (k := 1) (n := 6) (Nat.le_of_ble_eq_true rfl) (Nat.le_of_ble_eq_true rfl) ?_
              exact m_H_crash_b66 hl9 hret hthr C _ ih _ _ _ _ _ hF _ _ _ (lv_sub hl [2, 3, 0, 4] rfl) hw
            · rw [if_neg h13] at hF
              refine lv_if_ne (tgt := 66) hx hb d_H_crash_54 (by decide) (fun _ => ?_) (fun hp => absurd hp h13)
              refine W.widen (k := 1) (n := 6) (Nat.le_of_ble_eq_true rfl) (Nat.le_of_ble_eq_true rfl) ?_
              exact m_H_crash_b66 hl9 hret hthr C _ ih _ _ _ _ _ hF _ _ _ (lv_sub hl [1, 2, 3, 4] rfl) hw
          · rw [if_neg h12] at hF
            refine lv_icmp_ne (tgt := 66) hx hb d_H_crash_46 (by decide) (fun _ => ?_) (fun hp => absurd hp h12)
            refine W.widen (k := 1) (n := 6) (Nat.le_of_ble_eq_true rfl) (Nat.le_of_ble_eq_true rfl) ?_
            exact m_H_crash_b66 hl9 hret hthr C _ ih _ _ _ _ _ hF _ _ _ (lv_sub hl [1, 2, 3, 4] rfl) hw
set_option maxHeartbeats 4000000 in
set_option maxRecDepth 100000 in
theorem c_H_crash (l : Launch) (D : va_G) (T : Nat → ClassId) (z : Nat) (L : List Nat) {S : gS} {I : gMI} {J : gMJ} {p0 : Nat} {p1 : Int32} {ex : Nat} {r : Int32} {RI : gMI} (hl9 : l.stackTraces = false) (hF : f_H_crash S I J p0 p1 = some (ex, r, RI)) : ga_Xi l y_H_crash prog_1_method_14_code 5 (Option.some Jvm.ClassFile.FieldType.int) rm_H_crash [.ref p0, .int p1] D T z L S I J ex r RI J := by
  refine vx_ofW (cc := prog_1_method_14_code) (maxL := 5) (ret := (Option.some Jvm.ClassFile.FieldType.int)) (by decide) rfl ?_
  intro p e s m args below meth c s₁ B hml hno hv
  obtain ⟨ha, hv⟩ := hv
  have hx := B.exec
  have hb := B.bytes
  have hr := B.returns
  have hts := atoms_spec (ws := .code y_H_crash prog_1_method_14_code 5 (Option.some Jvm.ClassFile.FieldType.int) :: ga_ws) B.pre
  have hown : s.vm.findClass "RankHouse" = some m.cls := findClass_of_methodNamed B.named
  have hlocks := B.notSynchronized
  have C : CallFix p m c prog_1_method_14_code 5 s args ga_ws "RankHouse" := ⟨hx, hb, hml, hown, fun w h => hts w (List.mem_cons_of_mem _ h)⟩
  have hw := ga_start hv
  have hl := lv_entry ([.ref p0, .int p1]) (n := 5) (Nat.le_of_ble_eq_true rfl)
  rw [show entryFrame m args 5 = entryFrame m ([.ref p0, .int p1] : List Value).toArray 5 by rw [ha], lg_entry_eq]
  generalize (lg_sl ([.ref p0, .int p1]) ++ List.replicate (5 - (lg_sl ([.ref p0, .int p1])).length) Slot.unset).toArray = ls at hl ⊢
  have hl : lv_has ls 5 [(0, .ref p0), (1, .int p1)] := hl
  have key : ∀ Q : State → Prop, (∀ (pc cells slots : Nat) (ls : Array Slot) (H : Heap) (locs : List Loc) (x : Int32) (I1 : gMI), (0, x, I1) = (ex, r, RI) → decode prog_1_method_14_code pc = .ok (.ireturn, 1) → cells ≤ rm_H_crash.cells → slots ≤ rm_H_crash.slots → ga_W D T z L S I1 J s H locs → W p l e rm_H_crash s m args below meth c H locs cells slots Q (F0 m pc ls [.int x])) → (∀ (pc ey cells slots : Nat) (ls : Array Slot) (rest : List Value) (H : Heap) (locs : List Loc) (ce : Cell) (q9 : Addr) (I1 : gMI), (ey, 0, I1) = (ex, r, RI) → ¬ ey = 0 → cells ≤ rm_H_crash.cells → slots ≤ rm_H_crash.slots → ga_W D T z L S I1 J s H locs → H[q9]? = some ce → ce.vm = .none → s.vm.findClass (ga_ex ey) = some ce.cls → vx_W p l e rm_H_crash s m args below meth c H locs cells slots Q (F0 m pc ls rest) q9) → W p l e rm_H_crash s m args below meth c s.heap [] 0 0 Q (F0 m 0 ls []) := by
    intro Q hret hthr
    rw [f_H_crash] at hF
    refine lv_aload_n hx hb d_H_crash_0 rfl (lv_at hl 0 rfl) ?_
    refine lv_iload_n hx hb d_H_crash_1 rfl (lv_at hl 1 rfl) ?_
    obtain ⟨t1, hF⟩ := gd_ex hF
    obtain ⟨e2, q3, c4, hF⟩ := bd2_ex hF
    refine ga_xVq (As := [.int p1]) C hw (c_H_loggerOf l D T z L hl9 c4) gy_H_29 t1 rfl hl.1 ⟨Nat.le_of_ble_eq_true rfl, Nat.le_of_ble_eq_true rfl, Nat.le_of_ble_eq_true rfl, Nat.le_of_ble_eq_true rfl⟩ (Nat.le_of_ble_eq_true rfl) rfl d_H_crash_2 (fun hne ce q9 H locs hw hce hcv hcl => ?_) (fun h0 H locs hw => ?_)
    · rw [if_neg hne] at hF
      exact hthr _ _ _ _ _ _ _ _ _ _ _ (Option.some.inj hF) hne (Nat.le_of_ble_eq_true rfl) (Nat.le_of_ble_eq_true rfl) hw hce hcv hcl
    · rw [if_pos h0] at hF
      obtain ⟨r5, er5, hG⟩ := ob_ex hF
      clear hF
      subst er5
      have hF := hG
      refine lv_iconst (v := 0) hx hb d_H_crash_5 (by decide) ?_
      obtain ⟨t6, hF⟩ := gd_ex hF
      obtain ⟨I7, eI7, hF⟩ := bnd_ex hF
      refine ga_putI C hw gp_H_142 t6 rfl rfl eI7 d_H_crash_6 (fun H locs hw => ?_)
      refine lv_iconst (v := 0) hx hb d_H_crash_9 (by decide) ?_
      refine lv_istore_n hx hb d_H_crash_10 rfl hl (by decide) rfl (fun ls hl => ?_)
      have hl : lv_has ls 5 [(2, .int (0 : Int32)), (0, .ref p0), (1, .int p1)] := hl
      refine lv_iconst (v := 0) hx hb d_H_crash_11 (by decide) ?_
      refine lv_istore_n hx hb d_H_crash_12 rfl hl (by decide) rfl (fun ls hl => ?_)
      have hl : lv_has ls 5 [(3, .int (0 : Int32)), (2, .int (0 : Int32)), (0, .ref p0), (1, .int p1)] := hl
      refine W.widen (k := 1) (n := 6) (Nat.le_of_ble_eq_true rfl) (Nat.le_of_ble_eq_true rfl) ?_
      exact m_H_crash_b13 hl9 hret hthr C gFuel _ _ _ _ _ hF _ _ _ (lv_sub hl [2, 3, 1, 0] rfl) hw
  refine key _ (fun pc cells slots ls H locs x I1 he hd hc hs hw => ?_) (fun pc ey cells slots ls rest H locs ce q9 I1 he hne hc hs hw hce hcv hcl => ?_)
  · cases he
    exact W.widen hc hs (vx_ret (W.iret hx hb hr (fun t ht _ => ⟨⟨_, (), rfl, ⟨rfl, rfl⟩, ga_o hw ht⟩, hw.2.2.2.1.F ht⟩) hw.2.2.2.1.2.2 hd))
  · cases he
    exact vx_out (fun x hx => (hno x hx).elim) hlocks hce hcv hcl (fun t ht _ => ⟨(), hne, ⟨rfl, ga_o hw ht⟩, hw.2.2.2.1.F ht⟩) hw.2.2.2.1.2.2 hc hs
set_option maxHeartbeats 4000000 in
set_option maxRecDepth 100000 in
theorem c_H_restart (l : Launch) (D : va_G) (T : Nat → ClassId) (z : Nat) (L : List Nat) {S : gS} {I : gMI} {J : gMJ} {p0 : Nat} {p1 : Int32} {ex : Nat} {RI : gMI} (hl9 : l.stackTraces = false) (hF : f_H_restart S I J p0 p1 = some (ex, RI)) : ga_Xv l y_H_restart prog_1_method_15_code 2 (Option.none : Option Jvm.ClassFile.FieldType) rm_H_restart [.ref p0, .int p1] D T z L S I J ex RI J := by
  refine vx_ofW (cc := prog_1_method_15_code) (maxL := 2) (ret := (Option.none : Option Jvm.ClassFile.FieldType)) (by decide) rfl ?_
  intro p e s m args below meth c s₁ B hml hno hv
  obtain ⟨ha, hv⟩ := hv
  have hx := B.exec
  have hb := B.bytes
  have hr := B.returns
  have hts := atoms_spec (ws := .code y_H_restart prog_1_method_15_code 2 (Option.none : Option Jvm.ClassFile.FieldType) :: ga_ws) B.pre
  have hown : s.vm.findClass "RankHouse" = some m.cls := findClass_of_methodNamed B.named
  have hlocks := B.notSynchronized
  have C : CallFix p m c prog_1_method_15_code 2 s args ga_ws "RankHouse" := ⟨hx, hb, hml, hown, fun w h => hts w (List.mem_cons_of_mem _ h)⟩
  have hw := ga_start hv
  have hl := lv_entry ([.ref p0, .int p1]) (n := 2) (Nat.le_of_ble_eq_true rfl)
  rw [show entryFrame m args 2 = entryFrame m ([.ref p0, .int p1] : List Value).toArray 2 by rw [ha], lg_entry_eq]
  generalize (lg_sl ([.ref p0, .int p1]) ++ List.replicate (2 - (lg_sl ([.ref p0, .int p1])).length) Slot.unset).toArray = ls at hl ⊢
  have hl : lv_has ls 2 [(0, .ref p0), (1, .int p1)] := hl
  have key : ∀ Q : State → Prop, (∀ (pc cells slots : Nat) (ls : Array Slot) (H : Heap) (locs : List Loc) (I1 : gMI), (0, I1) = (ex, RI) → decode prog_1_method_15_code pc = .ok (.return_, 1) → cells ≤ rm_H_restart.cells → slots ≤ rm_H_restart.slots → ga_W D T z L S I1 J s H locs → W p l e rm_H_restart s m args below meth c H locs cells slots Q (F0 m pc ls [])) → (∀ (pc ey cells slots : Nat) (ls : Array Slot) (rest : List Value) (H : Heap) (locs : List Loc) (ce : Cell) (q9 : Addr) (I1 : gMI), (ey, I1) = (ex, RI) → ¬ ey = 0 → cells ≤ rm_H_restart.cells → slots ≤ rm_H_restart.slots → ga_W D T z L S I1 J s H locs → H[q9]? = some ce → ce.vm = .none → s.vm.findClass (ga_ex ey) = some ce.cls → vx_W p l e rm_H_restart s m args below meth c H locs cells slots Q (F0 m pc ls rest) q9) → W p l e rm_H_restart s m args below meth c s.heap [] 0 0 Q (F0 m 0 ls []) := by
    intro Q hret hthr
    rw [f_H_restart] at hF
    refine lv_aload_n hx hb d_H_restart_0 rfl (lv_at hl 0 rfl) ?_
    refine lv_iload_n hx hb d_H_restart_1 rfl (lv_at hl 1 rfl) ?_
    obtain ⟨t1, hF⟩ := gd_ex hF
    obtain ⟨e2, q3, c4, hF⟩ := bd2_ex hF
    refine ga_xVq (As := [.int p1]) C hw (c_H_loggerOf l D T z L hl9 c4) gy_H_29 t1 rfl hl.1 ⟨Nat.le_of_ble_eq_true rfl, Nat.le_of_ble_eq_true rfl, Nat.le_of_ble_eq_true rfl, Nat.le_of_ble_eq_true rfl⟩ (Nat.le_of_ble_eq_true rfl) rfl d_H_restart_2 (fun hne ce q9 H locs hw hce hcv hcl => ?_) (fun h0 H locs hw => ?_)
    · rw [if_neg hne] at hF
      exact hthr _ _ _ _ _ _ _ _ _ _ _ (Option.some.inj hF) hne (Nat.le_of_ble_eq_true rfl) (Nat.le_of_ble_eq_true rfl) hw hce hcv hcl
    · rw [if_pos h0] at hF
      obtain ⟨r5, er5, hG⟩ := ob_ex hF
      clear hF
      subst er5
      have hF := hG
      refine lv_iconst (v := 1) hx hb d_H_restart_5 (by decide) ?_
      obtain ⟨t6, hF⟩ := gd_ex hF
      obtain ⟨I7, eI7, hF⟩ := bnd_ex hF
      refine ga_putI C hw gp_H_142 t6 rfl rfl eI7 d_H_restart_6 (fun H locs hw => ?_)
      exact hret _ _ _ _ _ _ _ (Option.some.inj hF) d_H_restart_9 (Nat.le_of_ble_eq_true rfl) (Nat.le_of_ble_eq_true rfl) hw
  refine key _ (fun pc cells slots ls H locs I1 he hd hc hs hw => ?_) (fun pc ey cells slots ls rest H locs ce q9 I1 he hne hc hs hw hce hcv hcl => ?_)
  · cases he
    exact W.widen hc hs (vx_ret (W.vret hx hb hr (fun t ht _ => ⟨⟨(), rfl, rfl, ga_o hw ht⟩, hw.2.2.2.1.F ht⟩) hw.2.2.2.1.2.2 hd))
  · cases he
    exact vx_out (fun x hx => (hno x hx).elim) hlocks hce hcv hcl (fun t ht _ => ⟨(), hne, ⟨rfl, ga_o hw ht⟩, hw.2.2.2.1.F ht⟩) hw.2.2.2.1.2.2 hc hs
set_option maxHeartbeats 4000000 in
set_option maxRecDepth 100000 in
theorem c_H_state (l : Launch) (D : va_G) (T : Nat → ClassId) (z : Nat) (L : List Nat) {S : gS} {I : gMI} {J : gMJ} {p0 : Nat} {p1 : Int32} {ex : Nat} {r : Int32} (hl9 : l.stackTraces = false) (hF : f_H_state S I J p0 p1 = some (ex, r)) : ga_Xi l y_H_state prog_1_method_16_code 2 (Option.some Jvm.ClassFile.FieldType.int) rm_H_state [.ref p0, .int p1] D T z L S I J ex r I J := by
  refine vx_ofW (cc := prog_1_method_16_code) (maxL := 2) (ret := (Option.some Jvm.ClassFile.FieldType.int)) (by decide) rfl ?_
  intro p e s m args below meth c s₁ B hml hno hv
  obtain ⟨ha, hv⟩ := hv
  have hx := B.exec
  have hb := B.bytes
  have hr := B.returns
  have hts := atoms_spec (ws := .code y_H_state prog_1_method_16_code 2 (Option.some Jvm.ClassFile.FieldType.int) :: ga_ws) B.pre
  have hown : s.vm.findClass "RankHouse" = some m.cls := findClass_of_methodNamed B.named
  have hlocks := B.notSynchronized
  have C : CallFix p m c prog_1_method_16_code 2 s args ga_ws "RankHouse" := ⟨hx, hb, hml, hown, fun w h => hts w (List.mem_cons_of_mem _ h)⟩
  have hw := ga_start hv
  have hl := lv_entry ([.ref p0, .int p1]) (n := 2) (Nat.le_of_ble_eq_true rfl)
  rw [show entryFrame m args 2 = entryFrame m ([.ref p0, .int p1] : List Value).toArray 2 by rw [ha], lg_entry_eq]
  generalize (lg_sl ([.ref p0, .int p1]) ++ List.replicate (2 - (lg_sl ([.ref p0, .int p1])).length) Slot.unset).toArray = ls at hl ⊢
  have hl : lv_has ls 2 [(0, .ref p0), (1, .int p1)] := hl
  have key : ∀ Q : State → Prop, (∀ (pc cells slots : Nat) (ls : Array Slot) (H : Heap) (locs : List Loc) (x : Int32), (0, x) = (ex, r) → decode prog_1_method_16_code pc = .ok (.ireturn, 1) → cells ≤ rm_H_state.cells → slots ≤ rm_H_state.slots → ga_W D T z L S I J s H locs → W p l e rm_H_state s m args below meth c H locs cells slots Q (F0 m pc ls [.int x])) → (∀ (pc ey cells slots : Nat) (ls : Array Slot) (rest : List Value) (H : Heap) (locs : List Loc) (ce : Cell) (q9 : Addr), (ey, 0) = (ex, r) → ¬ ey = 0 → cells ≤ rm_H_state.cells → slots ≤ rm_H_state.slots → ga_W D T z L S I J s H locs → H[q9]? = some ce → ce.vm = .none → s.vm.findClass (ga_ex ey) = some ce.cls → vx_W p l e rm_H_state s m args below meth c H locs cells slots Q (F0 m pc ls rest) q9) → W p l e rm_H_state s m args below meth c s.heap [] 0 0 Q (F0 m 0 ls []) := by
    intro Q hret hthr
    rw [f_H_state] at hF
    refine lv_aload_n hx hb d_H_state_0 rfl (lv_at hl 0 rfl) ?_
    refine lv_iload_n hx hb d_H_state_1 rfl (lv_at hl 1 rfl) ?_
    obtain ⟨t1, hF⟩ := gd_ex hF
    obtain ⟨e2, q3, c4, hF⟩ := bd2_ex hF
    refine ga_xVq (As := [.int p1]) C hw (c_H_questionOf l D T z L hl9 c4) gy_H_121 t1 rfl hl.1 ⟨Nat.le_of_ble_eq_true rfl, Nat.le_of_ble_eq_true rfl, Nat.le_of_ble_eq_true rfl, Nat.le_of_ble_eq_true rfl⟩ (Nat.le_of_ble_eq_true rfl) rfl d_H_state_2 (fun hne ce q9 H locs hw hce hcv hcl => ?_) (fun h0 H locs hw => ?_)
    · rw [if_neg hne] at hF
      exact hthr _ _ _ _ _ _ _ _ _ _ (Option.some.inj hF) hne (Nat.le_of_ble_eq_true rfl) (Nat.le_of_ble_eq_true rfl) hw hce hcv hcl
    · rw [if_pos h0] at hF
      obtain ⟨r5, er5, hG⟩ := ob_ex hF
      clear hF
      subst er5
      have hF := hG
      obtain ⟨t6, hF⟩ := gd_ex hF
      refine ga_getI C hw gf_H_125 t6 d_H_state_5 ?_
      exact hret _ _ _ _ _ _ _ (Option.some.inj hF) d_H_state_8 (Nat.le_of_ble_eq_true rfl) (Nat.le_of_ble_eq_true rfl) hw
  refine key _ (fun pc cells slots ls H locs x he hd hc hs hw => ?_) (fun pc ey cells slots ls rest H locs ce q9 he hne hc hs hw hce hcv hcl => ?_)
  · cases he
    exact W.widen hc hs (vx_ret (W.iret hx hb hr (fun t ht _ => ⟨⟨_, (), rfl, ⟨rfl, rfl⟩, ga_o hw ht⟩, hw.2.2.2.1.F ht⟩) hw.2.2.2.1.2.2 hd))
  · cases he
    exact vx_out (fun x hx => (hno x hx).elim) hlocks hce hcv hcl (fun t ht _ => ⟨(), hne, ⟨rfl, ga_o hw ht⟩, hw.2.2.2.1.F ht⟩) hw.2.2.2.1.2.2 hc hs
set_option maxHeartbeats 4000000 in
set_option maxRecDepth 100000 in
theorem c_H_needAnswered (l : Launch) (D : va_G) (T : Nat → ClassId) (z : Nat) (L : List Nat) {S : gS} {I : gMI} {J : gMJ} {p0 : Nat} {ex : Nat} (hl9 : l.stackTraces = false) (hF : f_H_needAnswered S I J p0 = some (ex)) : ga_Xv l y_H_needAnswered prog_1_method_27_code 1 (Option.none : Option Jvm.ClassFile.FieldType) rm_H_needAnswered [.ref p0] D T z L S I J ex I J := by
  refine vx_ofW (cc := prog_1_method_27_code) (maxL := 1) (ret := (Option.none : Option Jvm.ClassFile.FieldType)) (by decide) rfl ?_
  intro p e s m args below meth c s₁ B hml hno hv
  obtain ⟨ha, hv⟩ := hv
  have hx := B.exec
  have hb := B.bytes
  have hr := B.returns
  have hts := atoms_spec (ws := .code y_H_needAnswered prog_1_method_27_code 1 (Option.none : Option Jvm.ClassFile.FieldType) :: ga_ws) B.pre
  have hown : s.vm.findClass "RankHouse" = some m.cls := findClass_of_methodNamed B.named
  have hlocks := B.notSynchronized
  have C : CallFix p m c prog_1_method_27_code 1 s args ga_ws "RankHouse" := ⟨hx, hb, hml, hown, fun w h => hts w (List.mem_cons_of_mem _ h)⟩
  have hw := ga_start hv
  have hl := lv_entry ([.ref p0]) (n := 1) (Nat.le_of_ble_eq_true rfl)
  rw [show entryFrame m args 1 = entryFrame m ([.ref p0] : List Value).toArray 1 by rw [ha], lg_entry_eq]
  generalize (lg_sl ([.ref p0]) ++ List.replicate (1 - (lg_sl ([.ref p0])).length) Slot.unset).toArray = ls at hl ⊢
  have hl : lv_has ls 1 [(0, .ref p0)] := hl
  have key : ∀ Q : State → Prop, (∀ (pc cells slots : Nat) (ls : Array Slot) (H : Heap) (locs : List Loc), (0) = (ex) → decode prog_1_method_27_code pc = .ok (.return_, 1) → cells ≤ rm_H_needAnswered.cells → slots ≤ rm_H_needAnswered.slots → ga_W D T z L S I J s H locs → W p l e rm_H_needAnswered s m args below meth c H locs cells slots Q (F0 m pc ls [])) → (∀ (pc ey cells slots : Nat) (ls : Array Slot) (rest : List Value) (H : Heap) (locs : List Loc), (ey) = (ex) → ga_TH "RankHouse" prog_1_method_27_code pc ey → ls.size = 1 → (rest.map fun v => v.category).sum ≤ 8 → cells + 1 ≤ rm_H_needAnswered.cells → slots + 6 ≤ rm_H_needAnswered.slots → ga_W D T z L S I J s H locs → W p l e rm_H_needAnswered s m args below meth c H locs cells slots Q (F0 m pc ls rest)) → W p l e rm_H_needAnswered s m args below meth c s.heap [] 0 0 Q (F0 m 0 ls []) := by
    intro Q hret hnew
    rw [f_H_needAnswered] at hF
    refine lv_aload_n hx hb d_H_needAnswered_0 rfl (lv_at hl 0 rfl) ?_
    obtain ⟨t1, hF⟩ := gd_ex hF
    refine ga_getI C hw gf_H_125 t1 d_H_needAnswered_1 ?_
    refine lv_iconst (v := 1) hx hb d_H_needAnswered_4 (by decide) ?_
    by_cases h2 : (I p0 14) = (1 : Int32)
    · rw [if_pos h2] at hF
      refine lv_icmp_eq (tgt := 18) hx hb d_H_needAnswered_5 (by decide) (fun _ => ?_) (fun hn => absurd h2 hn)
      exact hret _ _ _ _ _ _ (Option.some.inj hF) d_H_needAnswered_18 (Nat.le_of_ble_eq_true rfl) (Nat.le_of_ble_eq_true rfl) hw
    · rw [if_neg h2] at hF
      refine lv_icmp_eq (tgt := 18) hx hb d_H_needAnswered_5 (by decide) (fun hp => absurd hp h2) (fun _ => ?_)
      exact hnew _ _ _ _ _ _ _ _ (Option.some.inj hF) gt_H_needAnswered_8 hl.1 (Nat.le_of_ble_eq_true rfl) (Nat.le_of_ble_eq_true rfl) (Nat.le_of_ble_eq_true rfl) hw
  refine key _ (fun pc cells slots ls H locs he hd hc hs hw => ?_) (fun pc ey cells slots ls rest H locs he ht hsz hre hc hs hw => ?_)
  · cases he
    exact W.widen hc hs (vx_ret (W.vret hx hb hr (fun t ht _ => ⟨⟨(), rfl, rfl, ga_o hw ht⟩, hw.2.2.2.1.F ht⟩) hw.2.2.2.1.2.2 hd))
  · cases he
    exact ga_throw C hl9 hno hlocks hw ht hsz hre (Nat.le_of_ble_eq_true rfl) (Nat.le_of_ble_eq_true rfl) hc hs
set_option maxHeartbeats 4000000 in
set_option maxRecDepth 100000 in
theorem c_H_answer (l : Launch) (D : va_G) (T : Nat → ClassId) (z : Nat) (L : List Nat) {S : gS} {I : gMI} {J : gMJ} {p0 : Nat} {p1 : Int32} {ex : Nat} {r : Int64} (hl9 : l.stackTraces = false) (hF : f_H_answer S I J p0 p1 = some (ex, r)) : ga_Xl l y_H_answer prog_1_method_17_code 3 (Option.some Jvm.ClassFile.FieldType.long) rm_H_answer [.ref p0, .int p1] D T z L S I J ex r I J := by
  refine vx_ofW (cc := prog_1_method_17_code) (maxL := 3) (ret := (Option.some Jvm.ClassFile.FieldType.long)) (by decide) rfl ?_
  intro p e s m args below meth c s₁ B hml hno hv
  obtain ⟨ha, hv⟩ := hv
  have hx := B.exec
  have hb := B.bytes
  have hr := B.returns
  have hts := atoms_spec (ws := .code y_H_answer prog_1_method_17_code 3 (Option.some Jvm.ClassFile.FieldType.long) :: ga_ws) B.pre
  have hown : s.vm.findClass "RankHouse" = some m.cls := findClass_of_methodNamed B.named
  have hlocks := B.notSynchronized
  have C : CallFix p m c prog_1_method_17_code 3 s args ga_ws "RankHouse" := ⟨hx, hb, hml, hown, fun w h => hts w (List.mem_cons_of_mem _ h)⟩
  have hw := ga_start hv
  have hl := lv_entry ([.ref p0, .int p1]) (n := 3) (Nat.le_of_ble_eq_true rfl)
  rw [show entryFrame m args 3 = entryFrame m ([.ref p0, .int p1] : List Value).toArray 3 by rw [ha], lg_entry_eq]
  generalize (lg_sl ([.ref p0, .int p1]) ++ List.replicate (3 - (lg_sl ([.ref p0, .int p1])).length) Slot.unset).toArray = ls at hl ⊢
  have hl : lv_has ls 3 [(0, .ref p0), (1, .int p1)] := hl
  have key : ∀ Q : State → Prop, (∀ (pc cells slots : Nat) (ls : Array Slot) (H : Heap) (locs : List Loc) (x : Int64), (0, x) = (ex, r) → decode prog_1_method_17_code pc = .ok (.lreturn, 1) → cells ≤ rm_H_answer.cells → slots ≤ rm_H_answer.slots → ga_W D T z L S I J s H locs → W p l e rm_H_answer s m args below meth c H locs cells slots Q (F0 m pc ls [.long x])) → (∀ (pc ey cells slots : Nat) (ls : Array Slot) (rest : List Value) (H : Heap) (locs : List Loc) (ce : Cell) (q9 : Addr), (ey, 0) = (ex, r) → ¬ ey = 0 → cells ≤ rm_H_answer.cells → slots ≤ rm_H_answer.slots → ga_W D T z L S I J s H locs → H[q9]? = some ce → ce.vm = .none → s.vm.findClass (ga_ex ey) = some ce.cls → vx_W p l e rm_H_answer s m args below meth c H locs cells slots Q (F0 m pc ls rest) q9) → W p l e rm_H_answer s m args below meth c s.heap [] 0 0 Q (F0 m 0 ls []) := by
    intro Q hret hthr
    rw [f_H_answer] at hF
    refine lv_aload_n hx hb d_H_answer_0 rfl (lv_at hl 0 rfl) ?_
    refine lv_iload_n hx hb d_H_answer_1 rfl (lv_at hl 1 rfl) ?_
    obtain ⟨t1, hF⟩ := gd_ex hF
    obtain ⟨e2, q3, c4, hF⟩ := bd2_ex hF
    refine ga_xVq (As := [.int p1]) C hw (c_H_questionOf l D T z L hl9 c4) gy_H_121 t1 rfl hl.1 ⟨Nat.le_of_ble_eq_true rfl, Nat.le_of_ble_eq_true rfl, Nat.le_of_ble_eq_true rfl, Nat.le_of_ble_eq_true rfl⟩ (Nat.le_of_ble_eq_true rfl) rfl d_H_answer_2 (fun hne ce q9 H locs hw hce hcv hcl => ?_) (fun h0 H locs hw => ?_)
    · rw [if_neg hne] at hF
      exact hthr _ _ _ _ _ _ _ _ _ _ (Option.some.inj hF) hne (Nat.le_of_ble_eq_true rfl) (Nat.le_of_ble_eq_true rfl) hw hce hcv hcl
    · rw [if_pos h0] at hF
      obtain ⟨r5, er5, hG⟩ := ob_ex hF
      clear hF
      subst er5
      have hF := hG
      refine lv_astore_n hx hb d_H_answer_5 rfl hl (by decide) rfl (fun ls hl => ?_)
      have hl : lv_has ls 3 [(2, .ref r5), (0, .ref p0), (1, .int p1)] := hl
      refine lv_aload_n hx hb d_H_answer_6 rfl (lv_at hl 0 rfl) ?_
      obtain ⟨e6, c7, hF⟩ := ob_ex hF
      refine ga_xSv (As := [.ref r5]) C hw (c_H_needAnswered l D T z L hl9 c7) gs_H_153 rfl hl.1 ⟨Nat.le_of_ble_eq_true rfl, Nat.le_of_ble_eq_true rfl, Nat.le_of_ble_eq_true rfl, Nat.le_of_ble_eq_true rfl⟩ (Nat.le_of_ble_eq_true rfl) rfl d_H_answer_7 (fun hne ce q9 H locs hw hce hcv hcl => ?_) (fun h0 H locs hw => ?_)
      · rw [if_neg hne] at hF
        exact hthr _ _ _ _ _ _ _ _ _ _ (Option.some.inj hF) hne (Nat.le_of_ble_eq_true rfl) (Nat.le_of_ble_eq_true rfl) hw hce hcv hcl
      · rw [if_pos h0] at hF
        refine lv_aload_n hx hb d_H_answer_10 rfl (lv_at hl 0 rfl) ?_
        obtain ⟨t8, hF⟩ := gd_ex hF
        refine ga_getJ C hw gf_H_156 t8 d_H_answer_11 ?_
        exact hret _ _ _ _ _ _ _ (Option.some.inj hF) d_H_answer_14 (Nat.le_of_ble_eq_true rfl) (Nat.le_of_ble_eq_true rfl) hw
  refine key _ (fun pc cells slots ls H locs x he hd hc hs hw => ?_) (fun pc ey cells slots ls rest H locs ce q9 he hne hc hs hw hce hcv hcl => ?_)
  · cases he
    exact W.widen hc hs (vx_ret (W.lret hx hb hr (fun t ht _ => ⟨⟨_, (), rfl, ⟨rfl, rfl⟩, ga_o hw ht⟩, hw.2.2.2.1.F ht⟩) hw.2.2.2.1.2.2 hd))
  · cases he
    exact vx_out (fun x hx => (hno x hx).elim) hlocks hce hcv hcl (fun t ht _ => ⟨(), hne, ⟨rfl, ga_o hw ht⟩, hw.2.2.2.1.F ht⟩) hw.2.2.2.1.2.2 hc hs
set_option maxHeartbeats 4000000 in
set_option maxRecDepth 100000 in
theorem m_H_found_b42 {I : gMI} {J : gMJ} {zz : Nat × Int32} (hl9 : l.stackTraces = false) (hret : ∀ (pc cells slots : Nat) (ls : Array Slot) (H : Heap) (locs : List Loc) (x : Int32), (0, x) = zz → decode prog_1_method_18_code pc = .ok (.ireturn, 1) → cells ≤ rm_H_found.cells → slots ≤ rm_H_found.slots → ga_W D T z L S I J s H locs → W p l e rm_H_found s m args below meth c H locs cells slots Q (F0 m pc ls [.int x])) (hthr : ∀ (pc ey cells slots : Nat) (ls : Array Slot) (rest : List Value) (H : Heap) (locs : List Loc) (ce : Cell) (q9 : Addr), (ey, 0) = zz → ¬ ey = 0 → cells ≤ rm_H_found.cells → slots ≤ rm_H_found.slots → ga_W D T z L S I J s H locs → H[q9]? = some ce → ce.vm = .none → s.vm.findClass (ga_ex ey) = some ce.cls → vx_W p l e rm_H_found s m args below meth c H locs cells slots Q (F0 m pc ls rest) q9) (hnew : ∀ (pc ey cells slots : Nat) (ls : Array Slot) (rest : List Value) (H : Heap) (locs : List Loc), (ey, 0) = zz → ga_TH "RankHouse" prog_1_method_18_code pc ey → ls.size = 4 → (rest.map fun v => v.category).sum ≤ 8 → cells + 1 ≤ rm_H_found.cells → slots + 6 ≤ rm_H_found.slots → ga_W D T z L S I J s H locs → W p l e rm_H_found s m args below meth c H locs cells slots Q (F0 m pc ls rest)) (C : CallFix p m c prog_1_method_18_code 4 s args ga_ws "RankHouse") : ∀ (s0 : Int32), f_H_found_b42 S I J s0 = some zz → ∀ (ls : Array Slot) (H : Heap) (locs : List Loc), lv_has ls 4 [] → ga_W D T z L S I J s H locs → W p l e rm_H_found s m args below meth c H locs 2 12 Q (F0 m 42 ls [.int s0]) := by
  intro s0 hF ls H locs hl hw
  have hx := C.1
  have hb := C.2.1
  rw [f_H_found_b42] at hF
  exact hret _ _ _ _ _ _ _ (Option.some.inj hF) d_H_found_42 (Nat.le_of_ble_eq_true rfl) (Nat.le_of_ble_eq_true rfl) hw
set_option maxHeartbeats 4000000 in
set_option maxRecDepth 100000 in
theorem c_H_found (l : Launch) (D : va_G) (T : Nat → ClassId) (z : Nat) (L : List Nat) {S : gS} {I : gMI} {J : gMJ} {p0 : Nat} {p1 : Int32} {p2 : Int32} {ex : Nat} {r : Int32} (hl9 : l.stackTraces = false) (hF : f_H_found S I J p0 p1 p2 = some (ex, r)) : ga_Xi l y_H_found prog_1_method_18_code 4 (Option.some Jvm.ClassFile.FieldType.int) rm_H_found [.ref p0, .int p1, .int p2] D T z L S I J ex r I J := by
  refine vx_ofW (cc := prog_1_method_18_code) (maxL := 4) (ret := (Option.some Jvm.ClassFile.FieldType.int)) (by decide) rfl ?_
  intro p e s m args below meth c s₁ B hml hno hv
  obtain ⟨ha, hv⟩ := hv
  have hx := B.exec
  have hb := B.bytes
  have hr := B.returns
  have hts := atoms_spec (ws := .code y_H_found prog_1_method_18_code 4 (Option.some Jvm.ClassFile.FieldType.int) :: ga_ws) B.pre
  have hown : s.vm.findClass "RankHouse" = some m.cls := findClass_of_methodNamed B.named
  have hlocks := B.notSynchronized
  have C : CallFix p m c prog_1_method_18_code 4 s args ga_ws "RankHouse" := ⟨hx, hb, hml, hown, fun w h => hts w (List.mem_cons_of_mem _ h)⟩
  have hw := ga_start hv
  have hl := lv_entry ([.ref p0, .int p1, .int p2]) (n := 4) (Nat.le_of_ble_eq_true rfl)
  rw [show entryFrame m args 4 = entryFrame m ([.ref p0, .int p1, .int p2] : List Value).toArray 4 by rw [ha], lg_entry_eq]
  generalize (lg_sl ([.ref p0, .int p1, .int p2]) ++ List.replicate (4 - (lg_sl ([.ref p0, .int p1, .int p2])).length) Slot.unset).toArray = ls at hl ⊢
  have hl : lv_has ls 4 [(0, .ref p0), (1, .int p1), (2, .int p2)] := hl
  have key : ∀ Q : State → Prop, (∀ (pc cells slots : Nat) (ls : Array Slot) (H : Heap) (locs : List Loc) (x : Int32), (0, x) = (ex, r) → decode prog_1_method_18_code pc = .ok (.ireturn, 1) → cells ≤ rm_H_found.cells → slots ≤ rm_H_found.slots → ga_W D T z L S I J s H locs → W p l e rm_H_found s m args below meth c H locs cells slots Q (F0 m pc ls [.int x])) → (∀ (pc ey cells slots : Nat) (ls : Array Slot) (rest : List Value) (H : Heap) (locs : List Loc) (ce : Cell) (q9 : Addr), (ey, 0) = (ex, r) → ¬ ey = 0 → cells ≤ rm_H_found.cells → slots ≤ rm_H_found.slots → ga_W D T z L S I J s H locs → H[q9]? = some ce → ce.vm = .none → s.vm.findClass (ga_ex ey) = some ce.cls → vx_W p l e rm_H_found s m args below meth c H locs cells slots Q (F0 m pc ls rest) q9) → (∀ (pc ey cells slots : Nat) (ls : Array Slot) (rest : List Value) (H : Heap) (locs : List Loc), (ey, 0) = (ex, r) → ga_TH "RankHouse" prog_1_method_18_code pc ey → ls.size = 4 → (rest.map fun v => v.category).sum ≤ 8 → cells + 1 ≤ rm_H_found.cells → slots + 6 ≤ rm_H_found.slots → ga_W D T z L S I J s H locs → W p l e rm_H_found s m args below meth c H locs cells slots Q (F0 m pc ls rest)) → W p l e rm_H_found s m args below meth c s.heap [] 0 0 Q (F0 m 0 ls []) := by
    intro Q hret hthr hnew
    rw [f_H_found] at hF
    refine lv_aload_n hx hb d_H_found_0 rfl (lv_at hl 0 rfl) ?_
    refine lv_iload_n hx hb d_H_found_1 rfl (lv_at hl 1 rfl) ?_
    obtain ⟨t1, hF⟩ := gd_ex hF
    obtain ⟨e2, q3, c4, hF⟩ := bd2_ex hF
    refine ga_xVq (As := [.int p1]) C hw (c_H_questionOf l D T z L hl9 c4) gy_H_121 t1 rfl hl.1 ⟨Nat.le_of_ble_eq_true rfl, Nat.le_of_ble_eq_true rfl, Nat.le_of_ble_eq_true rfl, Nat.le_of_ble_eq_true rfl⟩ (Nat.le_of_ble_eq_true rfl) rfl d_H_found_2 (fun hne ce q9 H locs hw hce hcv hcl => ?_) (fun h0 H locs hw => ?_)
    · rw [if_neg hne] at hF
      exact hthr _ _ _ _ _ _ _ _ _ _ (Option.some.inj hF) hne (Nat.le_of_ble_eq_true rfl) (Nat.le_of_ble_eq_true rfl) hw hce hcv hcl
    · rw [if_pos h0] at hF
      obtain ⟨r5, er5, hG⟩ := ob_ex hF
      clear hF
      subst er5
      have hF := hG
      refine lv_astore_n hx hb d_H_found_5 rfl hl (by decide) rfl (fun ls hl => ?_)
      have hl : lv_has ls 4 [(3, .ref r5), (0, .ref p0), (1, .int p1), (2, .int p2)] := hl
      refine lv_aload_n hx hb d_H_found_6 rfl (lv_at hl 0 rfl) ?_
      obtain ⟨e6, c7, hF⟩ := ob_ex hF
      refine ga_xSv (As := [.ref r5]) C hw (c_H_needAnswered l D T z L hl9 c7) gs_H_153 rfl hl.1 ⟨Nat.le_of_ble_eq_true rfl, Nat.le_of_ble_eq_true rfl, Nat.le_of_ble_eq_true rfl, Nat.le_of_ble_eq_true rfl⟩ (Nat.le_of_ble_eq_true rfl) rfl d_H_found_7 (fun hne ce q9 H locs hw hce hcv hcl => ?_) (fun h0 H locs hw => ?_)
      · rw [if_neg hne] at hF
        exact hthr _ _ _ _ _ _ _ _ _ _ (Option.some.inj hF) hne (Nat.le_of_ble_eq_true rfl) (Nat.le_of_ble_eq_true rfl) hw hce hcv hcl
      · rw [if_pos h0] at hF
        refine lv_aload_n hx hb d_H_found_10 rfl (lv_at hl 0 rfl) ?_
        obtain ⟨t8, hF⟩ := gd_ex hF
        obtain ⟨x9, c10, hF⟩ := ob_ex hF
        refine ga_cVi (As := []) C hw (c_Question_hasTwoRanks l D T z L c10) gy_H_160 t8 rfl hl.1 ⟨Nat.le_of_ble_eq_true rfl, Nat.le_of_ble_eq_true rfl, rfl, rfl, Nat.le_of_ble_eq_true rfl, Nat.le_of_ble_eq_true rfl⟩ (Nat.le_of_ble_eq_true rfl) rfl d_H_found_11 (fun H locs hw => ?_)
        by_cases h11 : x9 = 0
        · rw [if_pos h11] at hF
          refine lv_if_ne (tgt := 27) hx hb d_H_found_14 (by decide) (fun hn => absurd h11 hn) (fun _ => ?_)
          exact hnew _ _ _ _ _ _ _ _ (Option.some.inj hF) gt_H_found_17 hl.1 (Nat.le_of_ble_eq_true rfl) (Nat.le_of_ble_eq_true rfl) (Nat.le_of_ble_eq_true rfl) hw
        · rw [if_neg h11] at hF
          refine lv_if_ne (tgt := 27) hx hb d_H_found_14 (by decide) (fun _ => ?_) (fun hp => absurd hp h11)
          refine lv_iload_n hx hb d_H_found_27 rfl (lv_at hl 3 rfl) ?_
          by_cases h12 : p2 = 0
          · rw [if_pos h12] at hF
            refine lv_if_eq (tgt := 38) hx hb d_H_found_28 (by decide) (fun _ => ?_) (fun hn => absurd h12 hn)
            refine lv_aload_n hx hb d_H_found_38 rfl (lv_at hl 0 rfl) ?_
            refine ga_getI C hw gf_H_168 t8 d_H_found_39 ?_
            refine W.widen (k := 2) (n := 12) (Nat.le_of_ble_eq_true rfl) (Nat.le_of_ble_eq_true rfl) ?_
            exact m_H_found_b42 hl9 hret hthr hnew C _ hF _ _ _ (lv_sub hl [] rfl) hw
          · rw [if_neg h12] at hF
            refine lv_if_eq (tgt := 38) hx hb d_H_found_28 (by decide) (fun hp => absurd hp h12) (fun _ => ?_)
            refine lv_aload_n hx hb d_H_found_31 rfl (lv_at hl 0 rfl) ?_
            refine ga_getI C hw gf_H_165 t8 d_H_found_32 ?_
            refine lv_goto (tgt := 42) hx hb d_H_found_35 (by decide) ?_
            refine W.widen (k := 2) (n := 12) (Nat.le_of_ble_eq_true rfl) (Nat.le_of_ble_eq_true rfl) ?_
            exact m_H_found_b42 hl9 hret hthr hnew C _ hF _ _ _ (lv_sub hl [] rfl) hw
  refine key _ (fun pc cells slots ls H locs x he hd hc hs hw => ?_) (fun pc ey cells slots ls rest H locs ce q9 he hne hc hs hw hce hcv hcl => ?_) (fun pc ey cells slots ls rest H locs he ht hsz hre hc hs hw => ?_)
  · cases he
    exact W.widen hc hs (vx_ret (W.iret hx hb hr (fun t ht _ => ⟨⟨_, (), rfl, ⟨rfl, rfl⟩, ga_o hw ht⟩, hw.2.2.2.1.F ht⟩) hw.2.2.2.1.2.2 hd))
  · cases he
    exact vx_out (fun x hx => (hno x hx).elim) hlocks hce hcv hcl (fun t ht _ => ⟨(), hne, ⟨rfl, ga_o hw ht⟩, hw.2.2.2.1.F ht⟩) hw.2.2.2.1.2.2 hc hs
  · cases he
    exact ga_throw C hl9 hno hlocks hw ht hsz hre (Nat.le_of_ble_eq_true rfl) (Nat.le_of_ble_eq_true rfl) hc hs
set_option maxHeartbeats 4000000 in
set_option maxRecDepth 100000 in
theorem m_H_about_b100 {I : gMI} {J : gMJ} {zz : Nat × Int32} (hl9 : l.stackTraces = false) (hret : ∀ (pc cells slots : Nat) (ls : Array Slot) (H : Heap) (locs : List Loc) (x : Int32), (0, x) = zz → decode prog_1_method_19_code pc = .ok (.ireturn, 1) → cells ≤ rm_H_about.cells → slots ≤ rm_H_about.slots → ga_W D T z L S I J s H locs → W p l e rm_H_about s m args below meth c H locs cells slots Q (F0 m pc ls [.int x])) (hthr : ∀ (pc ey cells slots : Nat) (ls : Array Slot) (rest : List Value) (H : Heap) (locs : List Loc) (ce : Cell) (q9 : Addr), (ey, 0) = zz → ¬ ey = 0 → cells ≤ rm_H_about.cells → slots ≤ rm_H_about.slots → ga_W D T z L S I J s H locs → H[q9]? = some ce → ce.vm = .none → s.vm.findClass (ga_ex ey) = some ce.cls → vx_W p l e rm_H_about s m args below meth c H locs cells slots Q (F0 m pc ls rest) q9) (hnew : ∀ (pc ey cells slots : Nat) (ls : Array Slot) (rest : List Value) (H : Heap) (locs : List Loc), (ey, 0) = zz → ga_TH "RankHouse" prog_1_method_19_code pc ey → ls.size = 4 → (rest.map fun v => v.category).sum ≤ 8 → cells + 1 ≤ rm_H_about.cells → slots + 6 ≤ rm_H_about.slots → ga_W D T z L S I J s H locs → W p l e rm_H_about s m args below meth c H locs cells slots Q (F0 m pc ls rest)) (C : CallFix p m c prog_1_method_19_code 4 s args ga_ws "RankHouse") : ∀ (s0 : Int32), f_H_about_b100 S I J s0 = some zz → ∀ (ls : Array Slot) (H : Heap) (locs : List Loc), lv_has ls 4 [] → ga_W D T z L S I J s H locs → W p l e rm_H_about s m args below meth c H locs 1 6 Q (F0 m 100 ls [.int s0]) := by
  intro s0 hF ls H locs hl hw
  have hx := C.1
  have hb := C.2.1
  rw [f_H_about_b100] at hF
  exact hret _ _ _ _ _ _ _ (Option.some.inj hF) d_H_about_100 (Nat.le_of_ble_eq_true rfl) (Nat.le_of_ble_eq_true rfl) hw
set_option maxHeartbeats 4000000 in
set_option maxRecDepth 100000 in
theorem m_H_about_b119 {I : gMI} {J : gMJ} {zz : Nat × Int32} (hl9 : l.stackTraces = false) (hret : ∀ (pc cells slots : Nat) (ls : Array Slot) (H : Heap) (locs : List Loc) (x : Int32), (0, x) = zz → decode prog_1_method_19_code pc = .ok (.ireturn, 1) → cells ≤ rm_H_about.cells → slots ≤ rm_H_about.slots → ga_W D T z L S I J s H locs → W p l e rm_H_about s m args below meth c H locs cells slots Q (F0 m pc ls [.int x])) (hthr : ∀ (pc ey cells slots : Nat) (ls : Array Slot) (rest : List Value) (H : Heap) (locs : List Loc) (ce : Cell) (q9 : Addr), (ey, 0) = zz → ¬ ey = 0 → cells ≤ rm_H_about.cells → slots ≤ rm_H_about.slots → ga_W D T z L S I J s H locs → H[q9]? = some ce → ce.vm = .none → s.vm.findClass (ga_ex ey) = some ce.cls → vx_W p l e rm_H_about s m args below meth c H locs cells slots Q (F0 m pc ls rest) q9) (hnew : ∀ (pc ey cells slots : Nat) (ls : Array Slot) (rest : List Value) (H : Heap) (locs : List Loc), (ey, 0) = zz → ga_TH "RankHouse" prog_1_method_19_code pc ey → ls.size = 4 → (rest.map fun v => v.category).sum ≤ 8 → cells + 1 ≤ rm_H_about.cells → slots + 6 ≤ rm_H_about.slots → ga_W D T z L S I J s H locs → W p l e rm_H_about s m args below meth c H locs cells slots Q (F0 m pc ls rest)) (C : CallFix p m c prog_1_method_19_code 4 s args ga_ws "RankHouse") : ∀ (s0 : Int32), f_H_about_b119 S I J s0 = some zz → ∀ (ls : Array Slot) (H : Heap) (locs : List Loc), lv_has ls 4 [] → ga_W D T z L S I J s H locs → W p l e rm_H_about s m args below meth c H locs 1 6 Q (F0 m 119 ls [.int s0]) := by
  intro s0 hF ls H locs hl hw
  have hx := C.1
  have hb := C.2.1
  rw [f_H_about_b119] at hF
  exact hret _ _ _ _ _ _ _ (Option.some.inj hF) d_H_about_119 (Nat.le_of_ble_eq_true rfl) (Nat.le_of_ble_eq_true rfl) hw
set_option maxHeartbeats 4000000 in
set_option maxRecDepth 100000 in
theorem c_H_about (l : Launch) (D : va_G) (T : Nat → ClassId) (z : Nat) (L : List Nat) {S : gS} {I : gMI} {J : gMJ} {p0 : Nat} {p1 : Int32} {p2 : Int32} {ex : Nat} {r : Int32} (hl9 : l.stackTraces = false) (hF : f_H_about S I J p0 p1 p2 = some (ex, r)) : ga_Xi l y_H_about prog_1_method_19_code 4 (Option.some Jvm.ClassFile.FieldType.int) rm_H_about [.ref p0, .int p1, .int p2] D T z L S I J ex r I J := by
  refine vx_ofW (cc := prog_1_method_19_code) (maxL := 4) (ret := (Option.some Jvm.ClassFile.FieldType.int)) (by decide) rfl ?_
  intro p e s m args below meth c s₁ B hml hno hv
  obtain ⟨ha, hv⟩ := hv
  have hx := B.exec
  have hb := B.bytes
  have hr := B.returns
  have hts := atoms_spec (ws := .code y_H_about prog_1_method_19_code 4 (Option.some Jvm.ClassFile.FieldType.int) :: ga_ws) B.pre
  have hown : s.vm.findClass "RankHouse" = some m.cls := findClass_of_methodNamed B.named
  have hlocks := B.notSynchronized
  have C : CallFix p m c prog_1_method_19_code 4 s args ga_ws "RankHouse" := ⟨hx, hb, hml, hown, fun w h => hts w (List.mem_cons_of_mem _ h)⟩
  have hw := ga_start hv
  have hl := lv_entry ([.ref p0, .int p1, .int p2]) (n := 4) (Nat.le_of_ble_eq_true rfl)
  rw [show entryFrame m args 4 = entryFrame m ([.ref p0, .int p1, .int p2] : List Value).toArray 4 by rw [ha], lg_entry_eq]
  generalize (lg_sl ([.ref p0, .int p1, .int p2]) ++ List.replicate (4 - (lg_sl ([.ref p0, .int p1, .int p2])).length) Slot.unset).toArray = ls at hl ⊢
  have hl : lv_has ls 4 [(0, .ref p0), (1, .int p1), (2, .int p2)] := hl
  have key : ∀ Q : State → Prop, (∀ (pc cells slots : Nat) (ls : Array Slot) (H : Heap) (locs : List Loc) (x : Int32), (0, x) = (ex, r) → decode prog_1_method_19_code pc = .ok (.ireturn, 1) → cells ≤ rm_H_about.cells → slots ≤ rm_H_about.slots → ga_W D T z L S I J s H locs → W p l e rm_H_about s m args below meth c H locs cells slots Q (F0 m pc ls [.int x])) → (∀ (pc ey cells slots : Nat) (ls : Array Slot) (rest : List Value) (H : Heap) (locs : List Loc) (ce : Cell) (q9 : Addr), (ey, 0) = (ex, r) → ¬ ey = 0 → cells ≤ rm_H_about.cells → slots ≤ rm_H_about.slots → ga_W D T z L S I J s H locs → H[q9]? = some ce → ce.vm = .none → s.vm.findClass (ga_ex ey) = some ce.cls → vx_W p l e rm_H_about s m args below meth c H locs cells slots Q (F0 m pc ls rest) q9) → (∀ (pc ey cells slots : Nat) (ls : Array Slot) (rest : List Value) (H : Heap) (locs : List Loc), (ey, 0) = (ex, r) → ga_TH "RankHouse" prog_1_method_19_code pc ey → ls.size = 4 → (rest.map fun v => v.category).sum ≤ 8 → cells + 1 ≤ rm_H_about.cells → slots + 6 ≤ rm_H_about.slots → ga_W D T z L S I J s H locs → W p l e rm_H_about s m args below meth c H locs cells slots Q (F0 m pc ls rest)) → W p l e rm_H_about s m args below meth c s.heap [] 0 0 Q (F0 m 0 ls []) := by
    intro Q hret hthr hnew
    rw [f_H_about] at hF
    refine lv_aload_n hx hb d_H_about_0 rfl (lv_at hl 0 rfl) ?_
    refine lv_iload_n hx hb d_H_about_1 rfl (lv_at hl 1 rfl) ?_
    obtain ⟨t1, hF⟩ := gd_ex hF
    obtain ⟨e2, q3, c4, hF⟩ := bd2_ex hF
    refine ga_xVq (As := [.int p1]) C hw (c_H_questionOf l D T z L hl9 c4) gy_H_121 t1 rfl hl.1 ⟨Nat.le_of_ble_eq_true rfl, Nat.le_of_ble_eq_true rfl, Nat.le_of_ble_eq_true rfl, Nat.le_of_ble_eq_true rfl⟩ (Nat.le_of_ble_eq_true rfl) rfl d_H_about_2 (fun hne ce q9 H locs hw hce hcv hcl => ?_) (fun h0 H locs hw => ?_)
    · rw [if_neg hne] at hF
      exact hthr _ _ _ _ _ _ _ _ _ _ (Option.some.inj hF) hne (Nat.le_of_ble_eq_true rfl) (Nat.le_of_ble_eq_true rfl) hw hce hcv hcl
    · rw [if_pos h0] at hF
      obtain ⟨r5, er5, hG⟩ := ob_ex hF
      clear hF
      subst er5
      have hF := hG
      refine lv_astore_n hx hb d_H_about_5 rfl hl (by decide) rfl (fun ls hl => ?_)
      have hl : lv_has ls 4 [(3, .ref r5), (0, .ref p0), (1, .int p1), (2, .int p2)] := hl
      refine lv_iload_n hx hb d_H_about_6 rfl (lv_at hl 3 rfl) ?_
      by_cases h6 : p2 = (0 : Int32)
      · rw [if_pos h6] at hF
        refine lv_tableIn (tgt := 52) hx hb d_H_about_7 (by rw [h6]; decide) (by rw [h6]; decide) (by rw [h6]; rfl) (by decide) ?_
        refine lv_aload_n hx hb d_H_about_52 rfl (lv_at hl 0 rfl) ?_
        obtain ⟨t7, hF⟩ := gd_ex hF
        refine ga_getI C hw gf_H_150 t7 d_H_about_53 ?_
        exact hret _ _ _ _ _ _ _ (Option.some.inj hF) d_H_about_56 (Nat.le_of_ble_eq_true rfl) (Nat.le_of_ble_eq_true rfl) hw
      · rw [if_neg h6] at hF
        by_cases h8 : p2 = (1 : Int32)
        · rw [if_pos h8] at hF
          refine lv_tableIn (tgt := 57) hx hb d_H_about_7 (by rw [h8]; decide) (by rw [h8]; decide) (by rw [h8]; rfl) (by decide) ?_
          refine lv_aload_n hx hb d_H_about_57 rfl (lv_at hl 0 rfl) ?_
          obtain ⟨t9, hF⟩ := gd_ex hF
          refine ga_getI C hw gf_H_139 t9 d_H_about_58 ?_
          exact hret _ _ _ _ _ _ _ (Option.some.inj hF) d_H_about_61 (Nat.le_of_ble_eq_true rfl) (Nat.le_of_ble_eq_true rfl) hw
        · rw [if_neg h8] at hF
          by_cases h10 : p2 = (2 : Int32)
          · rw [if_pos h10] at hF
            refine lv_tableIn (tgt := 62) hx hb d_H_about_7 (by rw [h10]; decide) (by rw [h10]; decide) (by rw [h10]; rfl) (by decide) ?_
            refine lv_aload_n hx hb d_H_about_62 rfl (lv_at hl 0 rfl) ?_
            obtain ⟨t11, hF⟩ := gd_ex hF
            refine ga_getI C hw gf_H_171 t11 d_H_about_63 ?_
            exact hret _ _ _ _ _ _ _ (Option.some.inj hF) d_H_about_66 (Nat.le_of_ble_eq_true rfl) (Nat.le_of_ble_eq_true rfl) hw
          · rw [if_neg h10] at hF
            by_cases h12 : p2 = (3 : Int32)
            · rw [if_pos h12] at hF
              refine lv_tableIn (tgt := 67) hx hb d_H_about_7 (by rw [h12]; decide) (by rw [h12]; decide) (by rw [h12]; rfl) (by decide) ?_
              refine lv_aload_n hx hb d_H_about_67 rfl (lv_at hl 0 rfl) ?_
              obtain ⟨t13, hF⟩ := gd_ex hF
              refine ga_getI C hw gf_H_174 t13 d_H_about_68 ?_
              exact hret _ _ _ _ _ _ _ (Option.some.inj hF) d_H_about_71 (Nat.le_of_ble_eq_true rfl) (Nat.le_of_ble_eq_true rfl) hw
            · rw [if_neg h12] at hF
              by_cases h14 : p2 = (4 : Int32)
              · rw [if_pos h14] at hF
                refine lv_tableIn (tgt := 72) hx hb d_H_about_7 (by rw [h14]; decide) (by rw [h14]; decide) (by rw [h14]; rfl) (by decide) ?_
                refine lv_aload_n hx hb d_H_about_72 rfl (lv_at hl 0 rfl) ?_
                obtain ⟨t15, hF⟩ := gd_ex hF
                refine ga_getI C hw gf_H_177 t15 d_H_about_73 ?_
                exact hret _ _ _ _ _ _ _ (Option.some.inj hF) d_H_about_76 (Nat.le_of_ble_eq_true rfl) (Nat.le_of_ble_eq_true rfl) hw
              · rw [if_neg h14] at hF
                by_cases h16 : p2 = (5 : Int32)
                · rw [if_pos h16] at hF
                  refine lv_tableIn (tgt := 77) hx hb d_H_about_7 (by rw [h16]; decide) (by rw [h16]; decide) (by rw [h16]; rfl) (by decide) ?_
                  refine lv_aload_n hx hb d_H_about_77 rfl (lv_at hl 0 rfl) ?_
                  obtain ⟨t17, hF⟩ := gd_ex hF
                  obtain ⟨r18, hr18, hF⟩ := ob_ex hF
                  refine ga_getR C hw gf_H_180 t17 hr18 d_H_about_78 ?_
                  obtain ⟨t19, hF⟩ := gd_ex hF
                  refine ga_getI C hw gf_H_184 t19 d_H_about_81 ?_
                  exact hret _ _ _ _ _ _ _ (Option.some.inj hF) d_H_about_84 (Nat.le_of_ble_eq_true rfl) (Nat.le_of_ble_eq_true rfl) hw
                · rw [if_neg h16] at hF
                  by_cases h20 : p2 = (6 : Int32)
                  · rw [if_pos h20] at hF
                    refine lv_tableIn (tgt := 85) hx hb d_H_about_7 (by rw [h20]; decide) (by rw [h20]; decide) (by rw [h20]; rfl) (by decide) ?_
                    refine lv_aload_n hx hb d_H_about_85 rfl (lv_at hl 0 rfl) ?_
                    obtain ⟨t21, hF⟩ := gd_ex hF
                    refine ga_getI C hw gf_H_125 t21 d_H_about_86 ?_
                    by_cases h22 : (I r5 14) = 0
                    · rw [if_pos h22] at hF
                      refine lv_if_ne (tgt := 99) hx hb d_H_about_89 (by decide) (fun hn => absurd h22 hn) (fun _ => ?_)
                      refine lv_aload_n hx hb d_H_about_92 rfl (lv_at hl 0 rfl) ?_
                      refine ga_getI C hw gf_H_189 t21 d_H_about_93 ?_
                      refine lv_goto (tgt := 100) hx hb d_H_about_96 (by decide) ?_
                      refine W.widen (k := 1) (n := 6) (Nat.le_of_ble_eq_true rfl) (Nat.le_of_ble_eq_true rfl) ?_
                      exact m_H_about_b100 hl9 hret hthr hnew C _ hF _ _ _ (lv_sub hl [] rfl) hw
                    · rw [if_neg h22] at hF
                      refine lv_if_ne (tgt := 99) hx hb d_H_about_89 (by decide) (fun _ => ?_) (fun hp => absurd hp h22)
                      refine lv_iconst (v := 0) hx hb d_H_about_99 (by decide) ?_
                      refine W.widen (k := 1) (n := 6) (Nat.le_of_ble_eq_true rfl) (Nat.le_of_ble_eq_true rfl) ?_
                      exact m_H_about_b100 hl9 hret hthr hnew C _ hF _ _ _ (lv_sub hl [] rfl) hw
                  · rw [if_neg h20] at hF
                    by_cases h23 : p2 = (7 : Int32)
                    · rw [if_pos h23] at hF
                      refine lv_tableIn (tgt := 101) hx hb d_H_about_7 (by rw [h23]; decide) (by rw [h23]; decide) (by rw [h23]; rfl) (by decide) ?_
                      refine lv_aload_n hx hb d_H_about_101 rfl (lv_at hl 0 rfl) ?_
                      obtain ⟨t24, hF⟩ := gd_ex hF
                      refine ga_getI C hw gf_H_125 t24 d_H_about_102 ?_
                      by_cases h25 : (I r5 14) = 0
                      · rw [if_pos h25] at hF
                        refine lv_if_ne (tgt := 118) hx hb d_H_about_105 (by decide) (fun hn => absurd h25 hn) (fun _ => ?_)
                        refine lv_aload_n hx hb d_H_about_108 rfl (lv_at hl 0 rfl) ?_
                        obtain ⟨r26, hr26, hF⟩ := ob_ex hF
                        refine ga_getR C hw gf_H_192 t24 hr26 d_H_about_109 ?_
                        obtain ⟨t27, hF⟩ := gd_ex hF
                        refine ga_getI C hw gf_H_196 t27 d_H_about_112 ?_
                        refine lv_goto (tgt := 119) hx hb d_H_about_115 (by decide) ?_
                        refine W.widen (k := 1) (n := 6) (Nat.le_of_ble_eq_true rfl) (Nat.le_of_ble_eq_true rfl) ?_
                        exact m_H_about_b119 hl9 hret hthr hnew C _ hF _ _ _ (lv_sub hl [] rfl) hw
                      · rw [if_neg h25] at hF
                        refine lv_if_ne (tgt := 118) hx hb d_H_about_105 (by decide) (fun _ => ?_) (fun hp => absurd hp h25)
                        refine lv_iconst (v := 0) hx hb d_H_about_118 (by decide) ?_
                        refine W.widen (k := 1) (n := 6) (Nat.le_of_ble_eq_true rfl) (Nat.le_of_ble_eq_true rfl) ?_
                        exact m_H_about_b119 hl9 hret hthr hnew C _ hF _ _ _ (lv_sub hl [] rfl) hw
                    · rw [if_neg h23] at hF
                      refine lv_tableOut (tgt := 120) hx hb d_H_about_7 (ga_out0_7 h6 h8 h10 h12 h14 h16 h20 h23) (by decide) ?_
                      exact hnew _ _ _ _ _ _ _ _ (Option.some.inj hF) gt_H_about_120 hl.1 (Nat.le_of_ble_eq_true rfl) (Nat.le_of_ble_eq_true rfl) (Nat.le_of_ble_eq_true rfl) hw
  refine key _ (fun pc cells slots ls H locs x he hd hc hs hw => ?_) (fun pc ey cells slots ls rest H locs ce q9 he hne hc hs hw hce hcv hcl => ?_) (fun pc ey cells slots ls rest H locs he ht hsz hre hc hs hw => ?_)
  · cases he
    exact W.widen hc hs (vx_ret (W.iret hx hb hr (fun t ht _ => ⟨⟨_, (), rfl, ⟨rfl, rfl⟩, ga_o hw ht⟩, hw.2.2.2.1.F ht⟩) hw.2.2.2.1.2.2 hd))
  · cases he
    exact vx_out (fun x hx => (hno x hx).elim) hlocks hce hcv hcl (fun t ht _ => ⟨(), hne, ⟨rfl, ga_o hw ht⟩, hw.2.2.2.1.F ht⟩) hw.2.2.2.1.2.2 hc hs
  · cases he
    exact ga_throw C hl9 hno hlocks hw ht hsz hre (Nat.le_of_ble_eq_true rfl) (Nat.le_of_ble_eq_true rfl) hc hs
set_option maxHeartbeats 4000000 in
set_option maxRecDepth 100000 in
theorem c_H_mark (l : Launch) (D : va_G) (T : Nat → ClassId) (z : Nat) (L : List Nat) {S : gS} {I : gMI} {J : gMJ} {p0 : Nat} {p1 : Int32} {p2 : Int32} {ex : Nat} {r : Int32} (hl9 : l.stackTraces = false) (hF : f_H_mark S I J p0 p1 p2 = some (ex, r)) : ga_Xi l y_H_mark prog_1_method_20_code 3 (Option.some Jvm.ClassFile.FieldType.int) rm_H_mark [.ref p0, .int p1, .int p2] D T z L S I J ex r I J := by
  refine vx_ofW (cc := prog_1_method_20_code) (maxL := 3) (ret := (Option.some Jvm.ClassFile.FieldType.int)) (by decide) rfl ?_
  intro p e s m args below meth c s₁ B hml hno hv
  obtain ⟨ha, hv⟩ := hv
  have hx := B.exec
  have hb := B.bytes
  have hr := B.returns
  have hts := atoms_spec (ws := .code y_H_mark prog_1_method_20_code 3 (Option.some Jvm.ClassFile.FieldType.int) :: ga_ws) B.pre
  have hown : s.vm.findClass "RankHouse" = some m.cls := findClass_of_methodNamed B.named
  have hlocks := B.notSynchronized
  have C : CallFix p m c prog_1_method_20_code 3 s args ga_ws "RankHouse" := ⟨hx, hb, hml, hown, fun w h => hts w (List.mem_cons_of_mem _ h)⟩
  have hw := ga_start hv
  have hl := lv_entry ([.ref p0, .int p1, .int p2]) (n := 3) (Nat.le_of_ble_eq_true rfl)
  rw [show entryFrame m args 3 = entryFrame m ([.ref p0, .int p1, .int p2] : List Value).toArray 3 by rw [ha], lg_entry_eq]
  generalize (lg_sl ([.ref p0, .int p1, .int p2]) ++ List.replicate (3 - (lg_sl ([.ref p0, .int p1, .int p2])).length) Slot.unset).toArray = ls at hl ⊢
  have hl : lv_has ls 3 [(0, .ref p0), (1, .int p1), (2, .int p2)] := hl
  have key : ∀ Q : State → Prop, (∀ (pc cells slots : Nat) (ls : Array Slot) (H : Heap) (locs : List Loc) (x : Int32), (0, x) = (ex, r) → decode prog_1_method_20_code pc = .ok (.ireturn, 1) → cells ≤ rm_H_mark.cells → slots ≤ rm_H_mark.slots → ga_W D T z L S I J s H locs → W p l e rm_H_mark s m args below meth c H locs cells slots Q (F0 m pc ls [.int x])) → (∀ (pc ey cells slots : Nat) (ls : Array Slot) (rest : List Value) (H : Heap) (locs : List Loc) (ce : Cell) (q9 : Addr), (ey, 0) = (ex, r) → ¬ ey = 0 → cells ≤ rm_H_mark.cells → slots ≤ rm_H_mark.slots → ga_W D T z L S I J s H locs → H[q9]? = some ce → ce.vm = .none → s.vm.findClass (ga_ex ey) = some ce.cls → vx_W p l e rm_H_mark s m args below meth c H locs cells slots Q (F0 m pc ls rest) q9) → W p l e rm_H_mark s m args below meth c s.heap [] 0 0 Q (F0 m 0 ls []) := by
    intro Q hret hthr
    rw [f_H_mark] at hF
    refine lv_iload_n hx hb d_H_mark_0 rfl (lv_at hl 1 rfl) ?_
    obtain ⟨e1, c2, hF⟩ := ob_ex hF
    refine ga_xSv (As := [.int p1]) C hw (c_H_needLogger l D T z L hl9 c2) gs_H_203 rfl hl.1 ⟨Nat.le_of_ble_eq_true rfl, Nat.le_of_ble_eq_true rfl, Nat.le_of_ble_eq_true rfl, Nat.le_of_ble_eq_true rfl⟩ (Nat.le_of_ble_eq_true rfl) rfl d_H_mark_1 (fun hne ce q9 H locs hw hce hcv hcl => ?_) (fun h0 H locs hw => ?_)
    · rw [if_neg hne] at hF
      exact hthr _ _ _ _ _ _ _ _ _ _ (Option.some.inj hF) hne (Nat.le_of_ble_eq_true rfl) (Nat.le_of_ble_eq_true rfl) hw hce hcv hcl
    · rw [if_pos h0] at hF
      refine lv_aload_n hx hb d_H_mark_4 rfl (lv_at hl 0 rfl) ?_
      refine lv_iload_n hx hb d_H_mark_5 rfl (lv_at hl 2 rfl) ?_
      obtain ⟨t3, hF⟩ := gd_ex hF
      obtain ⟨e4, q5, c6, hF⟩ := bd2_ex hF
      refine ga_xVq (As := [.int p2]) C hw (c_H_questionOf l D T z L hl9 c6) gy_H_121 t3 rfl hl.1 ⟨Nat.le_of_ble_eq_true rfl, Nat.le_of_ble_eq_true rfl, Nat.le_of_ble_eq_true rfl, Nat.le_of_ble_eq_true rfl⟩ (Nat.le_of_ble_eq_true rfl) rfl d_H_mark_6 (fun hne ce q9 H locs hw hce hcv hcl => ?_) (fun h0 H locs hw => ?_)
      · rw [if_neg hne] at hF
        exact hthr _ _ _ _ _ _ _ _ _ _ (Option.some.inj hF) hne (Nat.le_of_ble_eq_true rfl) (Nat.le_of_ble_eq_true rfl) hw hce hcv hcl
      · rw [if_pos h0] at hF
        obtain ⟨r7, er7, hG⟩ := ob_ex hF
        clear hF
        subst er7
        have hF := hG
        obtain ⟨t8, hF⟩ := gd_ex hF
        obtain ⟨r9, hr9, hF⟩ := ob_ex hF
        refine ga_getR C hw gf_H_206 t8 hr9 d_H_mark_9 ?_
        refine lv_iload_n hx hb d_H_mark_12 rfl (lv_at hl 1 rfl) ?_
        obtain ⟨t10, hF⟩ := gd_ex hF
        obtain ⟨b11, hF⟩ := gd_ex hF
        refine ga_iald C hw t10 b11 d_H_mark_13 ?_
        exact hret _ _ _ _ _ _ _ (Option.some.inj hF) d_H_mark_14 (Nat.le_of_ble_eq_true rfl) (Nat.le_of_ble_eq_true rfl) hw
  refine key _ (fun pc cells slots ls H locs x he hd hc hs hw => ?_) (fun pc ey cells slots ls rest H locs ce q9 he hne hc hs hw hce hcv hcl => ?_)
  · cases he
    exact W.widen hc hs (vx_ret (W.iret hx hb hr (fun t ht _ => ⟨⟨_, (), rfl, ⟨rfl, rfl⟩, ga_o hw ht⟩, hw.2.2.2.1.F ht⟩) hw.2.2.2.1.2.2 hd))
  · cases he
    exact vx_out (fun x hx => (hno x hx).elim) hlocks hce hcv hcl (fun t ht _ => ⟨(), hne, ⟨rfl, ga_o hw ht⟩, hw.2.2.2.1.F ht⟩) hw.2.2.2.1.2.2 hc hs
set_option maxHeartbeats 4000000 in
set_option maxRecDepth 100000 in
theorem m_H_forget_b51 {J : gMJ} {zz : Nat × Int32 × gMI} (hl9 : l.stackTraces = false) (hret : ∀ (pc cells slots : Nat) (ls : Array Slot) (H : Heap) (locs : List Loc) (x : Int32) (I1 : gMI), (0, x, I1) = zz → decode prog_1_method_21_code pc = .ok (.ireturn, 1) → cells ≤ rm_H_forget.cells → slots ≤ rm_H_forget.slots → ga_W D T z L S I1 J s H locs → W p l e rm_H_forget s m args below meth c H locs cells slots Q (F0 m pc ls [.int x])) (hthr : ∀ (pc ey cells slots : Nat) (ls : Array Slot) (rest : List Value) (H : Heap) (locs : List Loc) (ce : Cell) (q9 : Addr) (I1 : gMI), (ey, 0, I1) = zz → ¬ ey = 0 → cells ≤ rm_H_forget.cells → slots ≤ rm_H_forget.slots → ga_W D T z L S I1 J s H locs → H[q9]? = some ce → ce.vm = .none → s.vm.findClass (ga_ex ey) = some ce.cls → vx_W p l e rm_H_forget s m args below meth c H locs cells slots Q (F0 m pc ls rest) q9) (C : CallFix p m c prog_1_method_21_code 4 s args ga_ws "RankHouse") (k21 : gMI → Nat → Int32 → Int32 → Option (Nat × Int32 × gMI)) (hk21 : ∀ (I : gMI) (l0 : Nat) (l2 : Int32) (l3 : Int32), k21 I l0 l2 l3 = some zz → ∀ (ls : Array Slot) (H : Heap) (locs : List Loc), lv_has ls 4 [(0, .ref l0), (2, .int l2), (3, .int l3)] → ga_W D T z L S I J s H locs → W p l e rm_H_forget s m args below meth c H locs 1 6 Q (F0 m 21 ls [])) : ∀ (I : gMI) (l0 : Nat) (l2 : Int32) (l3 : Int32), f_H_forget_b51 S J k21 I l0 l2 l3 = some zz → ∀ (ls : Array Slot) (H : Heap) (locs : List Loc), lv_has ls 4 [(0, .ref l0), (2, .int l2), (3, .int l3)] → ga_W D T z L S I J s H locs → W p l e rm_H_forget s m args below meth c H locs 1 6 Q (F0 m 51 ls []) := by
  intro I l0 l2 l3 hF ls H locs hl hw
  have hx := C.1
  have hb := C.2.1
  rw [f_H_forget_b51] at hF
  obtain ⟨v1, ev1, hF⟩ := bnd_ex hF
  refine lv_iinc (k := 2) (v := v1) hx hb d_H_forget_51 hl rfl (by rw [ev1]; rfl) (by decide) rfl (fun ls hl => ?_)
  have hl : lv_has ls 4 [(3, .int v1), (0, .ref l0), (2, .int l2)] := hl
  refine lv_goto (tgt := 21) hx hb d_H_forget_54 (by decide) ?_
  exact hk21 _ _ _ _ hF _ _ _ (lv_sub hl [1, 2, 0] rfl) hw
set_option maxHeartbeats 4000000 in
set_option maxRecDepth 100000 in
theorem m_H_forget_b21 {J : gMJ} {zz : Nat × Int32 × gMI} (hl9 : l.stackTraces = false) (hret : ∀ (pc cells slots : Nat) (ls : Array Slot) (H : Heap) (locs : List Loc) (x : Int32) (I1 : gMI), (0, x, I1) = zz → decode prog_1_method_21_code pc = .ok (.ireturn, 1) → cells ≤ rm_H_forget.cells → slots ≤ rm_H_forget.slots → ga_W D T z L S I1 J s H locs → W p l e rm_H_forget s m args below meth c H locs cells slots Q (F0 m pc ls [.int x])) (hthr : ∀ (pc ey cells slots : Nat) (ls : Array Slot) (rest : List Value) (H : Heap) (locs : List Loc) (ce : Cell) (q9 : Addr) (I1 : gMI), (ey, 0, I1) = zz → ¬ ey = 0 → cells ≤ rm_H_forget.cells → slots ≤ rm_H_forget.slots → ga_W D T z L S I1 J s H locs → H[q9]? = some ce → ce.vm = .none → s.vm.findClass (ga_ex ey) = some ce.cls → vx_W p l e rm_H_forget s m args below meth c H locs cells slots Q (F0 m pc ls rest) q9) (C : CallFix p m c prog_1_method_21_code 4 s args ga_ws "RankHouse") : ∀ (n : Nat) (I : gMI) (l0 : Nat) (l2 : Int32) (l3 : Int32), f_H_forget_b21 S J n I l0 l2 l3 = some zz → ∀ (ls : Array Slot) (H : Heap) (locs : List Loc), lv_has ls 4 [(0, .ref l0), (2, .int l2), (3, .int l3)] → ga_W D T z L S I J s H locs → W p l e rm_H_forget s m args below meth c H locs 1 6 Q (F0 m 21 ls []) := by
  intro n
  induction n with
  | zero =>
    intro I l0 l2 l3 hF ls H locs hl hw
    rw [f_H_forget_b21] at hF
    cases hF
  | succ n ih =>
    intro I l0 l2 l3 hF ls H locs hl hw
    have hx := C.1
    have hb := C.2.1
    rw [f_H_forget_b21] at hF
    refine lv_iload_n hx hb d_H_forget_21 rfl (lv_at hl 2 rfl) ?_
    refine lv_bipush (v := 8) hx hb d_H_forget_22 (by decide) ?_
    by_cases h1 : (8 : Int32) ≤ l3
    · rw [if_pos h1] at hF
      refine lv_icmp_ge (tgt := 57) hx hb d_H_forget_24 (by decide) (fun _ => ?_) (fun hn => absurd h1 hn)
      refine lv_iload_n hx hb d_H_forget_57 rfl (lv_at hl 1 rfl) ?_
      exact hret _ _ _ _ _ _ _ _ (Option.some.inj hF) d_H_forget_58 (Nat.le_of_ble_eq_true rfl) (Nat.le_of_ble_eq_true rfl) hw
    · rw [if_neg h1] at hF
      refine lv_icmp_ge (tgt := 57) hx hb d_H_forget_24 (by decide) (fun hp => absurd hp h1) (fun _ => ?_)
      refine lv_aload_n hx hb d_H_forget_27 rfl (lv_at hl 0 rfl) ?_
      obtain ⟨t2, hF⟩ := gd_ex hF
      obtain ⟨r3, hr3, hF⟩ := ob_ex hF
      refine ga_getR C hw gf_H_18 t2 hr3 d_H_forget_28 ?_
      refine lv_iload_n hx hb d_H_forget_31 rfl (lv_at hl 2 rfl) ?_
      obtain ⟨t4, hF⟩ := gd_ex hF
      obtain ⟨b5, hF⟩ := gd_ex hF
      rcases gm_ex hF with ⟨h7, hF⟩ | ⟨r6, h7, hF⟩
      · refine ga_rald C hw t4 (by decide) rfl rfl b5 h7 d_H_forget_32 ?_
        refine lv_ifnullN (tgt := 51) hx hb d_H_forget_33 (by decide) ?_
        refine W.widen (k := 1) (n := 6) (Nat.le_of_ble_eq_true rfl) (Nat.le_of_ble_eq_true rfl) ?_
        exact m_H_forget_b51 hl9 hret hthr C _ ih _ _ _ _ hF _ _ _ hl hw
      · refine ga_rald C hw t4 (by decide) rfl rfl b5 h7 d_H_forget_32 ?_
        refine lv_ifnull hx hb d_H_forget_33 ?_
        refine lv_aload_n hx hb d_H_forget_36 rfl (lv_at hl 0 rfl) ?_
        refine ga_getR C hw gf_H_18 t2 hr3 d_H_forget_37 ?_
        refine lv_iload_n hx hb d_H_forget_40 rfl (lv_at hl 2 rfl) ?_
        refine ga_rald C hw t4 (by decide) rfl rfl b5 h7 d_H_forget_41 ?_
        obtain ⟨t8, hF⟩ := gd_ex hF
        obtain ⟨x9, c10, hF⟩ := ob_ex hF
        refine ga_cVi (As := []) C hw (c_Question_isThere l D T z L c10) gy_H_146 t8 rfl hl.1 ⟨Nat.le_of_ble_eq_true rfl, Nat.le_of_ble_eq_true rfl, rfl, rfl, Nat.le_of_ble_eq_true rfl, Nat.le_of_ble_eq_true rfl⟩ (Nat.le_of_ble_eq_true rfl) rfl d_H_forget_42 (fun H locs hw => ?_)
        by_cases h11 : x9 = 0
        · rw [if_pos h11] at hF
          refine lv_if_eq (tgt := 51) hx hb d_H_forget_45 (by decide) (fun _ => ?_) (fun hn => absurd h11 hn)
          refine W.widen (k := 1) (n := 6) (Nat.le_of_ble_eq_true rfl) (Nat.le_of_ble_eq_true rfl) ?_
          exact m_H_forget_b51 hl9 hret hthr C _ ih _ _ _ _ hF _ _ _ hl hw
        · rw [if_neg h11] at hF
          refine lv_if_eq (tgt := 51) hx hb d_H_forget_45 (by decide) (fun hp => absurd hp h11) (fun _ => ?_)
          obtain ⟨v12, ev12, hF⟩ := bnd_ex hF
          refine lv_iinc (k := 1) (v := v12) hx hb d_H_forget_48 hl rfl (by rw [ev12]; rfl) (by decide) rfl (fun ls hl => ?_)
          have hl : lv_has ls 4 [(2, .int v12), (0, .ref l0), (3, .int l3)] := hl
          refine W.widen (k := 1) (n := 6) (Nat.le_of_ble_eq_true rfl) (Nat.le_of_ble_eq_true rfl) ?_
          exact m_H_forget_b51 hl9 hret hthr C _ ih _ _ _ _ hF _ _ _ (lv_sub hl [1, 0, 2] rfl) hw
set_option maxHeartbeats 4000000 in
set_option maxRecDepth 100000 in
theorem c_H_forget (l : Launch) (D : va_G) (T : Nat → ClassId) (z : Nat) (L : List Nat) {S : gS} {I : gMI} {J : gMJ} {p0 : Nat} {p1 : Int32} {ex : Nat} {r : Int32} {RI : gMI} (hl9 : l.stackTraces = false) (hF : f_H_forget S I J p0 p1 = some (ex, r, RI)) : ga_Xi l y_H_forget prog_1_method_21_code 4 (Option.some Jvm.ClassFile.FieldType.int) rm_H_forget [.ref p0, .int p1] D T z L S I J ex r RI J := by
  refine vx_ofW (cc := prog_1_method_21_code) (maxL := 4) (ret := (Option.some Jvm.ClassFile.FieldType.int)) (by decide) rfl ?_
  intro p e s m args below meth c s₁ B hml hno hv
  obtain ⟨ha, hv⟩ := hv
  have hx := B.exec
  have hb := B.bytes
  have hr := B.returns
  have hts := atoms_spec (ws := .code y_H_forget prog_1_method_21_code 4 (Option.some Jvm.ClassFile.FieldType.int) :: ga_ws) B.pre
  have hown : s.vm.findClass "RankHouse" = some m.cls := findClass_of_methodNamed B.named
  have hlocks := B.notSynchronized
  have C : CallFix p m c prog_1_method_21_code 4 s args ga_ws "RankHouse" := ⟨hx, hb, hml, hown, fun w h => hts w (List.mem_cons_of_mem _ h)⟩
  have hw := ga_start hv
  have hl := lv_entry ([.ref p0, .int p1]) (n := 4) (Nat.le_of_ble_eq_true rfl)
  rw [show entryFrame m args 4 = entryFrame m ([.ref p0, .int p1] : List Value).toArray 4 by rw [ha], lg_entry_eq]
  generalize (lg_sl ([.ref p0, .int p1]) ++ List.replicate (4 - (lg_sl ([.ref p0, .int p1])).length) Slot.unset).toArray = ls at hl ⊢
  have hl : lv_has ls 4 [(0, .ref p0), (1, .int p1)] := hl
  have key : ∀ Q : State → Prop, (∀ (pc cells slots : Nat) (ls : Array Slot) (H : Heap) (locs : List Loc) (x : Int32) (I1 : gMI), (0, x, I1) = (ex, r, RI) → decode prog_1_method_21_code pc = .ok (.ireturn, 1) → cells ≤ rm_H_forget.cells → slots ≤ rm_H_forget.slots → ga_W D T z L S I1 J s H locs → W p l e rm_H_forget s m args below meth c H locs cells slots Q (F0 m pc ls [.int x])) → (∀ (pc ey cells slots : Nat) (ls : Array Slot) (rest : List Value) (H : Heap) (locs : List Loc) (ce : Cell) (q9 : Addr) (I1 : gMI), (ey, 0, I1) = (ex, r, RI) → ¬ ey = 0 → cells ≤ rm_H_forget.cells → slots ≤ rm_H_forget.slots → ga_W D T z L S I1 J s H locs → H[q9]? = some ce → ce.vm = .none → s.vm.findClass (ga_ex ey) = some ce.cls → vx_W p l e rm_H_forget s m args below meth c H locs cells slots Q (F0 m pc ls rest) q9) → W p l e rm_H_forget s m args below meth c s.heap [] 0 0 Q (F0 m 0 ls []) := by
    intro Q hret hthr
    rw [f_H_forget] at hF
    refine lv_aload_n hx hb d_H_forget_0 rfl (lv_at hl 0 rfl) ?_
    refine lv_iload_n hx hb d_H_forget_1 rfl (lv_at hl 1 rfl) ?_
    obtain ⟨t1, hF⟩ := gd_ex hF
    obtain ⟨e2, q3, c4, hF⟩ := bd2_ex hF
    refine ga_xVq (As := [.int p1]) C hw (c_H_questionOf l D T z L hl9 c4) gy_H_121 t1 rfl hl.1 ⟨Nat.le_of_ble_eq_true rfl, Nat.le_of_ble_eq_true rfl, Nat.le_of_ble_eq_true rfl, Nat.le_of_ble_eq_true rfl⟩ (Nat.le_of_ble_eq_true rfl) rfl d_H_forget_2 (fun hne ce q9 H locs hw hce hcv hcl => ?_) (fun h0 H locs hw => ?_)
    · rw [if_neg hne] at hF
      exact hthr _ _ _ _ _ _ _ _ _ _ _ (Option.some.inj hF) hne (Nat.le_of_ble_eq_true rfl) (Nat.le_of_ble_eq_true rfl) hw hce hcv hcl
    · rw [if_pos h0] at hF
      obtain ⟨r5, er5, hG⟩ := ob_ex hF
      clear hF
      subst er5
      have hF := hG
      refine lv_iconst (v := 0) hx hb d_H_forget_5 (by decide) ?_
      obtain ⟨t6, hF⟩ := gd_ex hF
      obtain ⟨I7, eI7, hF⟩ := bnd_ex hF
      refine ga_putI C hw gp_H_210 t6 rfl rfl eI7 d_H_forget_6 (fun H locs hw => ?_)
      refine lv_aload_n hx hb d_H_forget_9 rfl (lv_at hl 0 rfl) ?_
      obtain ⟨r8, hr8, hF⟩ := ob_ex hF
      refine ga_getR C hw gf_H_25 t1 hr8 d_H_forget_10 ?_
      refine lv_iload_n hx hb d_H_forget_13 rfl (lv_at hl 1 rfl) ?_
      obtain ⟨t9, hF⟩ := gd_ex hF
      obtain ⟨I10, c11, hF⟩ := ob_ex hF
      refine ga_cVv (As := [.int p1]) C hw (c_Post_loseAllOf l D T z L c11) gy_H_213 t9 rfl hl.1 ⟨Nat.le_of_ble_eq_true rfl, Nat.le_of_ble_eq_true rfl, rfl, rfl, Nat.le_of_ble_eq_true rfl, Nat.le_of_ble_eq_true rfl⟩ (Nat.le_of_ble_eq_true rfl) rfl d_H_forget_14 (fun H locs hw => ?_)
      refine lv_iconst (v := 0) hx hb d_H_forget_17 (by decide) ?_
      refine lv_istore_n hx hb d_H_forget_18 rfl hl (by decide) rfl (fun ls hl => ?_)
      have hl : lv_has ls 4 [(2, .int (0 : Int32)), (0, .ref p0), (1, .int p1)] := hl
      refine lv_iconst (v := 0) hx hb d_H_forget_19 (by decide) ?_
      refine lv_istore_n hx hb d_H_forget_20 rfl hl (by decide) rfl (fun ls hl => ?_)
      have hl : lv_has ls 4 [(3, .int (0 : Int32)), (2, .int (0 : Int32)), (0, .ref p0), (1, .int p1)] := hl
      refine W.widen (k := 1) (n := 6) (Nat.le_of_ble_eq_true rfl) (Nat.le_of_ble_eq_true rfl) ?_
      exact m_H_forget_b21 hl9 hret hthr C gFuel _ _ _ _ hF _ _ _ (lv_sub hl [2, 1, 0] rfl) hw
  refine key _ (fun pc cells slots ls H locs x I1 he hd hc hs hw => ?_) (fun pc ey cells slots ls rest H locs ce q9 I1 he hne hc hs hw hce hcv hcl => ?_)
  · cases he
    exact W.widen hc hs (vx_ret (W.iret hx hb hr (fun t ht _ => ⟨⟨_, (), rfl, ⟨rfl, rfl⟩, ga_o hw ht⟩, hw.2.2.2.1.F ht⟩) hw.2.2.2.1.2.2 hd))
  · cases he
    exact vx_out (fun x hx => (hno x hx).elim) hlocks hce hcv hcl (fun t ht _ => ⟨(), hne, ⟨rfl, ga_o hw ht⟩, hw.2.2.2.1.F ht⟩) hw.2.2.2.1.2.2 hc hs
end WALK
