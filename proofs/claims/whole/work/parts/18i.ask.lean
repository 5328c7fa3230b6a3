-- ask, as the class and the law have it
def f_ask2 (S : gS) (I : gMI) (J : gMJ) (p0 : Nat) (d k a b : Int32) (q : Nat) : Option (Int32 × gMI × gMJ) :=
  gd (S.1 p0 = 8) <|
  bnd (upI I p0 3 ((I p0 3) + (1 : Int32))) fun I2 =>
  gd (S.1 q = 4) <|
  Option.bind (f_Question_begin S I2 J q (I2 p0 3) k a b) fun I3 =>
  Option.bind (f_Question_beginTurn S I3 J q d) fun I4 =>
  bd2 (f_H_askAll S I4 J p0 q) fun I5 J6 =>
  some ((I5 p0 3), I5, J6)
/-- what ask does -/
def askOK (u : gG) (h0 : Nat) (d k a b : Int32) (ex : Nat) (PP : Int32 → gG → Prop) : Prop :=
  (∃ e1, ¬ e1 = 0 ∧ f_H_loggerOf u.2.1 u.2.2.1 u.2.2.2 h0 d = some (e1, none) ∧ ex = e1) ∨
  (∃ lg, f_H_loggerOf u.2.1 u.2.2.1 u.2.2.2 h0 d = some (0, some lg) ∧
    ((f_H_isAskable u.2.1 u.2.2.1 u.2.2.2 k a = some 0 ∧ ex = 2) ∨
     (f_H_isAskable u.2.1 u.2.2.1 u.2.2.2 k a = some 1 ∧
       ((∃ e, ¬ e = 0 ∧ f_H_needUp u.2.1 u.2.2.1 u.2.2.2 lg = some e ∧ ex = e) ∨
        (f_H_needUp u.2.1 u.2.2.1 u.2.2.2 lg = some 0 ∧ ∃ P, FPc u h0 ex P ∧ ∀ r v, P r v → ∃ q x I' J', r = some q ∧ f_ask2 v.2.1 v.2.2.1 v.2.2.2 h0 d k a b q = some (x, I', J') ∧ PP x (v.1, v.2.1, I', J'))))))
def rm_H_ask : Room := { frames := 8, locals := 131, cells := 36, slots := 4184 }
set_option maxHeartbeats 4000000 in
set_option maxRecDepth 100000 in
theorem c_H_ask (l : Launch) (D : va_G) (T : Nat → ClassId) (z : Nat) (u : gG) {h0 ex : Nat} {d k a b : Int32} {PP : Int32 → gG → Prop} (hl9 : l.stackTraces = false) (hh : u.2.1.1 h0 = 8) (hF : askOK u h0 d k a b ex PP) : gu_Xi l y_H_ask prog_1_method_5_code 7 (Option.some Jvm.ClassFile.FieldType.int) rm_H_ask [.ref h0, .int d, .int k, .int a, .int b] D T z u ex PP := by
  refine vx_ofW (cc := prog_1_method_5_code) (maxL := 7) (ret := (Option.some Jvm.ClassFile.FieldType.int)) (by decide) rfl ?_
  intro p e s m args below meth c s₁ B hml hno hv
  obtain ⟨ha, hv, hNs⟩ := hv
  have hx := B.exec
  have hb := B.bytes
  have hr := B.returns
  have hts := atoms_spec (ws := .code y_H_ask prog_1_method_5_code 7 (Option.some Jvm.ClassFile.FieldType.int) :: ga_ws) B.pre
  have hown : s.vm.findClass "RankHouse" = some m.cls := findClass_of_methodNamed B.named
  have hlocks := B.notSynchronized
  have C : CallFix p m c prog_1_method_5_code 7 s args ga_ws "RankHouse" := ⟨hx, hb, hml, hown, fun w h => hts w (List.mem_cons_of_mem _ h)⟩
  have hw : gWu D T z u s s.heap [] := ga_start hv
  have hl := lv_entry ([.ref h0, .int d, .int k, .int a, .int b]) (n := 7) (Nat.le_of_ble_eq_true rfl)
  rw [show entryFrame m args 7 = entryFrame m ([.ref h0, .int d, .int k, .int a, .int b] : List Value).toArray 7 by rw [ha], lg_entry_eq]
  generalize (lg_sl ([.ref h0, .int d, .int k, .int a, .int b]) ++ List.replicate (7 - (lg_sl ([.ref h0, .int d, .int k, .int a, .int b])).length) Slot.unset).toArray = ls at hl ⊢
  have hl : lv_has ls 7 [(0, .ref h0), (1, .int d), (2, .int k), (3, .int a), (4, .int b)] := hl
  refine lv_aload_n hx hb d_H_ask_0 rfl (lv_at hl 0 rfl) ?_
  refine lv_iload_n hx hb d_H_ask_1 rfl (lv_at hl 1 rfl) ?_
  rcases hF with ⟨e1, hne, hlo, hex⟩ | ⟨lg, hlo, hF⟩
  · subst hex
    refine ga_xVq (As := [.int d]) C hw (c_H_loggerOf l D T z u.1 hl9 hlo) gy_H_29 hh rfl hl.1 ⟨Nat.le_of_ble_eq_true rfl, Nat.le_of_ble_eq_true rfl, Nat.le_of_ble_eq_true rfl, Nat.le_of_ble_eq_true rfl⟩ (Nat.le_of_ble_eq_true rfl) rfl d_H_ask_2 (fun _ ce q9 H locs hw hce hcv hcl => ?_) (fun h0 => absurd h0 hne)
    exact vx_out (fun x hx => (hno x hx).elim) hlocks hce hcv hcl (fun t ht _ => ⟨(), hne, ⟨rfl, ga_o hw ht⟩, hw.2.2.2.1.F ht⟩) hw.2.2.2.1.2.2 (Nat.le_of_ble_eq_true rfl) (Nat.le_of_ble_eq_true rfl)
  · refine ga_xVq (As := [.int d]) C hw (c_H_loggerOf l D T z u.1 hl9 hlo) gy_H_29 hh rfl hl.1 ⟨Nat.le_of_ble_eq_true rfl, Nat.le_of_ble_eq_true rfl, Nat.le_of_ble_eq_true rfl, Nat.le_of_ble_eq_true rfl⟩ (Nat.le_of_ble_eq_true rfl) rfl d_H_ask_2 (fun h => absurd rfl h) (fun _ H locs hw => ?_)
    refine lv_astore hx hb d_H_ask_5 hl (by decide) rfl (fun ls hl => ?_)
    have hl : lv_has ls 7 [(5, .ref lg), (0, .ref h0), (1, .int d), (2, .int k), (3, .int a), (4, .int b)] := hl
    refine lv_iload_n hx hb d_H_ask_7 rfl (lv_at hl 3 rfl) ?_
    refine lv_iload_n hx hb d_H_ask_8 rfl (lv_at hl 4 rfl) ?_
    rcases hF with ⟨hna, hex⟩ | ⟨hya, hF⟩
    · refine ga_cSi (As := [.int k, .int a]) C hw (c_H_isAskable l D T z u.1 hna) gs_H_59 rfl hl.1 ⟨Nat.le_of_ble_eq_true rfl, Nat.le_of_ble_eq_true rfl, rfl, rfl, Nat.le_of_ble_eq_true rfl, Nat.le_of_ble_eq_true rfl⟩ (Nat.le_of_ble_eq_true rfl) rfl d_H_ask_9 (fun H locs hw => ?_)
      refine lv_if_ne (tgt := 25) hx hb d_H_ask_12 (by decide) (fun hn => absurd rfl hn) (fun _ => ?_)
      subst hex
      exact ga_throw C hl9 hno hlocks hw gt_H_ask_15 hl.1 (Nat.le_of_ble_eq_true rfl) (Nat.le_of_ble_eq_true rfl) (Nat.le_of_ble_eq_true rfl) (Nat.le_of_ble_eq_true rfl) (Nat.le_of_ble_eq_true rfl)
    · refine ga_cSi (As := [.int k, .int a]) C hw (c_H_isAskable l D T z u.1 hya) gs_H_59 rfl hl.1 ⟨Nat.le_of_ble_eq_true rfl, Nat.le_of_ble_eq_true rfl, rfl, rfl, Nat.le_of_ble_eq_true rfl, Nat.le_of_ble_eq_true rfl⟩ (Nat.le_of_ble_eq_true rfl) rfl d_H_ask_9 (fun H locs hw => ?_)
      refine lv_if_ne (tgt := 25) hx hb d_H_ask_12 (by decide) (fun _ => ?_) (fun hp => absurd hp (by decide))
      refine lv_aload hx hb d_H_ask_25 (lv_at hl 0 rfl) ?_
      rcases hF with ⟨e1, hne, hnu, hex⟩ | ⟨hnu, P, hfp, hrest⟩
      · subst hex
        refine ga_xSv (As := [.ref lg]) C hw (c_H_needUp l D T z u.1 hl9 hnu) gs_H_65 rfl hl.1 ⟨Nat.le_of_ble_eq_true rfl, Nat.le_of_ble_eq_true rfl, Nat.le_of_ble_eq_true rfl, Nat.le_of_ble_eq_true rfl⟩ (Nat.le_of_ble_eq_true rfl) rfl d_H_ask_27 (fun _ ce q9 H locs hw hce hcv hcl => ?_) (fun h0 => absurd h0 hne)
        exact vx_out (fun x hx => (hno x hx).elim) hlocks hce hcv hcl (fun t ht _ => ⟨(), hne, ⟨rfl, ga_o hw ht⟩, hw.2.2.2.1.F ht⟩) hw.2.2.2.1.2.2 (Nat.le_of_ble_eq_true rfl) (Nat.le_of_ble_eq_true rfl)
      · refine ga_xSv (As := [.ref lg]) C hw (c_H_needUp l D T z u.1 hl9 hnu) gs_H_65 rfl hl.1 ⟨Nat.le_of_ble_eq_true rfl, Nat.le_of_ble_eq_true rfl, Nat.le_of_ble_eq_true rfl, Nat.le_of_ble_eq_true rfl⟩ (Nat.le_of_ble_eq_true rfl) rfl d_H_ask_27 (fun h => absurd rfl h) (fun _ H locs hw => ?_)
        refine lv_aload_n hx hb d_H_ask_30 rfl (lv_at hl 1 rfl) ?_
        refine gu_xVq (u := u) (As := []) C hw hNs (c_H_freePlace l D T z u hl9 hfp) gy_H_69 hh rfl hl.1 ⟨Nat.le_of_ble_eq_true rfl, Nat.le_of_ble_eq_true rfl, Nat.le_of_ble_eq_true rfl, Nat.le_of_ble_eq_true rfl⟩ (Nat.le_of_ble_eq_true rfl) rfl d_H_ask_31 (fun hne ce q9 H locs hw hce hcv hcl => ?_) (fun hex r v H locs hP hw => ?_)
        · exact vx_out (fun x hx => (hno x hx).elim) hlocks hce hcv hcl (fun t ht _ => ⟨(), hne, ⟨rfl, ga_o hw ht⟩, hw.2.2.2.1.F ht⟩) hw.2.2.2.1.2.2 (Nat.le_of_ble_eq_true rfl) (Nat.le_of_ble_eq_true rfl)
        · obtain ⟨q, x, I', J', rfl, hf, hPP⟩ := hrest r v hP
          unfold f_ask2 at hf
          obtain ⟨t1, hf⟩ := gd_ex hf
          obtain ⟨I2, eI2, hf⟩ := bnd_ex hf
          obtain ⟨t2, hf⟩ := gd_ex hf
          obtain ⟨I3, c3, hf⟩ := ob_ex hf
          obtain ⟨I4, c4, hf⟩ := ob_ex hf
          obtain ⟨I5, J6, c5, hf⟩ := bd2_ex hf
          refine lv_astore hx hb d_H_ask_34 hl (by decide) rfl (fun ls hl => ?_)
          have hl : lv_has ls 7 [(6, .ref q), (5, .ref lg), (0, .ref h0), (1, .int d), (2, .int k), (3, .int a), (4, .int b)] := hl
          refine lv_aload_n hx hb d_H_ask_36 rfl (lv_at hl 2 rfl) ?_
          refine lv_dup hx hb d_H_ask_37 rfl ?_
          refine ga_getI C hw gf_H_73 t1 d_H_ask_38 ?_
          refine lv_iconst (v := 1) hx hb d_H_ask_41 (by decide) ?_
          refine lv_iadd hx hb d_H_ask_42 ?_
          refine ga_putI C hw gp_H_73 t1 rfl rfl eI2 d_H_ask_43 (fun H locs hw => ?_)
          refine lv_aload hx hb d_H_ask_46 (lv_at hl 0 rfl) ?_
          refine lv_aload_n hx hb d_H_ask_48 rfl (lv_at hl 2 rfl) ?_
          refine ga_getI C hw gf_H_73 t1 d_H_ask_49 ?_
          refine lv_iload_n hx hb d_H_ask_52 rfl (lv_at hl 4 rfl) ?_
          refine lv_iload_n hx hb d_H_ask_53 rfl (lv_at hl 5 rfl) ?_
          refine lv_iload hx hb d_H_ask_54 (lv_at hl 6 rfl) ?_
          refine ga_cVv (As := [.int (I2 h0 3), .int k, .int a, .int b]) C hw (c_Question_begin l D T z v.1 c3) gy_H_76 t2 rfl hl.1 ⟨Nat.le_of_ble_eq_true rfl, Nat.le_of_ble_eq_true rfl, rfl, rfl, Nat.le_of_ble_eq_true rfl, Nat.le_of_ble_eq_true rfl⟩ (Nat.le_of_ble_eq_true rfl) rfl d_H_ask_56 (fun H locs hw => ?_)
          refine lv_aload hx hb d_H_ask_59 (lv_at hl 0 rfl) ?_
          refine lv_iload_n hx hb d_H_ask_61 rfl (lv_at hl 3 rfl) ?_
          refine ga_cVv (As := [.int d]) C hw (c_Question_beginTurn l D T z v.1 c4) gy_H_80 t2 rfl hl.1 ⟨Nat.le_of_ble_eq_true rfl, Nat.le_of_ble_eq_true rfl, rfl, rfl, Nat.le_of_ble_eq_true rfl, Nat.le_of_ble_eq_true rfl⟩ (Nat.le_of_ble_eq_true rfl) rfl d_H_ask_62 (fun H locs hw => ?_)
          refine lv_aload_n hx hb d_H_ask_65 rfl (lv_at hl 2 rfl) ?_
          refine lv_aload hx hb d_H_ask_66 (lv_at hl 0 rfl) ?_
          refine ga_cVv (As := [.ref q]) C hw (c_H_askAll l D T z v.1 c5) gy_H_83 t1 rfl hl.1 ⟨Nat.le_of_ble_eq_true rfl, Nat.le_of_ble_eq_true rfl, rfl, rfl, Nat.le_of_ble_eq_true rfl, Nat.le_of_ble_eq_true rfl⟩ (Nat.le_of_ble_eq_true rfl) rfl d_H_ask_68 (fun H locs hw => ?_)
          refine lv_aload_n hx hb d_H_ask_71 rfl (lv_at hl 2 rfl) ?_
          refine ga_getI C hw gf_H_73 t1 d_H_ask_72 ?_
          have hfe := Option.some.inj hf
          simp only [Prod.mk.injEq] at hfe
          obtain ⟨rfl, rfl, rfl⟩ := hfe
          exact W.widen (Nat.le_of_ble_eq_true rfl) (Nat.le_of_ble_eq_true rfl) (vx_ret (W.iret hx hb hr (fun t ht _ => ⟨⟨_, (v.1, v.2.1, I5, J6), rfl, ⟨hex, hPP⟩, ga_o hw ht⟩, hw.2.2.2.1.F ht⟩) hw.2.2.2.1.2.2 d_H_ask_75))
/-- the law's wrapper -/
def gu_Wi (l : Launch) (y : MethodName) (cc : ByteArray) (nL : Nat) (ret : Option FieldType) (hh : List (Nat × Nat × Nat × Nat)) (rm : Room) (As : List Value) (D : va_G) (T : Nat → ClassId) (z : Nat) (u : gG) (P : Int32 → gG → Prop) : Prop :=
  Met l y (.codeWith y cc nL ret hh :: ga_ws) rm (va_Pc As (fun U => ga_Q D T z u.1 u.2.1 u.2.2.1 u.2.2.2 U ∧ gx_N U)) (va_Qi (fun (r' : Int32) (v : gG) => P r' v) (fun v t => ga_O D T z v.1 v.2.1 v.2.2.1 v.2.2.2 t) (ga_A z)) rm.cells rm.slots (ga_A z)
theorem gu_cWi {p : Program} {l : Launch} {e : Env} {R : Room} {s : State} {m : MethodId} {args : Array Value} {below : List Frame} {meth : Method} {c : Code} {H : Heap} {locs : List Loc} {cells slots : Nat} {Q : State → Prop} {cc : ByteArray} {pc nL : Nat} {ls : Array Slot} {rest st0 : List Value} {own : String} {D : va_G} {T : Nat → ClassId} {z : Nat} {u : gG} {y : MethodName} {bytes : ByteArray} {maxL n idx : Nat} {ret : Option FieldType} {hh : List (Nat × Nat × Nat × Nat)} {rm : Room} {As : List Value} {P : Int32 → gG → Prop} (C : CallFix p m c cc nL s args ga_ws own) (hw : gWu D T z u s H locs) (hN : gx_N s) (hM : gu_Wi l y bytes maxL ret hh rm As D T z u P) (hy : ga_YW own idx y bytes maxL ret hh n) (hn : As.length = n) (hsz : ls.size = nL) (hR : rm.frames + 1 ≤ R.frames ∧ 8 + (maxL + 11) + rm.locals ≤ R.locals ∧ cells + rm.cells ≤ R.cells ∧ slots + rm.slots ≤ R.slots) (hrest : (rest.map fun v => v.category).sum ≤ 8) (hst : st0 = As.reverse ++ rest) (hdg : decode cc pc = .ok (.invokestatic idx, 3))
    (kk : ∀ (r : Int32) (v : gG) (H1 : Heap) (locs1 : List Loc), P r v → gWu D T z v s H1 locs1 → W p l e R s m args below meth c H1 locs1 (cells + rm.cells) (slots + rm.slots) Q (F0 m (pc + 3) ls (.int r :: rest))) : W p l e R s m args below meth c H locs cells slots Q (F0 m pc ls st0) := by
  have hy' := hy
  obtain ⟨-, -, -, -, h6, h7, h8⟩ := hy'
  refine va_calli (vx_runSW (As := As) (rest := rest) C hM (vx_cwSW n C.2.2.2.2 (ga_goodW hy) rfl rfl rfl ⟨h6, h7, h8⟩ ⟨hR.1, hR.2.1⟩) (gu_pre hw hN As) rfl hn hsz hst (lv_room hrest) hdg ⟨hR.2.2.1, hR.2.2.2⟩) hw.2.2.2.1 (fun q _ h => h) (fun q h => h) (fun r' v t H1 locs1 ht hvm hr hB _ _ hS => ?_)
  exact kk r' v H1 locs1 hr (ga_out hw ht hS hB)
def PL (u : gG) (out ex : Nat) (PP : Int32 → gG → Prop) (r : Int32) (v : gG) : Prop := (ex = 0 ∧ r = 0 ∧ ∃ x w, PP x w ∧ v = (w.1, w.2.1, w.2.2.1, upJ w.2.2.2 out 0 x.toInt64)) ∨ (¬ ex = 0 ∧ r = nI ex ∧ v = u)
def rm_L_ask : Room := { frames := 9, locals := 157, cells := 36, slots := 4184 }
set_option maxHeartbeats 4000000 in
set_option maxRecDepth 100000 in
theorem c_L_ask (l : Launch) (D : va_G) (T : Nat → ClassId) (z : Nat) (u : gG) {h0 out ex : Nat} {d k a b : Int32} {PP : Int32 → gG → Prop} (hl9 : l.stackTraces = false) (hh : u.2.1.1 h0 = 8) (hx3 : ex < 4) (hF : askOK u h0 d k a b ex PP) (ho : ∀ x w, PP x w → w.2.1.1 out = 23 ∧ 0 < w.2.1.2.1 out) : gu_Wi l y_L_ask method_6_code 7 (Option.some Jvm.ClassFile.FieldType.int) [((0 : Nat), (14 : Nat), (17 : Nat), (13 : Nat)), ((0 : Nat), (14 : Nat), (21 : Nat), (21 : Nat)), ((0 : Nat), (14 : Nat), (25 : Nat), (15 : Nat))] rm_L_ask [.ref h0, .int d, .int k, .int a, .int b, .ref out] D T z u (PL u out ex PP) := by
  refine va_MetW (cc := method_6_code) (maxL := 7) (ret := (Option.some Jvm.ClassFile.FieldType.int)) (by decide) rfl ?_
  intro p e s m args below meth c s₁ B hml hv
  obtain ⟨ha, hv, hNs⟩ := hv
  have hx := B.exec
  have hb := B.bytes
  have hr := B.returns
  have hts := atoms_spec (ws := .codeWith y_L_ask method_6_code 7 (Option.some Jvm.ClassFile.FieldType.int) [((0 : Nat), (14 : Nat), (17 : Nat), (13 : Nat)), ((0 : Nat), (14 : Nat), (21 : Nat), (21 : Nat)), ((0 : Nat), (14 : Nat), (25 : Nat), (15 : Nat))] :: ga_ws) B.pre
  have htab := vx_table (x := y_L_ask) B (hts _ List.mem_cons_self)
  have hown : s.vm.findClass "RankHouseLaw" = some m.cls := findClass_of_methodNamed B.named
  have C : CallFix p m c method_6_code 7 s args ga_ws "RankHouseLaw" := ⟨hx, hb, hml, hown, fun w h => hts w (List.mem_cons_of_mem _ h)⟩
  have hw : gWu D T z u s s.heap [] := ga_start hv
  have hl := lv_entry ([.ref h0, .int d, .int k, .int a, .int b, .ref out]) (n := 7) (Nat.le_of_ble_eq_true rfl)
  rw [show entryFrame m args 7 = entryFrame m ([.ref h0, .int d, .int k, .int a, .int b, .ref out] : List Value).toArray 7 by rw [ha], lg_entry_eq]
  generalize (lg_sl ([.ref h0, .int d, .int k, .int a, .int b, .ref out]) ++ List.replicate (7 - (lg_sl ([.ref h0, .int d, .int k, .int a, .int b, .ref out])).length) Slot.unset).toArray = ls at hl ⊢
  have hl : lv_has ls 7 [(0, .ref h0), (1, .int d), (2, .int k), (3, .int a), (4, .int b), (5, .ref out)] := hl
  refine lv_aload hx hb d_L_ask_0 (lv_at hl 5 rfl) ?_
  refine lv_iconst (v := 0) hx hb d_L_ask_2 (by decide) ?_
  refine lv_aload_n hx hb d_L_ask_3 rfl (lv_at hl 0 rfl) ?_
  refine lv_iload_n hx hb d_L_ask_4 rfl (lv_at hl 1 rfl) ?_
  refine lv_iload_n hx hb d_L_ask_5 rfl (lv_at hl 2 rfl) ?_
  refine lv_iload_n hx hb d_L_ask_6 rfl (lv_at hl 3 rfl) ?_
  refine lv_iload hx hb d_L_ask_7 (lv_at hl 4 rfl) ?_
  refine gu_xVi (As := [.int d, .int k, .int a, .int b]) C hw hNs (c_H_ask l D T z u hl9 hh hF) gy_L_27 hh rfl hl.1 ⟨Nat.le_of_ble_eq_true rfl, Nat.le_of_ble_eq_true rfl, Nat.le_of_ble_eq_true rfl, Nat.le_of_ble_eq_true rfl⟩ (Nat.le_of_ble_eq_true rfl) rfl d_L_ask_9 (fun hne ce q9 H locs hw hce hcv hcl => ?_) (fun h0' x w H locs hP hw => ?_)
  · by_cases h6 : ex = 1
    · rw [h6] at hcl
      refine vx_catch (own := "RankHouseLaw") (E := "java/lang/IndexOutOfBoundsException") (name := "java/lang/IndexOutOfBoundsException") C.2.2.2.1 [] (⟨0, 14, 17, 13⟩ : ExceptionTableEntry) [(⟨0, 14, 21, 21⟩ : ExceptionTableEntry), (⟨0, 14, 25, 15⟩ : ExceptionTableEntry)] htab (fun _ h => absurd h List.not_mem_nil) (by decide) (by decide) (C.2.2.2.2 _ gw_146) (va_Nw.use rfl (hw.2.2.2.2.2.2.2.2.2.2.1 ("java/lang/IndexOutOfBoundsException", "java/lang/IndexOutOfBoundsException") (by decide))) hce hcv hcl ?_
      show W _ _ _ _ _ _ _ _ _ _ _ _ _ _ _ (F0 _ 17 _ _)
      refine lv_astore hx hb d_L_ask_17 hl (by decide) rfl (fun ls hl => ?_)
      refine lv_iconst (v := 1) hx hb d_L_ask_19 (by decide) ?_
      exact W.widen (Nat.le_of_ble_eq_true rfl) (Nat.le_of_ble_eq_true rfl) (W.iret hx hb hr (fun t ht _ => ⟨⟨_, u, rfl, Or.inr ⟨hne, by rw [h6]; rfl, rfl⟩, ga_o hw ht⟩, hw.2.2.2.1.F ht⟩) hw.2.2.2.1.2.2 d_L_ask_20)
    · by_cases h7 : ex = 2
      · rw [h7] at hcl
        refine vx_catch (own := "RankHouseLaw") (E := "java/lang/IllegalArgumentException") (name := "java/lang/IllegalArgumentException") C.2.2.2.1 [(⟨0, 14, 17, 13⟩ : ExceptionTableEntry)] (⟨0, 14, 21, 21⟩ : ExceptionTableEntry) [(⟨0, 14, 25, 15⟩ : ExceptionTableEntry)] htab (List.forall_mem_cons.mpr ⟨Or.inr ⟨by decide, "java/lang/IndexOutOfBoundsException", C.2.2.2.2 _ gw_146, hw.2.2.2.2.2.2.2.2.2.2.2.1 ("java/lang/IllegalArgumentException", "java/lang/IndexOutOfBoundsException") (by decide)⟩, fun _ h => absurd h List.not_mem_nil⟩) (by decide) (by decide) (C.2.2.2.2 _ gw_264) (va_Nw.use rfl (hw.2.2.2.2.2.2.2.2.2.2.1 ("java/lang/IllegalArgumentException", "java/lang/IllegalArgumentException") (by decide))) hce hcv hcl ?_
        show W _ _ _ _ _ _ _ _ _ _ _ _ _ _ _ (F0 _ 21 _ _)
        refine lv_astore hx hb d_L_ask_21 hl (by decide) rfl (fun ls hl => ?_)
        refine lv_iconst (v := 2) hx hb d_L_ask_23 (by decide) ?_
        exact W.widen (Nat.le_of_ble_eq_true rfl) (Nat.le_of_ble_eq_true rfl) (W.iret hx hb hr (fun t ht _ => ⟨⟨_, u, rfl, Or.inr ⟨hne, by rw [h7]; rfl, rfl⟩, ga_o hw ht⟩, hw.2.2.2.1.F ht⟩) hw.2.2.2.1.2.2 d_L_ask_24)
      · have h8 : ex = 3 := by omega
        rw [h8] at hcl
        refine vx_catch (own := "RankHouseLaw") (E := "java/lang/IllegalStateException") (name := "java/lang/IllegalStateException") C.2.2.2.1 [(⟨0, 14, 17, 13⟩ : ExceptionTableEntry), (⟨0, 14, 21, 21⟩ : ExceptionTableEntry)] (⟨0, 14, 25, 15⟩ : ExceptionTableEntry) [] htab (List.forall_mem_cons.mpr ⟨Or.inr ⟨by decide, "java/lang/IndexOutOfBoundsException", C.2.2.2.2 _ gw_146, hw.2.2.2.2.2.2.2.2.2.2.2.1 ("java/lang/IllegalStateException", "java/lang/IndexOutOfBoundsException") (by decide)⟩, List.forall_mem_cons.mpr ⟨Or.inr ⟨by decide, "java/lang/IllegalArgumentException", C.2.2.2.2 _ gw_264, hw.2.2.2.2.2.2.2.2.2.2.2.1 ("java/lang/IllegalStateException", "java/lang/IllegalArgumentException") (by decide)⟩, fun _ h => absurd h List.not_mem_nil⟩⟩) (by decide) (by decide) (C.2.2.2.2 _ gw_147) (va_Nw.use rfl (hw.2.2.2.2.2.2.2.2.2.2.1 ("java/lang/IllegalStateException", "java/lang/IllegalStateException") (by decide))) hce hcv hcl ?_
        show W _ _ _ _ _ _ _ _ _ _ _ _ _ _ _ (F0 _ 25 _ _)
        refine lv_astore hx hb d_L_ask_25 hl (by decide) rfl (fun ls hl => ?_)
        refine lv_iconst (v := 3) hx hb d_L_ask_27 (by decide) ?_
        exact W.widen (Nat.le_of_ble_eq_true rfl) (Nat.le_of_ble_eq_true rfl) (W.iret hx hb hr (fun t ht _ => ⟨⟨_, u, rfl, Or.inr ⟨hne, by rw [h8]; rfl, rfl⟩, ga_o hw ht⟩, hw.2.2.2.1.F ht⟩) hw.2.2.2.1.2.2 d_L_ask_28)
  · obtain ⟨o1, o2⟩ := ho x w hP
    refine lv_i2l hx hb d_L_ask_12 rfl ?_
    refine ga_last C hw o1 (fun hh => hh.elim (fun h => absurd h (by decide)) (fun h => absurd (show w.2.1.2.1 out ≤ 0 from h) (by omega))) rfl d_L_ask_13 (fun H locs hw => ?_)
    refine lv_goto (tgt := 29) hx hb d_L_ask_14 (by decide) ?_
    refine lv_iconst (v := 0) hx hb d_L_ask_29 (by decide) ?_
    exact W.widen (Nat.le_of_ble_eq_true rfl) (Nat.le_of_ble_eq_true rfl) (W.iret hx hb hr (fun t ht _ => ⟨⟨_, (w.1, w.2.1, w.2.2.1, upJ w.2.2.2 out 0 x.toInt64), rfl, Or.inl ⟨h0', rfl, x, w, hP, rfl⟩, ga_o hw ht⟩, hw.2.2.2.1.F ht⟩) hw.2.2.2.1.2.2 d_L_ask_30)
