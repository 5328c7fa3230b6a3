-- Makers: the memory as one value; rows in that form
abbrev gG : Type := List Nat × gS × gMI × gMJ
abbrev gCell : Type := Nat × Nat × (Nat → Option Nat) × (Nat → Int32) × (Nat → Int64)
def gAt (u : gG) (a : Nat) : gCell := (u.2.1.1 a, u.2.1.2.1 a, u.2.1.2.2 a, u.2.2.1 a, u.2.2.2 a)
/-- a new cell -/
def gBl (t n : Nat) : gCell := (t, n, fun _ => none, fun _ => 0, fun _ => 0)
def gWu (D : va_G) (T : Nat → ClassId) (z : Nat) (u : gG) (s : State) (H : Heap) (locs : List Loc) : Prop := ga_W D T z u.1 u.2.1 u.2.2.1 u.2.2.2 s H locs
/-- links to constructors of nest mates -/
def ga_nst : List (String × Nat × MethodName × String) := [("RankHouse", 15, y_Logger_init, "RankHouse"), ("RankHouse$Post", 21, y_Letter_init, "RankHouse"), ("RankHouse$Question", 23, y_Replies_init, "RankHouse"), ("RankHouse$Question", 30, y_Search_init, "RankHouse")]
def gx_N (U : State) : Prop := ∀ q ∈ ga_nst, va_Nw (.methodLinkNest q.1 q.2.1 q.2.2.1 q.2.2.2) U
theorem gx_N.moved {s U : State} (hW : s.WarmedH U.vm) (h : gx_N s) : gx_N U := fun q hq => va_Nw.warmM hW (h q hq)
theorem gx_N.same {s U : State} (hv : s.vm = U.vm) (h : gx_N s) : gx_N U := fun q hq => va_Nw.same rfl hv (h q hq)
/-- a constructor's contract: out of the memory u it makes one of which P holds -/
def gu_Nv (l : Launch) (y : MethodName) (cc : ByteArray) (nL : Nat) (rm : Room) (As : List Value) (D : va_G) (T : Nat → ClassId) (z : Nat) (u : gG) (P : gG → Prop) : Prop :=
  Met l y (.code y cc nL none :: ga_ws) rm (va_Pc As (fun U => ga_Q D T z u.1 u.2.1 u.2.2.1 u.2.2.2 U ∧ gx_N U)) (va_Qv (fun (v : gG) => P v) (fun v t => ga_O D T z v.1 v.2.1 v.2.2.1 v.2.2.2 t) (ga_A z)) rm.cells rm.slots (ga_A z)
def gu_YI (own : String) (idx : Nat) (y : MethodName) (bytes : ByteArray) (maxL n : Nat) : Prop := Cond.methodLink own idx y ∈ ga_ws ∧ Cond.instanceMethod y ∈ ga_ws ∧ Cond.initialized y.cls ∈ ga_ws ∧ Cond.code y bytes maxL none ∈ ga_ws ∧ y.name = "<init>" ∧ y.cls ≠ "java/lang/invoke/MethodHandle" ∧ y.cls ≠ "java/lang/invoke/VarHandle" ∧ (parseMethodDescriptor y.desc).map (fun d => d.parameters.length) = some n
def gu_YN (own : String) (idx : Nat) (y : MethodName) (bytes : ByteArray) (maxL n : Nat) : Prop := (own, idx, y, "RankHouse") ∈ ga_nst ∧ Cond.instanceMethod y ∈ ga_ws ∧ Cond.initialized y.cls ∈ ga_ws ∧ Cond.code y bytes maxL none ∈ ga_ws ∧ y.name = "<init>" ∧ y.cls ≠ "java/lang/invoke/MethodHandle" ∧ y.cls ≠ "java/lang/invoke/VarHandle" ∧ (parseMethodDescriptor y.desc).map (fun d => d.parameters.length) = some n
section GU
variable {p : Program} {l : Launch} {e : Env} {R : Room} {s : State} {m : MethodId} {args : Array Value} {below : List Frame} {meth : Method} {c : Code} {H : Heap} {locs : List Loc} {cells slots : Nat} {Q : State → Prop} {cc : ByteArray} {pc nL : Nat} {ls : Array Slot} {rest st0 : List Value} {own : String} {D : va_G} {T : Nat → ClassId} {z : Nat} {u : gG} {y : MethodName} {bytes : ByteArray} {maxL n idx ci b : Nat} {rm : Room} {As : List Value} {P : gG → Prop}
theorem gAt_new {q t n : Nat} : gAt (u.1 ++ [q], gnS u.2.1 q t n, gn0 0 u.2.2.1 q, gn0 0 u.2.2.2 q) q = gBl t n := by
  unfold gAt gnS gn0 gBl
  simp only [va_up_self]
theorem gAt_old {q t n a : Nat} (h : a ≠ q) : gAt (u.1 ++ [q], gnS u.2.1 q t n, gn0 0 u.2.2.1 q, gn0 0 u.2.2.2 q) a = gAt u a := by
  unfold gAt gnS gn0
  simp only [va_up_ne _ _ h]
theorem gu_new (C : CallFix p m c cc nL s args ga_ws own) (hw : gWu D T z u s H locs) {N : Nat} (hn : ga_N own idx ci N) (hc : cells + 1 ≤ R.cells) (hs : slots + N ≤ R.slots) (hdg : decode cc pc = .ok (.new idx, 3))
    (kk : ∀ (q : Nat) (u1 : gG) (H1 : Heap), q ∉ u.1 → u1.1 = u.1 ++ [q] → gAt u1 q = gBl (ci + 1) 0 → (∀ a, a ≠ q → gAt u1 a = gAt u a) → gWu D T z u1 s H1 locs → W p l e R s m args below meth c H1 locs (cells + 1) (slots + N) Q (F0 m (pc + 3) ls (.ref q :: rest))) : W p l e R s m args below meth c H locs cells slots Q (F0 m pc ls rest) :=
  ga_new C hw hn hc hs hdg (fun q H1 hq hw' => kk q _ H1 hq rfl gAt_new (fun a ha => gAt_old ha) hw')
theorem gu_newI (C : CallFix p m c cc nL s args ga_ws own) (hw : gWu D T z u s H locs) {n : Int32} {N : Nat} (hn : ¬ n < 0) (hN : n.toNatClampNeg = N) (hb : N * 4 ≤ 536870912) (hc : cells + 1 ≤ R.cells) (hs : slots + N ≤ R.slots) (hdg : decode cc pc = .ok (.newarray .int, 2))
    (kk : ∀ (q : Nat) (u1 : gG) (H1 : Heap), q ∉ u.1 → u1.1 = u.1 ++ [q] → gAt u1 q = gBl 21 N → (∀ a, a ≠ q → gAt u1 a = gAt u a) → gWu D T z u1 s H1 locs → W p l e R s m args below meth c H1 locs (cells + 1) (slots + N) Q (F0 m (pc + 2) ls (.ref q :: rest))) : W p l e R s m args below meth c H locs cells slots Q (F0 m pc ls (.int n :: rest)) :=
  ga_newI C hw gw_50 hn hN hb hc hs hdg (fun q H1 hq hw' => kk q _ H1 hq rfl gAt_new (fun a ha => gAt_old ha) hw')
theorem gu_newZ (C : CallFix p m c cc nL s args ga_ws own) (hw : gWu D T z u s H locs) {n : Int32} {N : Nat} (hn : ¬ n < 0) (hN : n.toNatClampNeg = N) (hb : N * 1 ≤ 536870912) (hc : cells + 1 ≤ R.cells) (hs : slots + N ≤ R.slots) (hdg : decode cc pc = .ok (.newarray .boolean, 2))
    (kk : ∀ (q : Nat) (u1 : gG) (H1 : Heap), q ∉ u.1 → u1.1 = u.1 ++ [q] → gAt u1 q = gBl 22 N → (∀ a, a ≠ q → gAt u1 a = gAt u a) → gWu D T z u1 s H1 locs → W p l e R s m args below meth c H1 locs (cells + 1) (slots + N) Q (F0 m (pc + 2) ls (.ref q :: rest))) : W p l e R s m args below meth c H locs cells slots Q (F0 m pc ls (.int n :: rest)) :=
  ga_newZ C hw gw_346 hn hN hb hc hs hdg (fun q H1 hq hw' => kk q _ H1 hq rfl gAt_new (fun a ha => gAt_old ha) hw')
theorem gu_newJ (C : CallFix p m c cc nL s args ga_ws own) (hw : gWu D T z u s H locs) {n : Int32} {N : Nat} (hn : ¬ n < 0) (hN : n.toNatClampNeg = N) (hb : N * 8 ≤ 536870912) (hc : cells + 1 ≤ R.cells) (hs : slots + N ≤ R.slots) (hdg : decode cc pc = .ok (.newarray .long, 2))
    (kk : ∀ (q : Nat) (u1 : gG) (H1 : Heap), q ∉ u.1 → u1.1 = u.1 ++ [q] → gAt u1 q = gBl 23 N → (∀ a, a ≠ q → gAt u1 a = gAt u a) → gWu D T z u1 s H1 locs → W p l e R s m args below meth c H1 locs (cells + 1) (slots + N) Q (F0 m (pc + 2) ls (.ref q :: rest))) : W p l e R s m args below meth c H locs cells slots Q (F0 m pc ls (.int n :: rest)) :=
  ga_newJ C hw gw_959 hn hN hb hc hs hdg (fun q H1 hq hw' => kk q _ H1 hq rfl gAt_new (fun a ha => gAt_old ha) hw')
theorem gu_newR (C : CallFix p m c cc nL s args ga_ws own) (hw : gWu D T z u s H locs) {t N : Nat} {Cn : String} {n : Int32} (ht : (ga_ty T)[t]? = some (T t, .object Cn)) (h3 : 2 < t) (h8 : t < 8) (hcl : Cond.classLink own idx Cn ∈ ga_ws) (hao : Cn ∈ ga_ao) (hn : ¬ n < 0) (hN : n.toNatClampNeg = N) (hb : N * 4 ≤ 536870912) (hc : cells + 1 ≤ R.cells) (hs : slots + N ≤ R.slots) (hdg : decode cc pc = .ok (.anewarray idx, 3))
    (kk : ∀ (q : Nat) (u1 : gG) (H1 : Heap), q ∉ u.1 → u1.1 = u.1 ++ [q] → gAt u1 q = gBl (21 + t) N → (∀ a, a ≠ q → gAt u1 a = gAt u a) → gWu D T z u1 s H1 locs → W p l e R s m args below meth c H1 locs (cells + 1) (slots + N) Q (F0 m (pc + 3) ls (.ref q :: rest))) : W p l e R s m args below meth c H locs cells slots Q (F0 m pc ls (.int n :: rest)) :=
  ga_newR C hw ht h3 h8 hcl (hw.2.2.2.2.2.2.2.2.2.2.2.2.1 Cn hao) hn hN hb hc hs hdg (fun q H1 hq hw' => kk q _ H1 hq rfl gAt_new (fun a ha => gAt_old ha) hw')
/-- a reference is put -/
def gPut (x : gCell) (k b : Nat) : gCell := (x.1, x.2.1, va_up x.2.2.1 k (some b), x.2.2.2)
theorem gAt_put {a k b : Nat} : gAt (u.1, gpR u.2.1 a k (some b), u.2.2.1, u.2.2.2) a = gPut (gAt u a) k b := by
  unfold gAt gpR gPut
  simp only [va_up_self]
theorem gAt_pold {a k b d : Nat} (h : d ≠ a) : gAt (u.1, gpR u.2.1 a k (some b), u.2.2.1, u.2.2.2) d = gAt u d := by
  unfold gAt gpR
  simp only [va_up_ne _ _ h]
theorem gu_putR (C : CallFix p m c cc nL s args ga_ws own) (hw : gWu D T z u s H locs) {a k : Nat} {ty : FieldType} (fl : ga_PF own idx ci k ty) (hm : meth.name = "<init>") (ht : (gAt u a).1 = ci + 1) (hn : narrow ty (.ref b) = .ref b) (hfit : fits ty (.ref b) = true) (hdg : decode cc pc = .ok (.putfield idx, 3))
    (kk : ∀ (u1 : gG) (H1 : Heap) (locs1 : List Loc), u1.1 = u.1 → gAt u1 a = gPut (gAt u a) k b → (∀ d, d ≠ a → gAt u1 d = gAt u d) → gWu D T z u1 s H1 locs1 → W p l e R s m args below meth c H1 locs1 cells slots Q (F0 m (pc + 3) ls rest)) : W p l e R s m args below meth c H locs cells slots Q (F0 m pc ls (.ref b :: .ref a :: rest)) :=
  ga_putR C hw fl hm ht hn hfit hdg (fun H1 locs1 hw' => kk (u.1, gpR u.2.1 a k (some b), u.2.2.1, u.2.2.2) H1 locs1 rfl gAt_put (fun d hd => gAt_pold hd) hw')
theorem gu_rast (C : CallFix p m c cc nL s args ga_ws own) (hw : gWu D T z u s H locs) {a t N k : Nat} {Cn : String} {Tb : u_T} {i : Int32} (ht : (gAt u a).1 = 21 + t) (h3 : 2 < t) (hty : (ga_ty T)[t]? = some (T t, .object Cn)) (hcl : ga_cl[ci]? = some (Cn, Tb, N)) (hci : ci < 20) (hb : (gAt u b).1 = ci + 1) (hk : i.toNatClampNeg = k) (hin : ¬ (i < 0 ∨ (gAt u a).2.1 ≤ i.toNatClampNeg)) (hdg : decode cc pc = .ok (.aastore, 1))
    (kk : ∀ (u1 : gG) (H1 : Heap) (locs1 : List Loc), u1.1 = u.1 → gAt u1 a = gPut (gAt u a) k b → (∀ d, d ≠ a → gAt u1 d = gAt u d) → gWu D T z u1 s H1 locs1 → W p l e R s m args below meth c H1 locs1 cells slots Q (F0 m (pc + 1) ls rest)) : W p l e R s m args below meth c H locs cells slots Q (F0 m pc ls (.ref b :: .int i :: .ref a :: rest)) := by
  subst hk
  exact ga_rast C hw ht h3 hty hcl hci hb hin hdg (fun H1 locs1 hw' => kk (u.1, gpR u.2.1 a i.toNatClampNeg (some b), u.2.2.1, u.2.2.2) H1 locs1 rfl gAt_put (fun d hd => gAt_pold hd) hw')
/-- an int is put -/
def gPi (x : gCell) (k : Nat) (v : Int32) : gCell := (x.1, x.2.1, x.2.2.1, upd x.2.2.2.1 k v, x.2.2.2.2)
theorem gAt_pi {a k : Nat} {v : Int32} : gAt (u.1, u.2.1, upI u.2.2.1 a k v, u.2.2.2) a = gPi (gAt u a) k v := by
  unfold gAt gPi upI
  simp only [va_up_self]
theorem gAt_piold {a k d : Nat} {v : Int32} (h : d ≠ a) : gAt (u.1, u.2.1, upI u.2.2.1 a k v, u.2.2.2) d = gAt u d := by
  unfold gAt upI
  simp only [va_up_ne _ _ h]
theorem gu_putI (C : CallFix p m c cc nL s args ga_ws own) (hw : gWu D T z u s H locs) {a k : Nat} {ty : FieldType} {v : Int32} (fl : ga_P own idx ci k 0 ty) (ht : (gAt u a).1 = ci + 1) (hn : narrow ty (.int v) = .int v) (hfit : fits ty (.int v) = true) (hdg : decode cc pc = .ok (.putfield idx, 3))
    (kk : ∀ (u1 : gG) (H1 : Heap) (locs1 : List Loc), u1.1 = u.1 → gAt u1 a = gPi (gAt u a) k v → (∀ d, d ≠ a → gAt u1 d = gAt u d) → gWu D T z u1 s H1 locs1 → W p l e R s m args below meth c H1 locs1 cells slots Q (F0 m (pc + 3) ls rest)) : W p l e R s m args below meth c H locs cells slots Q (F0 m pc ls (.int v :: .ref a :: rest)) :=
  ga_putI C hw fl ht hn hfit rfl hdg (fun H1 locs1 hw' => kk (u.1, u.2.1, upI u.2.2.1 a k v, u.2.2.2) H1 locs1 rfl gAt_pi (fun d hd => gAt_piold hd) hw')
theorem gu_iast (C : CallFix p m c cc nL s args ga_ws own) (hw : gWu D T z u s H locs) {a k : Nat} {i v : Int32} (ht : (gAt u a).1 = 21) (hk : i.toNatClampNeg = k) (hin : ¬ (i < 0 ∨ (gAt u a).2.1 ≤ i.toNatClampNeg)) (hdg : decode cc pc = .ok (.iastore, 1))
    (kk : ∀ (u1 : gG) (H1 : Heap) (locs1 : List Loc), u1.1 = u.1 → gAt u1 a = gPi (gAt u a) k v → (∀ d, d ≠ a → gAt u1 d = gAt u d) → gWu D T z u1 s H1 locs1 → W p l e R s m args below meth c H1 locs1 cells slots Q (F0 m (pc + 1) ls rest)) : W p l e R s m args below meth c H locs cells slots Q (F0 m pc ls (.int v :: .int i :: .ref a :: rest)) := by
  subst hk
  exact ga_iast C hw ht hin rfl hdg (fun H1 locs1 hw' => kk (u.1, u.2.1, upI u.2.2.1 a i.toNatClampNeg v, u.2.2.2) H1 locs1 rfl gAt_pi (fun d hd => gAt_piold hd) hw')
theorem gu_getR (C : CallFix p m c cc nL s args ga_ws own) (hw : gWu D T z u s H locs) {a k : Nat} (fl : ga_F own idx ci k 2) (ht : (gAt u a).1 = ci + 1) (hr : (gAt u a).2.2.1 k = some b) (hdg : decode cc pc = .ok (.getfield idx, 3))
    (kk : W p l e R s m args below meth c H locs cells slots Q (F0 m (pc + 3) ls (.ref b :: rest))) : W p l e R s m args below meth c H locs cells slots Q (F0 m pc ls (.ref a :: rest)) := ga_getR C hw fl ht hr hdg kk
theorem gu_pre (hw : gWu D T z u s H locs) (hN : gx_N s) (As : List Value) : PreS s H (va_Pc As (fun U => ga_Q D T z u.1 u.2.1 u.2.2.1 u.2.2.2 U ∧ gx_N U)) As :=
  ⟨fun a U g mk q => ⟨q.1, (ga_blind As a U g mk ⟨q.1, q.2.1⟩).2, q.2.2.same rfl⟩, fun U hU hW => ⟨rfl, ga_in hw hU hW, hN.moved hW⟩⟩
theorem gu_good (h5 : Cond.code y bytes maxL none ∈ ga_ws) : GoodIn ga_ws (.code y bytes maxL none :: ga_ws) := by
  intro w hw
  have hm : w ∈ ga_ws := by
    rcases List.mem_cons.mp hw with rfl | h
    · exact h5
    · exact h
  exact ⟨hm, good_of_word (ga_ok w hm)⟩
theorem gu_cI (C : CallFix p m c cc nL s args ga_ws own) (hw : gWu D T z u s H locs) (hN : gx_N s) (hM : gu_Nv l y bytes maxL rm (.ref b :: As) D T z u P) (hy : gu_YI own idx y bytes maxL n) (hn : As.length = n) (hsz : ls.size = nL) (hR : rm.frames + 1 ≤ R.frames ∧ 8 + (maxL + 11) + rm.locals ≤ R.locals ∧ cells + rm.cells ≤ R.cells ∧ slots + rm.slots ≤ R.slots) (hrest : (rest.map fun v => v.category).sum ≤ 8) (hst : st0 = As.reverse ++ .ref b :: rest) (hdg : decode cc pc = .ok (.invokespecial idx, 3))
    (kk : ∀ (u1 : gG) (H1 : Heap) (locs1 : List Loc), P u1 → gWu D T z u1 s H1 locs1 → W p l e R s m args below meth c H1 locs1 (cells + rm.cells) (slots + rm.slots) Q (F0 m (pc + 3) ls rest)) : W p l e R s m args below meth c H locs cells slots Q (F0 m pc ls st0) := by
  have hy' := hy
  obtain ⟨h1, h2, h3, h4, h5, h6, h7, h8⟩ := hy'
  refine va_callv (va_runI (As := As) (rest := rest) C hM (cwI n C.2.2.2.2 (gu_good h4) rfl rfl rfl (C.2.2.2.2 _ h3) (C.2.2.2.2 _ h1) (C.2.2.2.2 _ h2) h5 ⟨h6, h7, h8⟩ ⟨hR.1, hR.2.1⟩) (gu_pre hw hN _) rfl hn hsz hst (lv_room hrest) hdg ⟨hR.2.2.1, hR.2.2.2⟩) hw.2.2.2.1 (fun q _ h => h) (fun q h => h) (fun v t H1 locs1 ht hvm hr hB _ _ hS => ?_)
  exact kk v H1 locs1 hr (ga_out hw ht hS hB)
theorem gu_cN (C : CallFix p m c cc nL s args ga_ws own) (hw : gWu D T z u s H locs) (hN : gx_N s) (hM : gu_Nv l y bytes maxL rm (.ref b :: As) D T z u P) (hy : gu_YN own idx y bytes maxL n) (hn : As.length = n) (hsz : ls.size = nL) (hR : rm.frames + 1 ≤ R.frames ∧ 8 + (maxL + 11) + rm.locals ≤ R.locals ∧ cells + rm.cells ≤ R.cells ∧ slots + rm.slots ≤ R.slots) (hrest : (rest.map fun v => v.category).sum ≤ 8) (hst : st0 = As.reverse ++ .ref b :: rest) (hdg : decode cc pc = .ok (.invokespecial idx, 3))
    (kk : ∀ (u1 : gG) (H1 : Heap) (locs1 : List Loc), P u1 → gWu D T z u1 s H1 locs1 → W p l e R s m args below meth c H1 locs1 (cells + rm.cells) (slots + rm.slots) Q (F0 m (pc + 3) ls rest)) : W p l e R s m args below meth c H locs cells slots Q (F0 m pc ls st0) := by
  have hy' := hy
  obtain ⟨h1, h2, h3, h4, h5, h6, h7, h8⟩ := hy'
  refine va_callv (va_runIN (As := As) (rest := rest) C hM ⟨va_cnB n C.2.2.2.2 (gu_good h4) rfl rfl rfl (hN _ h1) (C.2.2.2.2 _ h3) ⟨h6, h7, h8⟩ ⟨hR.1, hR.2.1⟩, h5, C.2.2.2.2 _ h2⟩ (gu_pre hw hN _) rfl hn hsz hst (lv_room hrest) hdg ⟨hR.2.2.1, hR.2.2.2⟩) hw.2.2.2.1 (fun q _ h => h) (fun q h => h) (fun v t H1 locs1 ht hvm hr hB _ _ hS => ?_)
  exact kk v H1 locs1 hr (ga_out hw ht hS hB)
end GU
