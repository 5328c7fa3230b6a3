-- DRAFT. Rows of the memory layer that make cells (constructors, freePlace, law).
def gnS (S : gS) (q t n : Nat) : gS := (va_up S.1 q t, va_up S.2.1 q n, va_up S.2.2 q (fun _ => none))
def gn0 {α : Type} (z : α) (M : Nat → Nat → α) (q : Nat) : Nat → Nat → α := va_up M q (fun _ => z)
def gpR (S : gS) (a k : Nat) (b : Option Nat) : gS := (S.1, S.2.1, va_up S.2.2 a (va_up (S.2.2 a) k b))
theorem ga_v_setR (I : Nat → Int32) (J : Nat → Int64) (x : Option Nat) : ∀ (ks : List Nat) (R : Nat → Option Nat) (j k : Nat), ks[k]? = some 2 → (ga_v I J R ks j).set k (va_rf x) = ga_v I J (va_up R (j + k) x) ks j
  | [], _, _, k, h => by simp at h
  | y :: ks, R, j, 0, h => by
    have h : y = 2 := by simpa using h
    subst h
    have e : ∀ (ks : List Nat) (i : Nat), j < i → ga_v I J (va_up R (j + 0) x) ks i = ga_v I J R ks i := by
      intro ks
      induction ks with
      | nil => intro i _; rfl
      | cons y ks ih =>
        intro i hi
        show ga_1 I J (va_up R (j + 0) x) y i :: ga_v I J (va_up R (j + 0) x) ks (i + 1) = ga_1 I J R y i :: ga_v I J R ks (i + 1)
        rw [ih (i + 1) (by omega)]
        have : ga_1 I J (va_up R (j + 0) x) y i = ga_1 I J R y i := by unfold ga_1; rw [va_up_ne _ _ (by omega)]
        rw [this]
    show va_rf x :: ga_v I J R ks (j + 1) = ga_1 I J (va_up R (j + 0) x) 2 j :: ga_v I J (va_up R (j + 0) x) ks (j + 1)
    rw [e ks (j + 1) (by omega)]
    show _ = va_rf (va_up R (j + 0) x j) :: _
    rw [show va_up R (j + 0) x j = x from va_up_self _ _ _]
  | y :: ks, R, j, k + 1, h => by
    have h : ks[k]? = some 2 := by simpa using h
    show ga_1 I J R y j :: (ga_v I J R ks (j + 1)).set k (va_rf x) = ga_1 I J (va_up R (j + (k + 1)) x) y j :: ga_v I J (va_up R (j + (k + 1)) x) ks (j + 1)
    rw [ga_v_setR I J x ks R (j + 1) k h, show j + 1 + k = j + (k + 1) by omega]
    have : ga_1 I J (va_up R (j + (k + 1)) x) y j = ga_1 I J R y j := by unfold ga_1; rw [va_up_ne _ _ (by omega)]
    rw [this]
section GM
variable {p : Program} {l : Launch} {e : Env} {R : Room} {s : State} {m : MethodId} {args : Array Value} {below : List Frame} {meth : Method} {c : Code} {H : Heap} {locs : List Loc} {cells slots : Nat} {Q : State → Prop} {cc : ByteArray} {pc nL : Nat} {ls : Array Slot} {rest : List Value} {own : String} {D : va_G} {T : Nat → ClassId} {z : Nat} {L : List Nat} {S : gS} {I : gMI} {J : gMJ}
/-- a new cell in the pool -/
theorem ga_grow (hw : ga_W D T z L S I J s H locs) {q t n : Nat} {x : va_E} {H1 : Heap} (ht : t ≠ 0) (hx : x = ga_E T (gnS S q t n) (gn0 0 I q) (gn0 0 J q) q) (hP : va_P D ga_cl (va_pl L (ga_E T S I J) ++ [(q, x)]) H1) (hD : va_D (ga_A z) (va_pl L (ga_E T S I J) ++ [(q, x)])) (hS : va_S (ga_A z) s.heap H1 locs) : q ∉ L ∧ ga_W D T z (L ++ [q]) (gnS S q t n) (gn0 0 I q) (gn0 0 J q) s H1 locs := by
  have hq : q ∉ L := va_pl_fresh2 (X := []) hD
  have hE : ∀ b, va_up (ga_E T S I J) q x b = ga_E T (gnS S q t n) (gn0 0 I q) (gn0 0 J q) b := by
    intro b
    by_cases hb : b = q
    · subst hb; rw [va_up_self, hx]
    · rw [va_up_ne _ _ hb]
      unfold ga_E gnS gn0
      simp only [va_up_ne _ _ hb]
  rw [va_pl_push hq, va_pl_congr hE] at hP hD
  refine ⟨hq, hP, hD, hw.2.2.1, hS, fun a ha => ?_, hw.2.2.2.2.2⟩
  by_cases hb : a = q
  · subst hb; exact List.mem_append_right _ (List.mem_singleton.mpr rfl)
  · refine List.mem_append_left _ (hw.2.2.2.2.1 a ?_)
    have : (gnS S q t n).1 a = S.1 a := va_up_ne _ _ hb
    rw [this] at ha
    exact ha
theorem ga_hA (hw : ga_W D T z L S I J s H locs) : ∀ q, s.heap.size ≤ q → ga_A z q := fun q h => Nat.le_trans hw.2.2.2.2.2.1 h
/-- what 'new' of 'own' with number idx makes: an object of the class at place ci -/
def ga_N (own : String) (idx ci N : Nat) : Prop := ci < 20 ∧ ∃ (C : String) (Tb : u_T) (ty0 : Nat → FieldType), ga_cl[ci]? = some (C, Tb, N) ∧ (∀ w ∈ u_ws C Tb N, w ∈ ga_ws) ∧ (∀ k, k < N → parseFieldDescriptor (Tb k).2.2.1 = some (ty0 k)) ∧ Cond.classLink own idx C ∈ ga_ws ∧ Cond.instantiable C N ∈ ga_ws ∧ Cond.initialized C ∈ ga_ws ∧ (∀ j, j < N → defaultValue (ty0 j) = vp_V (ga_v (fun _ => 0) (fun _ => 0) (fun _ => none) (ga_kd ci) 0) j)
theorem ga_new (C : CallFix p m c cc nL s args ga_ws own) (hw : ga_W D T z L S I J s H locs) {idx ci N : Nat} (hn : ga_N own idx ci N) (hc : cells + 1 ≤ R.cells) (hs : slots + N ≤ R.slots) (hdg : decode cc pc = .ok (.new idx, 3))
    (kk : ∀ (q : Nat) (H1 : Heap), q ∉ L → ga_W D T z (L ++ [q]) (gnS S q (ci + 1) 0) (gn0 0 I q) (gn0 0 J q) s H1 locs → W p l e R s m args below meth c H1 locs (cells + 1) (slots + N) Q (F0 m (pc + 3) ls (.ref q :: rest))) : W p l e R s m args below meth c H locs cells slots Q (F0 m pc ls rest) := by
  obtain ⟨hci, Cn, Tb, ty0, hcl, hin, hty, h1, h2, h3, hdf⟩ := hn
  refine va_new C.1 C.2.1 C.2.2.2.2 hin ty0 hty C.2.2.2.1 (C.2.2.2.2 _ h1) (C.2.2.2.2 _ h2) (C.2.2.2.2 _ h3) hw.2.2.1 hw.1 hw.2.1 hw.2.2.2.1 (ga_hA hw) hcl hdf hc hs hdg (fun q H1 hP hD hS => ?_)
  obtain ⟨hq, hw'⟩ := ga_grow (t := ci + 1) (n := 0) hw (by omega) (by
    rw [ga_Eo (ci := ci) (show (gnS S q (ci + 1) 0).1 q = ci + 1 from va_up_self _ _ _) hci]
    unfold gnS gn0
    simp only [va_up_self]) hP hD hS
  exact kk q H1 hq hw'
theorem ga_cA {cA : ClassId} {t : Nat} {ty : FieldType} (hw : ga_W D T z L S I J s H locs) (ht : (ga_ty T)[t]? = some (T t, ty)) (hf : ∀ U (a : ClassId), va_RA U a ty → U.vm.findClass ("[" ++ ty.toString) = some a) (hr : va_RA s cA ty) : cA = T t := by
  have h1 := hf s _ (hw.2.2.1.2 t _ ht).2
  have h2 := hf s _ hr
  rw [h1] at h2
  exact (Option.some.inj h2).symm
theorem ga_newI (C : CallFix p m c cc nL s args ga_ws own) (hw : ga_W D T z L S I J s H locs) {n : Int32} {N : Nat} (ha : Cond.arrayClass .int ∈ ga_ws) (hn : ¬ n < 0) (hN : n.toNatClampNeg = N) (hb : N * 4 ≤ 536870912) (hc : cells + 1 ≤ R.cells) (hs : slots + N ≤ R.slots) (hdg : decode cc pc = .ok (.newarray .int, 2))
    (kk : ∀ (q : Nat) (H1 : Heap), q ∉ L → ga_W D T z (L ++ [q]) (gnS S q 21 N) (gn0 0 I q) (gn0 0 J q) s H1 locs → W p l e R s m args below meth c H1 locs (cells + 1) (slots + N) Q (F0 m (pc + 2) ls (.ref q :: rest))) : W p l e R s m args below meth c H locs cells slots Q (F0 m pc ls (.int n :: rest)) := by
  refine va_newa (atype := .int) (ty := .int) (a0 := (N, .inl (fun _ => 0))) C.1 C.2.1 (C.2.2.2.2 _ ha) rfl hw.2.2.1 hw.1 hw.2.1 hw.2.2.2.1 (ga_hA hw) (fun _ => rfl) hn hN hb hc hs hdg (fun q cA H1 hK hP hD hS => ?_)
  have hcA : cA = T 0 := ga_cA hw (t := 0) (ty := .int) rfl (fun _ _ h => h) (hK.2 8 _ rfl).2
  subst hcA
  obtain ⟨hq, hw'⟩ := ga_grow (t := 21) (n := N) hw (by omega) (by
    rw [ga_Ei (show (gnS S q 21 N).1 q = 21 from va_up_self _ _ _)]
    unfold gnS gn0
    simp only [va_up_self]) hP hD hS
  exact kk q H1 hq hw'
theorem ga_newZ (C : CallFix p m c cc nL s args ga_ws own) (hw : ga_W D T z L S I J s H locs) {n : Int32} {N : Nat} (ha : Cond.arrayClass .boolean ∈ ga_ws) (hn : ¬ n < 0) (hN : n.toNatClampNeg = N) (hb : N * 1 ≤ 536870912) (hc : cells + 1 ≤ R.cells) (hs : slots + N ≤ R.slots) (hdg : decode cc pc = .ok (.newarray .boolean, 2))
    (kk : ∀ (q : Nat) (H1 : Heap), q ∉ L → ga_W D T z (L ++ [q]) (gnS S q 22 N) (gn0 0 I q) (gn0 0 J q) s H1 locs → W p l e R s m args below meth c H1 locs (cells + 1) (slots + N) Q (F0 m (pc + 2) ls (.ref q :: rest))) : W p l e R s m args below meth c H locs cells slots Q (F0 m pc ls (.int n :: rest)) := by
  refine va_newa (atype := .boolean) (ty := .boolean) (a0 := (N, .inl (fun _ => 0))) C.1 C.2.1 (C.2.2.2.2 _ ha) rfl hw.2.2.1 hw.1 hw.2.1 hw.2.2.2.1 (ga_hA hw) (fun _ => rfl) hn hN hb hc hs hdg (fun q cA H1 hK hP hD hS => ?_)
  have hcA : cA = T 1 := ga_cA hw (t := 1) (ty := .boolean) rfl (fun _ _ h => h) (hK.2 8 _ rfl).2
  subst hcA
  obtain ⟨hq, hw'⟩ := ga_grow (t := 22) (n := N) hw (by omega) (by
    rw [ga_Ez (show (gnS S q 22 N).1 q = 22 from va_up_self _ _ _)]
    unfold gnS gn0
    simp only [va_up_self]) hP hD hS
  exact kk q H1 hq hw'
theorem ga_newJ (C : CallFix p m c cc nL s args ga_ws own) (hw : ga_W D T z L S I J s H locs) {n : Int32} {N : Nat} (ha : Cond.arrayClass .long ∈ ga_ws) (hn : ¬ n < 0) (hN : n.toNatClampNeg = N) (hb : N * 8 ≤ 536870912) (hc : cells + 1 ≤ R.cells) (hs : slots + N ≤ R.slots) (hdg : decode cc pc = .ok (.newarray .long, 2))
    (kk : ∀ (q : Nat) (H1 : Heap), q ∉ L → ga_W D T z (L ++ [q]) (gnS S q 23 N) (gn0 0 I q) (gn0 0 J q) s H1 locs → W p l e R s m args below meth c H1 locs (cells + 1) (slots + N) Q (F0 m (pc + 2) ls (.ref q :: rest))) : W p l e R s m args below meth c H locs cells slots Q (F0 m pc ls (.int n :: rest)) := by
  refine va_newa (atype := .long) (ty := .long) (a0 := (N, .inr (.inl (fun _ => 0)))) C.1 C.2.1 (C.2.2.2.2 _ ha) rfl hw.2.2.1 hw.1 hw.2.1 hw.2.2.2.1 (ga_hA hw) (fun _ => rfl) hn hN hb hc hs hdg (fun q cA H1 hK hP hD hS => ?_)
  have hcA : cA = T 2 := ga_cA hw (t := 2) (ty := .long) rfl (fun _ _ h => h) (hK.2 8 _ rfl).2
  subst hcA
  obtain ⟨hq, hw'⟩ := ga_grow (t := 23) (n := N) hw (by omega) (by
    rw [ga_Ej (show (gnS S q 23 N).1 q = 23 from va_up_self _ _ _)]
    unfold gnS gn0
    simp only [va_up_self]) hP hD hS
  exact kk q H1 hq hw'
/-- an array of references to objects of the class Cn, at place t of ga_ty -/
theorem ga_newR (C : CallFix p m c cc nL s args ga_ws own) (hw : ga_W D T z L S I J s H locs) {idx t N : Nat} {Cn : String} {n : Int32} (ht : (ga_ty T)[t]? = some (T t, .object Cn)) (h3 : 2 < t) (h8 : t < 8) (hcl : Cond.classLink own idx Cn ∈ ga_ws) (hao : va_AO Cn s) (hn : ¬ n < 0) (hN : n.toNatClampNeg = N) (hb : N * 4 ≤ 536870912) (hc : cells + 1 ≤ R.cells) (hs : slots + N ≤ R.slots) (hdg : decode cc pc = .ok (.anewarray idx, 3))
    (kk : ∀ (q : Nat) (H1 : Heap), q ∉ L → ga_W D T z (L ++ [q]) (gnS S q (21 + t) N) (gn0 0 I q) (gn0 0 J q) s H1 locs → W p l e R s m args below meth c H1 locs (cells + 1) (slots + N) Q (F0 m (pc + 3) ls (.ref q :: rest))) : W p l e R s m args below meth c H locs cells slots Q (F0 m pc ls (.int n :: rest)) := by
  refine va_newq C.1 C.2.1 C.2.2.2.1 (C.2.2.2.2 _ hcl) hao hw.2.2.1 hw.1 hw.2.1 hw.2.2.2.1 (ga_hA hw) hn hN hb hc hs hdg (fun q cA H1 hK hP hD hS => ?_)
  have hcA : cA = T t := ga_cA hw (t := t) (ty := .object Cn) ht (fun _ _ h => by obtain ⟨_, _, _, _, _, h4⟩ := h; exact h4) (hK.2 8 _ rfl).2
  subst hcA
  obtain ⟨hq, hw'⟩ := ga_grow (t := 21 + t) (n := N) hw (by omega) (by
    rw [ga_Er (t := 21 + t) (show (gnS S q (21 + t) N).1 q = 21 + t from va_up_self _ _ _) (by omega)]
    unfold gnS
    simp only [va_up_self, Nat.add_sub_cancel_left]) hP hD hS
  exact kk q H1 hq hw'
theorem ga_upS {a : Nat} {S' : gS} {x : va_E} (hx : x = ga_E T S' I J a) (h1 : ∀ b, b ≠ a → S'.1 b = S.1 b) (h2 : ∀ b, b ≠ a → S'.2.1 b = S.2.1 b) (h3 : ∀ b, b ≠ a → S'.2.2 b = S.2.2 b) : ∀ b, va_up (ga_E T S I J) a x b = ga_E T S' I J b := by
  intro b
  by_cases hb : b = a
  · subst hb; rw [va_up_self, hx]
  · rw [va_up_ne _ _ hb]; unfold ga_E; rw [h1 b hb, h2 b hb, h3 b hb]
theorem ga_setS (hw : ga_W D T z L S I J s H locs) {a q0 : Nat} {S' : gS} {x : va_E} (ht : S.1 a ≠ 0) (hq : (va_pl L (ga_E T S I J))[q0]? = some (a, ga_E T S I J a)) (hE : ∀ b, va_up (ga_E T S I J) a x b = ga_E T S' I J b) : (va_pl L (ga_E T S I J)).set q0 (a, x) = va_pl L (ga_E T S' I J) :=
  (va_pl_set (X := []) hw.2.1 (hw.2.2.2.2.1 a ht) hq).trans (va_pl_congr hE)
/-- a final field of references, in the constructor -/
def ga_PF (own : String) (idx ci k : Nat) (ty : FieldType) : Prop := ci < 20 ∧ (ga_kd ci)[k]? = some 2 ∧ ∃ (C : String) (Tb : u_T) (N : Nat) (ty0 : Nat → FieldType), ga_cl[ci]? = some (C, Tb, N) ∧ k < N ∧ N = (ga_kd ci).length ∧ (∀ w ∈ u_ws C Tb N, w ∈ ga_ws) ∧ Cond.fieldLink own idx (Tb k).1 (Tb k).2.1 (Tb k).2.2.1 ∈ ga_ws ∧ (∀ j, j < N → parseFieldDescriptor (Tb j).2.2.1 = some (ty0 j)) ∧ (∀ a, a < N → ∀ b, b < N → a ≠ b → (Tb a).2.1 ≠ (Tb b).2.1) ∧ (Tb k).2.2.2 = true ∧ (Tb k).1 = own ∧ parseFieldDescriptor (Tb k).2.2.1 = some ty
theorem ga_putR (C : CallFix p m c cc nL s args ga_ws own) (hw : ga_W D T z L S I J s H locs) {a b idx ci k : Nat} {ty : FieldType} (fl : ga_PF own idx ci k ty) (hm : meth.name = "<init>") (ht : S.1 a = ci + 1) (hn : narrow ty (.ref b) = .ref b) (hfit : fits ty (.ref b) = true) (hdg : decode cc pc = .ok (.putfield idx, 3))
    (kk : ∀ (H1 : Heap) (locs1 : List Loc), ga_W D T z L (gpR S a k (some b)) I J s H1 locs1 → W p l e R s m args below meth c H1 locs1 cells slots Q (F0 m (pc + 3) ls rest)) : W p l e R s m args below meth c H locs cells slots Q (F0 m pc ls (.ref b :: .ref a :: rest)) := by
  obtain ⟨hx, hb, -, hown, hts⟩ := C
  obtain ⟨hci, hkd, Cn, Tb, N, ty0, hc, hk, hN, hin, hlink, hty, hnm, hfin, hdecl, hd⟩ := fl
  obtain ⟨q0, hq⟩ := ga_at hw (a := a) (by omega)
  have hq' := hq
  rw [ga_Eo ht hci] at hq
  refine va_putF hx hb hts hin ty0 hty hnm hown hw.2.2.1 hw.1 hw.2.1 hw.2.2.2.1 q0 hq hc k hk (hts _ hlink) (fun _ h => h) hfin hm hdecl hd hn hfit (by rw [ga_v_len, ← hN]; exact hk) hdg (fun H1 locs1 hP hD hS => ?_)
  have hs := ga_setS (S' := gpR S a k (some b)) hw (by omega) hq' (ga_upS (x := .inr (ci, (ga_v (I a) (J a) (S.2.2 a) (ga_kd ci) 0).set k (.ref b))) (by
    rw [ga_Eo (S := gpR S a k (some b)) ht hci, show (Value.ref b) = va_rf (some b) from rfl, ga_v_setR (I a) (J a) (some b) (ga_kd ci) (S.2.2 a) 0 k hkd, Nat.zero_add]
    unfold gpR
    simp only [va_up_self]) (fun _ _ => rfl) (fun _ _ => rfl) (fun b h => va_up_ne _ _ h))
  rw [hs] at hP hD
  exact kk H1 locs1 ⟨hP, hD, hw.2.2.1, hS, hw.2.2.2.2⟩
/-- an object of the class at place ci goes into an array of references -/
theorem ga_rast (C : CallFix p m c cc nL s args ga_ws own) (hw : ga_W D T z L S I J s H locs) {a b t ci N : Nat} {Cn : String} {Tb : u_T} {i : Int32} (ht : S.1 a = 21 + t) (h3 : 2 < t) (hty : (ga_ty T)[t]? = some (T t, .object Cn)) (hcl : ga_cl[ci]? = some (Cn, Tb, N)) (hci : ci < 20) (hb : S.1 b = ci + 1) (hin : ¬ (i < 0 ∨ S.2.1 a ≤ i.toNatClampNeg)) (hdg : decode cc pc = .ok (.aastore, 1))
    (kk : ∀ (H1 : Heap) (locs1 : List Loc), ga_W D T z L (gpR S a i.toNatClampNeg (some b)) I J s H1 locs1 → W p l e R s m args below meth c H1 locs1 cells slots Q (F0 m (pc + 1) ls rest)) : W p l e R s m args below meth c H locs cells slots Q (F0 m pc ls (.ref b :: .int i :: .ref a :: rest)) := by
  obtain ⟨q0, hq⟩ := ga_at hw (a := a) (by omega)
  obtain ⟨q1, hr⟩ := ga_at hw (a := b) (by omega)
  have hq' := hq
  rw [ga_Er ht (by omega)] at hq
  rw [show 21 + t - 21 = t by omega] at hq
  rw [ga_Eo hb hci] at hr
  refine va_astq C.1 C.2.1 hw.2.2.1 hw.1 hw.2.1 hw.2.2.2.1 q0 t q1 ci (r := (Cn, Tb, N)) hq hty hr hcl hin hdg (fun H1 locs1 hP hD hS => ?_)
  have hs := ga_setS (S' := gpR S a i.toNatClampNeg (some b)) hw (by omega) hq' (ga_upS (x := .inl (T t, S.2.1 a, .inr (.inr (.inr (.inr (va_up (S.2.2 a) i.toNatClampNeg (some b))))))) (by
    rw [ga_Er (S := gpR S a i.toNatClampNeg (some b)) ht (by omega), show 21 + t - 21 = t by omega]
    unfold gpR
    simp only [va_up_self]) (fun _ _ => rfl) (fun _ _ => rfl) (fun b h => va_up_ne _ _ h))
  rw [hs] at hP hD
  exact kk H1 locs1 ⟨hP, hD, hw.2.2.1, hS, hw.2.2.2.2⟩
end GM
