/-- a method with handlers, called by the law: it answers r and leaves (S, I', J') -/
def ga_Wi (l : Launch) (y : MethodName) (cc : ByteArray) (nL : Nat) (ret : Option FieldType) (hh : List (Nat × Nat × Nat × Nat)) (rm : Room) (As : List Value) (D : va_G) (T : Nat → ClassId) (z : Nat) (L : List Nat) (S : gS) (I : gMI) (J : gMJ) (r : Int32) (I' : gMI) (J' : gMJ) : Prop :=
  Met l y (.codeWith y cc nL ret hh :: ga_ws) rm (va_Pc As (ga_Q D T z L S I J)) (va_Qi (fun (r' : Int32) (_ : Unit) => r' = r) (fun _ t => ga_O D T z L S I' J' t) (ga_A z)) rm.cells rm.slots (ga_A z)
def ga_YW (own : String) (idx : Nat) (y : MethodName) (bytes : ByteArray) (maxL : Nat) (ret : Option FieldType) (hh : List (Nat × Nat × Nat × Nat)) (n : Nat) : Prop := Cond.methodLink own idx y ∈ ga_ws ∧ Cond.static y ∈ ga_ws ∧ Cond.initialized y.cls ∈ ga_ws ∧ Cond.codeWith y bytes maxL ret hh ∈ ga_ws ∧ y.cls ≠ "java/lang/invoke/MethodHandle" ∧ y.cls ≠ "java/lang/invoke/VarHandle" ∧ (parseMethodDescriptor y.desc).map (fun d => d.parameters.length) = some n
section GWR
variable {p : Program} {l : Launch} {e : Env} {R : Room} {s : State} {m : MethodId} {args : Array Value} {below : List Frame} {meth : Method} {c : Code} {H : Heap} {locs : List Loc} {cells slots : Nat} {Q : State → Prop} {cc : ByteArray} {pc nL : Nat} {ls : Array Slot} {rest st0 : List Value} {own : String} {D : va_G} {T : Nat → ClassId} {z : Nat} {L : List Nat} {S : gS} {I I' : gMI} {J J' : gMJ} {y : MethodName} {bytes : ByteArray} {maxL n idx : Nat} {ret : Option FieldType} {hh : List (Nat × Nat × Nat × Nat)} {rm : Room} {As : List Value}
theorem ga_goodW (hy : ga_YW own idx y bytes maxL ret hh n) : GoodIn ga_ws (va_wsS own idx y (.codeWith y bytes maxL ret hh :: ga_ws)) := by
  obtain ⟨h1, h2, h3, h4, -⟩ := hy
  intro w hw
  have hm : w ∈ ga_ws := by
    rcases List.mem_append.mp hw with h | h
    · simp only [List.mem_cons, List.not_mem_nil, or_false] at h
      rcases h with rfl | rfl | rfl
      · exact h1
      · exact h2
      · exact h3
    · rcases List.mem_cons.mp h with rfl | h
      · exact h4
      · exact h
  exact ⟨hm, good_of_word (ga_ok w hm)⟩
theorem ga_cWi {r : Int32} (C : CallFix p m c cc nL s args ga_ws own) (hw : ga_W D T z L S I J s H locs) (hM : ga_Wi l y bytes maxL ret hh rm As D T z L S I J r I' J') (hy : ga_YW own idx y bytes maxL ret hh n) (hn : As.length = n) (hsz : ls.size = nL) (hR : rm.frames + 1 ≤ R.frames ∧ 8 + (maxL + 11) + rm.locals ≤ R.locals ∧ cells + rm.cells ≤ R.cells ∧ slots + rm.slots ≤ R.slots) (hrest : (rest.map fun v => v.category).sum ≤ 8) (hst : st0 = As.reverse ++ rest) (hdg : decode cc pc = .ok (.invokestatic idx, 3))
    (kk : ∀ (H1 : Heap) (locs1 : List Loc), ga_W D T z L S I' J' s H1 locs1 → W p l e R s m args below meth c H1 locs1 (cells + rm.cells) (slots + rm.slots) Q (F0 m (pc + 3) ls (.int r :: rest))) : W p l e R s m args below meth c H locs cells slots Q (F0 m pc ls st0) := by
  have hy' := hy
  obtain ⟨-, -, -, -, h6, h7, h8⟩ := hy'
  refine va_calli (vx_runSW (As := As) (rest := rest) C hM (vx_cwSW n C.2.2.2.2 (ga_goodW hy) rfl rfl rfl ⟨h6, h7, h8⟩ ⟨hR.1, hR.2.1⟩) (ga_pre hw As) rfl hn hsz hst (lv_room hrest) hdg ⟨hR.2.2.1, hR.2.2.2⟩) hw.2.2.2.1 (fun q _ h => h) (fun q h => h) (fun r' u t H1 locs1 ht hvm hr hB _ _ hS => ?_)
  subst hr
  exact kk H1 locs1 (ga_out hw ht hS hB)
end GWR
