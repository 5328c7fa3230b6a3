section LAWK
variable {p : Program} {l : Launch} {e : Env} {s : State} {m : MethodId} {args : Array Value} {below : List Frame} {meth : Method} {c : Code} {H : Heap} {locs : List Loc} {cells slots : Nat} {Q : State → Prop} {ls : Array Slot} {D : va_G} {T : Nat → ClassId} {z b L bb h g o : Nat} {xs : Nat → Int32} {i : Int32} {u : gG} {A : Nat → Nat} {ex : Nat → Bool}
set_option maxHeartbeats 4000000 in
set_option maxRecDepth 100000 in
theorem lw_0 (hC : lwC p l s m c args z b L xs) (hS : lwS D T z s H locs b h g o i bb ls u A ex) (hv : lwV i L) (hc : cells + 36 ≤ room_1.cells) (hs : slots + 4184 ≤ room_1.slots) (hb1 : bb + 1000 < 2 ^ 20) (hk : lwK p l e s m args below meth c D T z b h g o i bb cells slots Q) : W p l e room_1 s m args below meth c H locs cells slots Q (F0 m 136 ls []) := by
  obtain ⟨C, hl9, hN, hX, hbl, hbA⟩ := hC
  obtain ⟨hv1, hv2, hv3, hv4, hv5⟩ := hv
  obtain ⟨Lc, S, I, J⟩ := u
  obtain ⟨rfl, rfl, rfl, hL, hr, hw, hl⟩ := hS
  have hL : Lay S A ex := hL
  have hr : Rel (cI A I) (cJ A J) ex bb := hr
  have hw : ga_W D T z Lc S I J s H locs := hw
  have hx := C.1
  have hb := C.2.1
  obtain ⟨k, I1, J1, r, I2, hf1, hf2, hth, heq, hr2⟩ := op_record hL hr (xs (i + 1).toNatClampNeg) (xs (i + 2).toNatClampNeg)
  have hr2 := hr2.mono (show bb ≤ bb + 1000 by omega)
  have hth : f_M_thrown S I2 J1 (A 6) = some k := by rw [f_M_thrown, gd_in (ev_m hL), hth]
  have hc1 : cells + rm_L_record.cells ≤ room_1.cells := Nat.le_trans (Nat.add_le_add_left (Nat.le_of_ble_eq_true rfl) cells) hc
  have hs1 : slots + rm_L_record.slots ≤ room_1.slots := Nat.le_trans (Nat.add_le_add_left (Nat.le_of_ble_eq_true rfl) slots) hs
  refine lv_aload_n hx hb d_L_law_136 rfl (lv_at hl 1 rfl) ?_
  refine lv_aload_n hx hb d_L_law_137 rfl (lv_at hl 0 rfl) ?_
  refine lv_iload hx hb d_L_law_138 (lv_at hl 4 rfl) ?_
  refine lv_iconst (v := 1) hx hb d_L_law_140 (by decide) ?_
  refine lv_iadd hx hb d_L_law_141 ?_
  refine va_sld hx hb hX hbl hbA hw.2.2.2.1 hv1 d_L_law_142 ?_
  refine lv_aload_n hx hb d_L_law_143 rfl (lv_at hl 0 rfl) ?_
  refine lv_iload hx hb d_L_law_144 (lv_at hl 4 rfl) ?_
  refine lv_iconst (v := 2) hx hb d_L_law_146 (by decide) ?_
  refine lv_iadd hx hb d_L_law_147 ?_
  refine va_sld hx hb hX hbl hbA hw.2.2.2.1 hv2 d_L_law_148 ?_
  refine lv_aload_n hx hb d_L_law_149 rfl (lv_at hl 3 rfl) ?_
  refine ga_cWi (As := [.ref (A 0), .int (xs (i + 1).toNatClampNeg), .int (xs (i + 2).toNatClampNeg), .ref (A 7)]) C hw (c_L_record l D T z Lc hl9 hf1) gsw_L_84 rfl hl.1 ⟨Nat.le_of_ble_eq_true rfl, Nat.le_of_ble_eq_true rfl, hc1, hs1⟩ (Nat.le_of_ble_eq_true rfl) rfl d_L_law_150 (fun H locs hw => ?_)
  refine lv_istore hx hb d_L_law_153 hl (by decide) rfl (fun ls hl => ?_)
  have hl : lv_has ls 8 [(5, .int k), (0, .ref b), (1, .ref (A 0)), (2, .ref (A 6)), (3, .ref (A 7)), (4, .int i)] := hl
  refine lv_aload_n hx hb d_L_law_155 rfl (lv_at hl 3 rfl) ?_
  refine lv_aload_n hx hb d_L_law_156 rfl (lv_at hl 1 rfl) ?_
  refine lv_iload hx hb d_L_law_157 (lv_at hl 5 rfl) ?_
  refine lv_iconst (v := 1) hx hb d_L_law_159 (by decide) ?_
  refine lv_iadd hx hb d_L_law_160 ?_
  refine va_sld hx hb hX hbl hbA hw.2.2.2.1 hv1 d_L_law_161 ?_
  refine lv_aload_n hx hb d_L_law_162 rfl (lv_at hl 1 rfl) ?_
  refine lv_iload hx hb d_L_law_163 (lv_at hl 5 rfl) ?_
  refine lv_iconst (v := 2) hx hb d_L_law_165 (by decide) ?_
  refine lv_iadd hx hb d_L_law_166 ?_
  refine va_sld hx hb hX hbl hbA hw.2.2.2.1 hv2 d_L_law_167 ?_
  refine ga_cVi (As := [.int (xs (i + 1).toNatClampNeg), .int (xs (i + 2).toNatClampNeg)]) C hw (c_M_record l D T z Lc hf2) gy_L_89 (ev_m hL) rfl hl.1 ⟨Nat.le_of_ble_eq_true rfl, Nat.le_of_ble_eq_true rfl, rfl, rfl, hc1, hs1⟩ (Nat.le_of_ble_eq_true rfl) rfl d_L_law_168 (fun H locs hw => ?_)
  refine lv_istore hx hb d_L_law_171 hl (by decide) rfl (fun ls hl => ?_)
  have hl : lv_has ls 8 [(6, .int r), (5, .int k), (0, .ref b), (1, .ref (A 0)), (2, .ref (A 6)), (3, .ref (A 7)), (4, .int i)] := hl
  refine lv_aload_n hx hb d_L_law_173 rfl (lv_at hl 4 rfl) ?_
  refine ga_cVi (As := []) C hw (c_M_thrown l D T z Lc hth) gy_L_90 (ev_m hL) rfl hl.1 ⟨Nat.le_of_ble_eq_true rfl, Nat.le_of_ble_eq_true rfl, rfl, rfl, hc1, hs1⟩ (Nat.le_of_ble_eq_true rfl) rfl d_L_law_174 (fun H locs hw => ?_)
  refine lv_iload hx hb d_L_law_177 (lv_at hl 1 rfl) ?_
  refine lv_icmp_eq (tgt := 184) hx hb d_L_law_179 (by decide) (fun _ => ?_) (fun hn => absurd rfl hn)
  refine lv_iload hx hb d_L_law_184 (lv_at hl 1 rfl) ?_
  by_cases h0 : k = 0
  · refine lv_if_ne (tgt := 201) hx hb d_L_law_186 (by decide) (fun hn => absurd h0 hn) (fun _ => ?_)
    have heq := heq h0
    refine lv_aload_n hx hb d_L_law_189 rfl (lv_at hl 5 rfl) ?_
    refine lv_iconst (v := 0) hx hb d_L_law_190 (by decide) ?_
    refine ga_lald C hw (ev_7 hL) (by rw [ev_7n hL]; decide) d_L_law_191 ?_
    refine lv_iload hx hb d_L_law_192 (lv_at hl 0 rfl) ?_
    refine lv_i2l hx hb d_L_law_194 rfl ?_
    refine W.lcmp hx hb d_L_law_195 ?_
    refine lv_if_eq (tgt := 201) hx hb d_L_law_196 (by decide) (fun _ => ?_) (fun hn => absurd (lw_cmp heq) hn)
    refine lv_goto (tgt := 1371) hx hb d_L_law_201 (by decide) ?_
    exact hk (_, _, _, _) A ex _ _ _ _ _ ⟨rfl, rfl, rfl, hL, hr2, hw, lv_sub hl [2, 3, 4, 5, 6] rfl⟩ (Nat.add_le_add_left (Nat.le_of_ble_eq_true rfl) cells) (Nat.add_le_add_left (Nat.le_of_ble_eq_true rfl) slots)
  · refine lv_if_ne (tgt := 201) hx hb d_L_law_186 (by decide) (fun _ => ?_) (fun hp => absurd hp h0)
    refine lv_goto (tgt := 1371) hx hb d_L_law_201 (by decide) ?_
    exact hk (_, _, _, _) A ex _ _ _ _ _ ⟨rfl, rfl, rfl, hL, hr2, hw, lv_sub hl [2, 3, 4, 5, 6] rfl⟩ (Nat.add_le_add_left (Nat.le_of_ble_eq_true rfl) cells) (Nat.add_le_add_left (Nat.le_of_ble_eq_true rfl) slots)
end LAWK
