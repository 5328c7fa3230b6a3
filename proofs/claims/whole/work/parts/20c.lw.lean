section LAWK
variable {p : Program} {l : Launch} {e : Env} {s : State} {m : MethodId} {args : Array Value} {below : List Frame} {meth : Method} {c : Code} {H : Heap} {locs : List Loc} {cells slots : Nat} {Q : State → Prop} {ls : Array Slot} {D : va_G} {T : Nat → ClassId} {z b L bb h g o : Nat} {xs : Nat → Int32} {i : Int32} {u : gG} {A : Nat → Nat} {ex : Nat → Bool}
set_option maxHeartbeats 4000000 in
set_option maxRecDepth 100000 in
theorem lw_0 (hC : lwC p l s m c args z b L xs) (hS : lwS D T z s H locs b h g o i bb ls u A ex) (hv : lwV i L) (hc : cells + 36 ≤ room_1.cells) (hs : slots + 4184 ≤ room_1.slots) (hb1 : bb + 1000 < 2 ^ 20) (hk : lwK p l e s m args below meth c D T z b h g o i bb cells slots Q) : W p l e room_1 s m args below meth c H locs cells slots Q (F0 m 136 ls []) := by
  obtain ⟨C, hl9, hN, hX, hbl, hbA⟩ := hC
  obtain ⟨hv1, hv2, hv3, hv4, hv5⟩ := hv
  obtain ⟨Lc, S, I, J⟩ := u
  obtain ⟨rfl, rfl, rfl, hL, hr, hw, hl⟩ := hS
  have hL : Lay S A ex := hL
  have hr : Rel (cI A I) (cJ A J) ex bb := hr
  have hw : ga_W D T z Lc S I J s H locs := hw
  have hx := C.1
  have hb := C.2.1
  obtain ⟨k, I1, J1, r, I2, hf1, hf2, hth, heq, hr2⟩ := op_record hL hr (xs (i + 1).toNatClampNeg) (xs (i + 2).toNatClampNeg)
  have hr2 := hr2.mono (show bb ≤ bb + 1000 by omega)
  have hth : f_M_thrown S I2 J1 (A 6) = some k := by rw [f_M_thrown, gd_in (ev_m hL), hth]
  have hc1 : cells + rm_L_record.cells ≤ room_1.cells := Nat.le_trans (Nat.add_le_add_left (Nat.le_of_ble_eq_true rfl) cells) hc
  have hs1 : slots + rm_L_record.slots ≤ room_1.slots := Nat.le_trans (Nat.add_le_add_left (Nat.le_of_ble_eq_true rfl) slots) hs
  refine lv_aload_n hx hb d_L_law_136 rfl (lv_at hl 1 rfl) ?_
  refine lv_aload_n hx hb d_L_law_137 rfl (lv_at hl 0 rfl) ?_
  refine lv_iload hx hb d_L_law_138 (lv_at hl 4 rfl) ?_
  refine lv_iconst (v := 1) hx hb d_L_law_140 (by decide) ?_
  refine lv_iadd hx hb d_L_law_141 ?_
  refine va_sld hx hb hX hbl hbA hw.2.2.2.1 hv1 d_L_law_142 ?_
  refine lv_aload_n hx hb d_L_law_143 rfl (lv_at hl 0 rfl) ?_
  refine lv_iload hx hb d_L_law_144 (lv_at hl 4 rfl) ?_
  refine lv_iconst (v := 2) hx hb d_L_law_146 (by decide) ?_
  refine lv_iadd hx hb d_L_law_147 ?_
  refine va_sld hx hb hX hbl hbA hw.2.2.2.1 hv2 d_L_law_148 ?_
  refine lv_aload_n hx hb d_L_law_149 rfl (lv_at hl 3 rfl) ?_
  refine ga_cWi (As := [.ref (A 0), .int (xs (i + 1).toNatClampNeg), .int (xs (i + 2).toNatClampNeg), .ref (A 7)]) C hw (c_L_record l D T z Lc hl9 hf1) gsw_L_84 rfl hl.1 ⟨Nat.le_of_ble_eq_true rfl, Nat.le_of_ble_eq_true rfl, hc1, hs1⟩ (Nat.le_of_ble_eq_true rfl) rfl d_L_law_150 (fun H locs hw => ?_)
  refine lv_istore hx hb d_L_law_153 hl (by decide) rfl (fun ls hl => ?_)
  have hl : lv_has ls 8 [(5, .int k), (0, .ref b), (1, .ref (A 0)), (2, .ref (A 6)), (3, .ref (A 7)), (4, .int i)] := hl
  refine lv_aload_n hx hb d_L_law_155 rfl (lv_at hl 3 rfl) ?_
  refine lv_aload_n hx hb d_L_law_156 rfl (lv_at hl 1 rfl) ?_
  refine lv_iload hx hb d_L_law_157 (lv_at hl 5 rfl) ?_
  refine lv_iconst (v := 1) hx hb d_L_law_159 (by decide) ?_
  refine lv_iadd hx hb d_L_law_160 ?_
  refine va_sld hx hb hX hbl hbA hw.2.2.2.1 hv1 d_L_law_161 ?_
  refine lv_aload_n hx hb d_L_law_162 rfl (lv_at hl 1 rfl) ?_
  refine lv_iload hx hb d_L_law_163 (lv_at hl 5 rfl) ?_
  refine lv_iconst (v := 2) hx hb d_L_law_165 (by decide) ?_
  refine lv_iadd hx hb d_L_law_166 ?_
  refine va_sld hx hb hX hbl hbA hw.2.2.2.1 hv2 d_L_law_167 ?_
  refine ga_cVi (As := [.int (xs (i + 1).toNatClampNeg), .int (xs (i + 2).toNatClampNeg)]) C hw (c_M_record l D T z Lc hf2) gy_L_89 (ev_m hL) rfl hl.1 ⟨Nat.le_of_ble_eq_true rfl, Nat.le_of_ble_eq_true rfl, rfl, rfl, hc1, hs1⟩ (Nat.le_of_ble_eq_true rfl) rfl d_L_law_168 (fun H locs hw => ?_)
  refine lv_istore hx hb d_L_law_171 hl (by decide) rfl (fun ls hl => ?_)
  have hl : lv_has ls 8 [(6, .int r), (5, .int k), (0, .ref b), (1, .ref (A 0)), (2, .ref (A 6)), (3, .ref (A 7)), (4, .int i)] := hl
  refine lv_aload_n hx hb d_L_law_173 rfl (lv_at hl 4 rfl) ?_
  refine ga_cVi (As := []) C hw (c_M_thrown l D T z Lc hth) gy_L_90 (ev_m hL) rfl hl.1 ⟨Nat.le_of_ble_eq_true rfl, Nat.le_of_ble_eq_true rfl, rfl, rfl, hc1, hs1⟩ (Nat.le_of_ble_eq_true rfl) rfl d_L_law_174 (fun H locs hw => ?_)
  refine lv_iload hx hb d_L_law_177 (lv_at hl 1 rfl) ?_
  refine lv_icmp_eq (tgt := 184) hx hb d_L_law_179 (by decide) (fun _ => ?_) (fun hn => absurd rfl hn)
  refine lv_iload hx hb d_L_law_184 (lv_at hl 1 rfl) ?_
  by_cases h0 : k = 0
  · refine lv_if_ne (tgt := 201) hx hb d_L_law_186 (by decide) (fun hn => absurd h0 hn) (fun _ => ?_)
    have heq := heq h0
    refine lv_aload_n hx hb d_L_law_189 rfl (lv_at hl 5 rfl) ?_
    refine lv_iconst (v := 0) hx hb d_L_law_190 (by decide) ?_
    refine ga_lald C hw (ev_7 hL) (by rw [ev_7n hL]; decide) d_L_law_191 ?_
    refine lv_iload hx hb d_L_law_192 (lv_at hl 0 rfl) ?_
    refine lv_i2l hx hb d_L_law_194 rfl ?_
    refine W.lcmp hx hb d_L_law_195 ?_
    refine lv_if_eq (tgt := 201) hx hb d_L_law_196 (by decide) (fun _ => ?_) (fun hn => absurd (lw_cmp heq) hn)
    refine lv_goto (tgt := 1371) hx hb d_L_law_201 (by decide) ?_
    exact hk (_, _, _, _) A ex _ _ _ _ _ ⟨rfl, rfl, rfl, hL, hr2, hw, lv_sub hl [2, 3, 4, 5, 6] rfl⟩ (Nat.add_le_add_left (Nat.le_of_ble_eq_true rfl) cells) (Nat.add_le_add_left (Nat.le_of_ble_eq_true rfl) slots)
  · refine lv_if_ne (tgt := 201) hx hb d_L_law_186 (by decide) (fun _ => ?_) (fun hp => absurd hp h0)
    refine lv_goto (tgt := 1371) hx hb d_L_law_201 (by decide) ?_
    exact hk (_, _, _, _) A ex _ _ _ _ _ ⟨rfl, rfl, rfl, hL, hr2, hw, lv_sub hl [2, 3, 4, 5, 6] rfl⟩ (Nat.add_le_add_left (Nat.le_of_ble_eq_true rfl) cells) (Nat.add_le_add_left (Nat.le_of_ble_eq_true rfl) slots)
set_option maxHeartbeats 4000000 in
set_option maxRecDepth 100000 in
theorem lw_1 (hC : lwC p l s m c args z b L xs) (hS : lwS D T z s H locs b h g o i bb ls u A ex) (hv : lwV i L) (hc : cells + 36 ≤ room_1.cells) (hs : slots + 4184 ≤ room_1.slots) (hb1 : bb + 1000 < 2 ^ 20) (hk : lwK p l e s m args below meth c D T z b h g o i bb cells slots Q) : W p l e room_1 s m args below meth c H locs cells slots Q (F0 m 204 ls []) := by
  obtain ⟨C, hl9, hN, hX, hbl, hbA⟩ := hC
  obtain ⟨hv1, hv2, hv3, hv4, hv5⟩ := hv
  obtain ⟨Lc, S, I, J⟩ := u
  obtain ⟨rfl, rfl, rfl, hL, hr, hw, hl⟩ := hS
  have hL : Lay S A ex := hL
  have hr : Rel (cI A I) (cJ A J) ex bb := hr
  have hw : ga_W D T z Lc S I J s H locs := hw
  have hx := C.1
  have hb := C.2.1
  obtain ⟨k, I1, J1, r, I2, hf1, hf2, hth, heq, hr2⟩ := op_fill hL hr (xs (i + 1).toNatClampNeg) (xs (i + 2).toNatClampNeg) (xs (i + 3).toNatClampNeg) (xs (i + 4).toNatClampNeg) (xs (i + 5).toNatClampNeg)
  have hr2 := hr2.mono (show bb ≤ bb + 1000 by omega)
  have hth : f_M_thrown S I2 J1 (A 6) = some k := by rw [f_M_thrown, gd_in (ev_m hL), hth]
  have hc1 : cells + rm_L_fill.cells ≤ room_1.cells := Nat.le_trans (Nat.add_le_add_left (Nat.le_of_ble_eq_true rfl) cells) hc
  have hs1 : slots + rm_L_fill.slots ≤ room_1.slots := Nat.le_trans (Nat.add_le_add_left (Nat.le_of_ble_eq_true rfl) slots) hs
  refine lv_aload_n hx hb d_L_law_204 rfl (lv_at hl 1 rfl) ?_
  refine lv_aload_n hx hb d_L_law_205 rfl (lv_at hl 0 rfl) ?_
  refine lv_iload hx hb d_L_law_206 (lv_at hl 4 rfl) ?_
  refine lv_iconst (v := 1) hx hb d_L_law_208 (by decide) ?_
  refine lv_iadd hx hb d_L_law_209 ?_
  refine va_sld hx hb hX hbl hbA hw.2.2.2.1 hv1 d_L_law_210 ?_
  refine lv_aload_n hx hb d_L_law_211 rfl (lv_at hl 0 rfl) ?_
  refine lv_iload hx hb d_L_law_212 (lv_at hl 4 rfl) ?_
  refine lv_iconst (v := 2) hx hb d_L_law_214 (by decide) ?_
  refine lv_iadd hx hb d_L_law_215 ?_
  refine va_sld hx hb hX hbl hbA hw.2.2.2.1 hv2 d_L_law_216 ?_
  refine lv_aload_n hx hb d_L_law_217 rfl (lv_at hl 0 rfl) ?_
  refine lv_iload hx hb d_L_law_218 (lv_at hl 4 rfl) ?_
  refine lv_iconst (v := 3) hx hb d_L_law_220 (by decide) ?_
  refine lv_iadd hx hb d_L_law_221 ?_
  refine va_sld hx hb hX hbl hbA hw.2.2.2.1 hv3 d_L_law_222 ?_
  refine lv_aload_n hx hb d_L_law_223 rfl (lv_at hl 0 rfl) ?_
  refine lv_iload hx hb d_L_law_224 (lv_at hl 4 rfl) ?_
  refine lv_iconst (v := 4) hx hb d_L_law_226 (by decide) ?_
  refine lv_iadd hx hb d_L_law_227 ?_
  refine va_sld hx hb hX hbl hbA hw.2.2.2.1 hv4 d_L_law_228 ?_
  refine lv_aload_n hx hb d_L_law_229 rfl (lv_at hl 0 rfl) ?_
  refine lv_iload hx hb d_L_law_230 (lv_at hl 4 rfl) ?_
  refine lv_iconst (v := 5) hx hb d_L_law_232 (by decide) ?_
  refine lv_iadd hx hb d_L_law_233 ?_
  refine va_sld hx hb hX hbl hbA hw.2.2.2.1 hv5 d_L_law_234 ?_
  refine lv_aload_n hx hb d_L_law_235 rfl (lv_at hl 3 rfl) ?_
  refine ga_cWi (As := [.ref (A 0), .int (xs (i + 1).toNatClampNeg), .int (xs (i + 2).toNatClampNeg), .int (xs (i + 3).toNatClampNeg), .int (xs (i + 4).toNatClampNeg), .int (xs (i + 5).toNatClampNeg), .ref (A 7)]) C hw (c_L_fill l D T z Lc hl9 hf1) gsw_L_94 rfl hl.1 ⟨Nat.le_of_ble_eq_true rfl, Nat.le_of_ble_eq_true rfl, hc1, hs1⟩ (Nat.le_of_ble_eq_true rfl) rfl d_L_law_236 (fun H locs hw => ?_)
  refine lv_istore hx hb d_L_law_239 hl (by decide) rfl (fun ls hl => ?_)
  have hl : lv_has ls 8 [(5, .int k), (0, .ref b), (1, .ref (A 0)), (2, .ref (A 6)), (3, .ref (A 7)), (4, .int i)] := hl
  refine lv_aload_n hx hb d_L_law_241 rfl (lv_at hl 3 rfl) ?_
  refine lv_aload_n hx hb d_L_law_242 rfl (lv_at hl 1 rfl) ?_
  refine lv_iload hx hb d_L_law_243 (lv_at hl 5 rfl) ?_
  refine lv_iconst (v := 1) hx hb d_L_law_245 (by decide) ?_
  refine lv_iadd hx hb d_L_law_246 ?_
  refine va_sld hx hb hX hbl hbA hw.2.2.2.1 hv1 d_L_law_247 ?_
  refine lv_aload_n hx hb d_L_law_248 rfl (lv_at hl 1 rfl) ?_
  refine lv_iload hx hb d_L_law_249 (lv_at hl 5 rfl) ?_
  refine lv_iconst (v := 2) hx hb d_L_law_251 (by decide) ?_
  refine lv_iadd hx hb d_L_law_252 ?_
  refine va_sld hx hb hX hbl hbA hw.2.2.2.1 hv2 d_L_law_253 ?_
  refine lv_aload_n hx hb d_L_law_254 rfl (lv_at hl 1 rfl) ?_
  refine lv_iload hx hb d_L_law_255 (lv_at hl 5 rfl) ?_
  refine lv_iconst (v := 3) hx hb d_L_law_257 (by decide) ?_
  refine lv_iadd hx hb d_L_law_258 ?_
  refine va_sld hx hb hX hbl hbA hw.2.2.2.1 hv3 d_L_law_259 ?_
  refine lv_aload_n hx hb d_L_law_260 rfl (lv_at hl 1 rfl) ?_
  refine lv_iload hx hb d_L_law_261 (lv_at hl 5 rfl) ?_
  refine lv_iconst (v := 4) hx hb d_L_law_263 (by decide) ?_
  refine lv_iadd hx hb d_L_law_264 ?_
  refine va_sld hx hb hX hbl hbA hw.2.2.2.1 hv4 d_L_law_265 ?_
  refine lv_aload_n hx hb d_L_law_266 rfl (lv_at hl 1 rfl) ?_
  refine lv_iload hx hb d_L_law_267 (lv_at hl 5 rfl) ?_
  refine lv_iconst (v := 5) hx hb d_L_law_269 (by decide) ?_
  refine lv_iadd hx hb d_L_law_270 ?_
  refine va_sld hx hb hX hbl hbA hw.2.2.2.1 hv5 d_L_law_271 ?_
  refine ga_cVi (As := [.int (xs (i + 1).toNatClampNeg), .int (xs (i + 2).toNatClampNeg), .int (xs (i + 3).toNatClampNeg), .int (xs (i + 4).toNatClampNeg), .int (xs (i + 5).toNatClampNeg)]) C hw (c_M_fill l D T z Lc hf2) gy_L_97 (ev_m hL) rfl hl.1 ⟨Nat.le_of_ble_eq_true rfl, Nat.le_of_ble_eq_true rfl, rfl, rfl, hc1, hs1⟩ (Nat.le_of_ble_eq_true rfl) rfl d_L_law_272 (fun H locs hw => ?_)
  refine lv_istore hx hb d_L_law_275 hl (by decide) rfl (fun ls hl => ?_)
  have hl : lv_has ls 8 [(6, .int r), (5, .int k), (0, .ref b), (1, .ref (A 0)), (2, .ref (A 6)), (3, .ref (A 7)), (4, .int i)] := hl
  refine lv_aload_n hx hb d_L_law_277 rfl (lv_at hl 4 rfl) ?_
  refine ga_cVi (As := []) C hw (c_M_thrown l D T z Lc hth) gy_L_90 (ev_m hL) rfl hl.1 ⟨Nat.le_of_ble_eq_true rfl, Nat.le_of_ble_eq_true rfl, rfl, rfl, hc1, hs1⟩ (Nat.le_of_ble_eq_true rfl) rfl d_L_law_278 (fun H locs hw => ?_)
  refine lv_iload hx hb d_L_law_281 (lv_at hl 1 rfl) ?_
  refine lv_icmp_eq (tgt := 288) hx hb d_L_law_283 (by decide) (fun _ => ?_) (fun hn => absurd rfl hn)
  refine lv_iload hx hb d_L_law_288 (lv_at hl 1 rfl) ?_
  by_cases h0 : k = 0
  · refine lv_if_ne (tgt := 305) hx hb d_L_law_290 (by decide) (fun hn => absurd h0 hn) (fun _ => ?_)
    have heq := heq h0
    refine lv_aload_n hx hb d_L_law_293 rfl (lv_at hl 5 rfl) ?_
    refine lv_iconst (v := 0) hx hb d_L_law_294 (by decide) ?_
    refine ga_lald C hw (ev_7 hL) (by rw [ev_7n hL]; decide) d_L_law_295 ?_
    refine lv_iload hx hb d_L_law_296 (lv_at hl 0 rfl) ?_
    refine lv_i2l hx hb d_L_law_298 rfl ?_
    refine W.lcmp hx hb d_L_law_299 ?_
    refine lv_if_eq (tgt := 305) hx hb d_L_law_300 (by decide) (fun _ => ?_) (fun hn => absurd (lw_cmp heq) hn)
    refine lv_goto (tgt := 1371) hx hb d_L_law_305 (by decide) ?_
    exact hk (_, _, _, _) A ex _ _ _ _ _ ⟨rfl, rfl, rfl, hL, hr2, hw, lv_sub hl [2, 3, 4, 5, 6] rfl⟩ (Nat.add_le_add_left (Nat.le_of_ble_eq_true rfl) cells) (Nat.add_le_add_left (Nat.le_of_ble_eq_true rfl) slots)
  · refine lv_if_ne (tgt := 305) hx hb d_L_law_290 (by decide) (fun _ => ?_) (fun hp => absurd hp h0)
    refine lv_goto (tgt := 1371) hx hb d_L_law_305 (by decide) ?_
    exact hk (_, _, _, _) A ex _ _ _ _ _ ⟨rfl, rfl, rfl, hL, hr2, hw, lv_sub hl [2, 3, 4, 5, 6] rfl⟩ (Nat.add_le_add_left (Nat.le_of_ble_eq_true rfl) cells) (Nat.add_le_add_left (Nat.le_of_ble_eq_true rfl) slots)
set_option maxHeartbeats 4000000 in
set_option maxRecDepth 100000 in
theorem lw_2 (hC : lwC p l s m c args z b L xs) (hS : lwS D T z s H locs b h g o i bb ls u A ex) (hv : lwV i L) (hc : cells + 36 ≤ room_1.cells) (hs : slots + 4184 ≤ room_1.slots) (hb1 : bb + 1000 < 2 ^ 20) (hk : lwK p l e s m args below meth c D T z b h g o i bb cells slots Q) : W p l e room_1 s m args below meth c H locs cells slots Q (F0 m 308 ls []) := by
  obtain ⟨C, hl9, hN, hX, hbl, hbA⟩ := hC
  obtain ⟨hv1, hv2, hv3, hv4, hv5⟩ := hv
  obtain ⟨Lc, S, I, J⟩ := u
  obtain ⟨rfl, rfl, rfl, hL, hr, hw, hl⟩ := hS
  have hL : Lay S A ex := hL
  have hr : Rel (cI A I) (cJ A J) ex bb := hr
  have hw : ga_W D T z Lc S I J s H locs := hw
  have hx := C.1
  have hb := C.2.1
  obtain ⟨k, J1, r, I2, hf1, hf2, hth, heq, hr2⟩ := op_size hL hr (xs (i + 1).toNatClampNeg)
  have hr2 := hr2.mono (show bb ≤ bb + 1000 by omega)
  have hth : f_M_thrown S I2 J1 (A 6) = some k := by rw [f_M_thrown, gd_in (ev_m hL), hth]
  have hc1 : cells + rm_L_size.cells ≤ room_1.cells := Nat.le_trans (Nat.add_le_add_left (Nat.le_of_ble_eq_true rfl) cells) hc
  have hs1 : slots + rm_L_size.slots ≤ room_1.slots := Nat.le_trans (Nat.add_le_add_left (Nat.le_of_ble_eq_true rfl) slots) hs
  refine lv_aload_n hx hb d_L_law_308 rfl (lv_at hl 1 rfl) ?_
  refine lv_aload_n hx hb d_L_law_309 rfl (lv_at hl 0 rfl) ?_
  refine lv_iload hx hb d_L_law_310 (lv_at hl 4 rfl) ?_
  refine lv_iconst (v := 1) hx hb d_L_law_312 (by decide) ?_
  refine lv_iadd hx hb d_L_law_313 ?_
  refine va_sld hx hb hX hbl hbA hw.2.2.2.1 hv1 d_L_law_314 ?_
  refine lv_aload_n hx hb d_L_law_315 rfl (lv_at hl 3 rfl) ?_
  refine ga_cWi (As := [.ref (A 0), .int (xs (i + 1).toNatClampNeg), .ref (A 7)]) C hw (c_L_size l D T z Lc hl9 hf1) gsw_L_98 rfl hl.1 ⟨Nat.le_of_ble_eq_true rfl, Nat.le_of_ble_eq_true rfl, hc1, hs1⟩ (Nat.le_of_ble_eq_true rfl) rfl d_L_law_316 (fun H locs hw => ?_)
  refine lv_istore hx hb d_L_law_319 hl (by decide) rfl (fun ls hl => ?_)
  have hl : lv_has ls 8 [(5, .int k), (0, .ref b), (1, .ref (A 0)), (2, .ref (A 6)), (3, .ref (A 7)), (4, .int i)] := hl
  refine lv_aload_n hx hb d_L_law_321 rfl (lv_at hl 3 rfl) ?_
  refine lv_aload_n hx hb d_L_law_322 rfl (lv_at hl 1 rfl) ?_
  refine lv_iload hx hb d_L_law_323 (lv_at hl 5 rfl) ?_
  refine lv_iconst (v := 1) hx hb d_L_law_325 (by decide) ?_
  refine lv_iadd hx hb d_L_law_326 ?_
  refine va_sld hx hb hX hbl hbA hw.2.2.2.1 hv1 d_L_law_327 ?_
  refine ga_cVi (As := [.int (xs (i + 1).toNatClampNeg)]) C hw (c_M_size l D T z Lc hf2) gy_L_101 (ev_m hL) rfl hl.1 ⟨Nat.le_of_ble_eq_true rfl, Nat.le_of_ble_eq_true rfl, rfl, rfl, hc1, hs1⟩ (Nat.le_of_ble_eq_true rfl) rfl d_L_law_328 (fun H locs hw => ?_)
  refine lv_istore hx hb d_L_law_331 hl (by decide) rfl (fun ls hl => ?_)
  have hl : lv_has ls 8 [(6, .int r), (5, .int k), (0, .ref b), (1, .ref (A 0)), (2, .ref (A 6)), (3, .ref (A 7)), (4, .int i)] := hl
  refine lv_aload_n hx hb d_L_law_333 rfl (lv_at hl 4 rfl) ?_
  refine ga_cVi (As := []) C hw (c_M_thrown l D T z Lc hth) gy_L_90 (ev_m hL) rfl hl.1 ⟨Nat.le_of_ble_eq_true rfl, Nat.le_of_ble_eq_true rfl, rfl, rfl, hc1, hs1⟩ (Nat.le_of_ble_eq_true rfl) rfl d_L_law_334 (fun H locs hw => ?_)
  refine lv_iload hx hb d_L_law_337 (lv_at hl 1 rfl) ?_
  refine lv_icmp_eq (tgt := 344) hx hb d_L_law_339 (by decide) (fun _ => ?_) (fun hn => absurd rfl hn)
  refine lv_iload hx hb d_L_law_344 (lv_at hl 1 rfl) ?_
  by_cases h0 : k = 0
  · refine lv_if_ne (tgt := 361) hx hb d_L_law_346 (by decide) (fun hn => absurd h0 hn) (fun _ => ?_)
    have heq := heq h0
    refine lv_aload_n hx hb d_L_law_349 rfl (lv_at hl 5 rfl) ?_
    refine lv_iconst (v := 0) hx hb d_L_law_350 (by decide) ?_
    refine ga_lald C hw (ev_7 hL) (by rw [ev_7n hL]; decide) d_L_law_351 ?_
    refine lv_iload hx hb d_L_law_352 (lv_at hl 0 rfl) ?_
    refine lv_i2l hx hb d_L_law_354 rfl ?_
    refine W.lcmp hx hb d_L_law_355 ?_
    refine lv_if_eq (tgt := 361) hx hb d_L_law_356 (by decide) (fun _ => ?_) (fun hn => absurd (lw_cmp heq) hn)
    refine lv_goto (tgt := 1371) hx hb d_L_law_361 (by decide) ?_
    exact hk (_, _, _, _) A ex _ _ _ _ _ ⟨rfl, rfl, rfl, hL, hr2, hw, lv_sub hl [2, 3, 4, 5, 6] rfl⟩ (Nat.add_le_add_left (Nat.le_of_ble_eq_true rfl) cells) (Nat.add_le_add_left (Nat.le_of_ble_eq_true rfl) slots)
  · refine lv_if_ne (tgt := 361) hx hb d_L_law_346 (by decide) (fun _ => ?_) (fun hp => absurd hp h0)
    refine lv_goto (tgt := 1371) hx hb d_L_law_361 (by decide) ?_
    exact hk (_, _, _, _) A ex _ _ _ _ _ ⟨rfl, rfl, rfl, hL, hr2, hw, lv_sub hl [2, 3, 4, 5, 6] rfl⟩ (Nat.add_le_add_left (Nat.le_of_ble_eq_true rfl) cells) (Nat.add_le_add_left (Nat.le_of_ble_eq_true rfl) slots)
set_option maxHeartbeats 4000000 in
set_option maxRecDepth 100000 in
theorem lw_3 (hC : lwC p l s m c args z b L xs) (hS : lwS D T z s H locs b h g o i bb ls u A ex) (hv : lwV i L) (hc : cells + 36 ≤ room_1.cells) (hs : slots + 4184 ≤ room_1.slots) (hb1 : bb + 1000 < 2 ^ 20) (hk : lwK p l e s m args below meth c D T z b h g o i bb cells slots Q) : W p l e room_1 s m args below meth c H locs cells slots Q (F0 m 364 ls []) := by
  obtain ⟨C, hl9, hN, hX, hbl, hbA⟩ := hC
  obtain ⟨hv1, hv2, hv3, hv4, hv5⟩ := hv
  obtain ⟨Lc, S, I, J⟩ := u
  obtain ⟨rfl, rfl, rfl, hL, hr, hw, hl⟩ := hS
  have hL : Lay S A ex := hL
  have hr : Rel (cI A I) (cJ A J) ex bb := hr
  have hw : ga_W D T z Lc S I J s H locs := hw
  have hx := C.1
  have hb := C.2.1
  obtain ⟨x0, PP, hx3, hOK, hout, hall⟩ := op_ask (L := Lc) hL hr (by omega) hw.2.2.2.2.1 (xs (i + 1).toNatClampNeg) (xs (i + 2).toNatClampNeg) (xs (i + 3).toNatClampNeg) (xs (i + 4).toNatClampNeg)
  have hc1 : cells + rm_L_ask.cells ≤ room_1.cells := Nat.le_trans (Nat.add_le_add_left (Nat.le_of_ble_eq_true rfl) cells) hc
  have hs1 : slots + rm_L_ask.slots ≤ room_1.slots := Nat.le_trans (Nat.add_le_add_left (Nat.le_of_ble_eq_true rfl) slots) hs
  refine lv_aload_n hx hb d_L_law_364 rfl (lv_at hl 1 rfl) ?_
  refine lv_aload_n hx hb d_L_law_365 rfl (lv_at hl 0 rfl) ?_
  refine lv_iload hx hb d_L_law_366 (lv_at hl 4 rfl) ?_
  refine lv_iconst (v := 1) hx hb d_L_law_368 (by decide) ?_
  refine lv_iadd hx hb d_L_law_369 ?_
  refine va_sld hx hb hX hbl hbA hw.2.2.2.1 hv1 d_L_law_370 ?_
  refine lv_aload_n hx hb d_L_law_371 rfl (lv_at hl 0 rfl) ?_
  refine lv_iload hx hb d_L_law_372 (lv_at hl 4 rfl) ?_
  refine lv_iconst (v := 2) hx hb d_L_law_374 (by decide) ?_
  refine lv_iadd hx hb d_L_law_375 ?_
  refine va_sld hx hb hX hbl hbA hw.2.2.2.1 hv2 d_L_law_376 ?_
  refine lv_aload_n hx hb d_L_law_377 rfl (lv_at hl 0 rfl) ?_
  refine lv_iload hx hb d_L_law_378 (lv_at hl 4 rfl) ?_
  refine lv_iconst (v := 3) hx hb d_L_law_380 (by decide) ?_
  refine lv_iadd hx hb d_L_law_381 ?_
  refine va_sld hx hb hX hbl hbA hw.2.2.2.1 hv3 d_L_law_382 ?_
  refine lv_aload_n hx hb d_L_law_383 rfl (lv_at hl 0 rfl) ?_
  refine lv_iload hx hb d_L_law_384 (lv_at hl 4 rfl) ?_
  refine lv_iconst (v := 4) hx hb d_L_law_386 (by decide) ?_
  refine lv_iadd hx hb d_L_law_387 ?_
  refine va_sld hx hb hX hbl hbA hw.2.2.2.1 hv4 d_L_law_388 ?_
  refine lv_aload_n hx hb d_L_law_389 rfl (lv_at hl 3 rfl) ?_
  refine gu_cWi (u := (Lc, S, I, J)) (As := [.ref (A 0), .int (xs (i + 1).toNatClampNeg), .int (xs (i + 2).toNatClampNeg), .int (xs (i + 3).toNatClampNeg), .int (xs (i + 4).toNatClampNeg), .ref (A 7)]) C hw hN (c_L_ask l D T z (Lc, S, I, J) hl9 (ev_0 hL) hx3 hOK hout) gsw_L_102 rfl hl.1 ⟨Nat.le_of_ble_eq_true rfl, Nat.le_of_ble_eq_true rfl, hc1, hs1⟩ (Nat.le_of_ble_eq_true rfl) rfl d_L_law_390 (fun k v H locs hPL hw => ?_)
  obtain ⟨A1, ex1, r, I2, J2, a0, a6, a7, hL1, hf2, hth, heq, hr2⟩ := hall k v hPL
  obtain ⟨Lv, Sv, Iv, Jv⟩ := v
  have hw : ga_W D T z Lv Sv Iv Jv s H locs := hw
  have hL1 : Lay Sv A1 ex1 := hL1
  have e6 : Sv.1 (A 6) = 9 := by rw [← a6]; exact ev_m hL1
  have e7 : Sv.1 (A 7) = 23 := by rw [← a7]; exact ev_7 hL1
  have e7n : Sv.2.1 (A 7) = 1 := by rw [← a7]; exact ev_7n hL1
  have hr2 := hr2.mono (show bb + 1 ≤ bb + 1000 by omega)
  have hth : f_M_thrown Sv I2 J2 (A 6) = some k := by rw [f_M_thrown, gd_in e6, hth]
  refine lv_istore hx hb d_L_law_393 hl (by decide) rfl (fun ls hl => ?_)
  have hl : lv_has ls 8 [(5, .int k), (0, .ref b), (1, .ref (A 0)), (2, .ref (A 6)), (3, .ref (A 7)), (4, .int i)] := hl
  refine lv_aload_n hx hb d_L_law_395 rfl (lv_at hl 3 rfl) ?_
  refine lv_aload_n hx hb d_L_law_396 rfl (lv_at hl 1 rfl) ?_
  refine lv_iload hx hb d_L_law_397 (lv_at hl 5 rfl) ?_
  refine lv_iconst (v := 1) hx hb d_L_law_399 (by decide) ?_
  refine lv_iadd hx hb d_L_law_400 ?_
  refine va_sld hx hb hX hbl hbA hw.2.2.2.1 hv1 d_L_law_401 ?_
  refine lv_aload_n hx hb d_L_law_402 rfl (lv_at hl 1 rfl) ?_
  refine lv_iload hx hb d_L_law_403 (lv_at hl 5 rfl) ?_
  refine lv_iconst (v := 2) hx hb d_L_law_405 (by decide) ?_
  refine lv_iadd hx hb d_L_law_406 ?_
  refine va_sld hx hb hX hbl hbA hw.2.2.2.1 hv2 d_L_law_407 ?_
  refine lv_aload_n hx hb d_L_law_408 rfl (lv_at hl 1 rfl) ?_
  refine lv_iload hx hb d_L_law_409 (lv_at hl 5 rfl) ?_
  refine lv_iconst (v := 3) hx hb d_L_law_411 (by decide) ?_
  refine lv_iadd hx hb d_L_law_412 ?_
  refine va_sld hx hb hX hbl hbA hw.2.2.2.1 hv3 d_L_law_413 ?_
  refine lv_aload_n hx hb d_L_law_414 rfl (lv_at hl 1 rfl) ?_
  refine lv_iload hx hb d_L_law_415 (lv_at hl 5 rfl) ?_
  refine lv_iconst (v := 4) hx hb d_L_law_417 (by decide) ?_
  refine lv_iadd hx hb d_L_law_418 ?_
  refine va_sld hx hb hX hbl hbA hw.2.2.2.1 hv4 d_L_law_419 ?_
  refine ga_cVi (As := [.int (xs (i + 1).toNatClampNeg), .int (xs (i + 2).toNatClampNeg), .int (xs (i + 3).toNatClampNeg), .int (xs (i + 4).toNatClampNeg)]) C hw (c_M_ask l D T z Lv hf2) gy_L_105 e6 rfl hl.1 ⟨Nat.le_of_ble_eq_true rfl, Nat.le_of_ble_eq_true rfl, rfl, rfl, hc1, hs1⟩ (Nat.le_of_ble_eq_true rfl) rfl d_L_law_420 (fun H locs hw => ?_)
  refine lv_istore hx hb d_L_law_423 hl (by decide) rfl (fun ls hl => ?_)
  have hl : lv_has ls 8 [(6, .int r), (5, .int k), (0, .ref b), (1, .ref (A 0)), (2, .ref (A 6)), (3, .ref (A 7)), (4, .int i)] := hl
  refine lv_aload_n hx hb d_L_law_425 rfl (lv_at hl 4 rfl) ?_
  refine ga_cVi (As := []) C hw (c_M_thrown l D T z Lv hth) gy_L_90 e6 rfl hl.1 ⟨Nat.le_of_ble_eq_true rfl, Nat.le_of_ble_eq_true rfl, rfl, rfl, hc1, hs1⟩ (Nat.le_of_ble_eq_true rfl) rfl d_L_law_426 (fun H locs hw => ?_)
  refine lv_iload hx hb d_L_law_429 (lv_at hl 1 rfl) ?_
  refine lv_icmp_eq (tgt := 436) hx hb d_L_law_431 (by decide) (fun _ => ?_) (fun hn => absurd rfl hn)
  refine lv_iload hx hb d_L_law_436 (lv_at hl 1 rfl) ?_
  by_cases h0 : k = 0
  · refine lv_if_ne (tgt := 453) hx hb d_L_law_438 (by decide) (fun hn => absurd h0 hn) (fun _ => ?_)
    have heq := heq h0
    refine lv_aload_n hx hb d_L_law_441 rfl (lv_at hl 5 rfl) ?_
    refine lv_iconst (v := 0) hx hb d_L_law_442 (by decide) ?_
    refine ga_lald C hw e7 (by rw [e7n]; decide) d_L_law_443 ?_
    refine lv_iload hx hb d_L_law_444 (lv_at hl 0 rfl) ?_
    refine lv_i2l hx hb d_L_law_446 rfl ?_
    refine W.lcmp hx hb d_L_law_447 ?_
    refine lv_if_eq (tgt := 453) hx hb d_L_law_448 (by decide) (fun _ => ?_) (fun hn => absurd (lw_cmp heq) hn)
    refine lv_goto (tgt := 1371) hx hb d_L_law_453 (by decide) ?_
    exact hk (_, _, _, _) A1 ex1 _ _ _ _ _ ⟨a0, a6, a7, hL1, hr2, hw, lv_sub hl [2, 3, 4, 5, 6] rfl⟩ (Nat.add_le_add_left (Nat.le_of_ble_eq_true rfl) cells) (Nat.add_le_add_left (Nat.le_of_ble_eq_true rfl) slots)
  · refine lv_if_ne (tgt := 453) hx hb d_L_law_438 (by decide) (fun _ => ?_) (fun hp => absurd hp h0)
    refine lv_goto (tgt := 1371) hx hb d_L_law_453 (by decide) ?_
    exact hk (_, _, _, _) A1 ex1 _ _ _ _ _ ⟨a0, a6, a7, hL1, hr2, hw, lv_sub hl [2, 3, 4, 5, 6] rfl⟩ (Nat.add_le_add_left (Nat.le_of_ble_eq_true rfl) cells) (Nat.add_le_add_left (Nat.le_of_ble_eq_true rfl) slots)
set_option maxHeartbeats 4000000 in
set_option maxRecDepth 100000 in
theorem lw_4 (hC : lwC p l s m c args z b L xs) (hS : lwS D T z s H locs b h g o i bb ls u A ex) (hv : lwV i L) (hc : cells + 36 ≤ room_1.cells) (hs : slots + 4184 ≤ room_1.slots) (hb1 : bb + 1000 < 2 ^ 20) (hk : lwK p l e s m args below meth c D T z b h g o i bb cells slots Q) : W p l e room_1 s m args below meth c H locs cells slots Q (F0 m 456 ls []) := by
  obtain ⟨C, hl9, hN, hX, hbl, hbA⟩ := hC
  obtain ⟨hv1, hv2, hv3, hv4, hv5⟩ := hv
  obtain ⟨Lc, S, I, J⟩ := u
  obtain ⟨rfl, rfl, rfl, hL, hr, hw, hl⟩ := hS
  have hL : Lay S A ex := hL
  have hr : Rel (cI A I) (cJ A J) ex bb := hr
  have hw : ga_W D T z Lc S I J s H locs := hw
  have hx := C.1
  have hb := C.2.1
  obtain ⟨r, I2, hf1, hf2, hr2⟩ := op_letters hL hr
  have hr2 := hr2.mono (show bb ≤ bb + 1000 by omega)
  refine lv_aload_n hx hb d_L_law_456 rfl (lv_at hl 1 rfl) ?_
  refine ga_cVi (As := []) C hw (c_H_letters l D T z Lc hf1) gy_L_106 (ev_0 hL) rfl hl.1 ⟨Nat.le_of_ble_eq_true rfl, Nat.le_of_ble_eq_true rfl, rfl, rfl, (by omega), (by omega)⟩ (Nat.le_of_ble_eq_true rfl) rfl d_L_law_457 (fun H locs hw => ?_)
  refine lv_aload_n hx hb d_L_law_460 rfl (lv_at hl 2 rfl) ?_
  refine ga_cVi (As := []) C hw (c_M_letters l D T z Lc hf2) gy_L_109 (ev_m hL) rfl hl.1 ⟨Nat.le_of_ble_eq_true rfl, Nat.le_of_ble_eq_true rfl, rfl, rfl, (by omega), (by omega)⟩ (Nat.le_of_ble_eq_true rfl) rfl d_L_law_461 (fun H locs hw => ?_)
  refine lv_icmp_eq (tgt := 1371) hx hb d_L_law_464 (by decide) (fun _ => ?_) (fun hn => absurd rfl hn)
  exact hk (_, _, _, _) A ex _ _ _ _ _ ⟨rfl, rfl, rfl, hL, hr2, hw, lv_sub hl [0, 1, 2, 3, 4] rfl⟩ (by omega) (by omega)
set_option maxHeartbeats 4000000 in
set_option maxRecDepth 100000 in
theorem lw_5 (hC : lwC p l s m c args z b L xs) (hS : lwS D T z s H locs b h g o i bb ls u A ex) (hv : lwV i L) (hc : cells + 36 ≤ room_1.cells) (hs : slots + 4184 ≤ room_1.slots) (hb1 : bb + 1000 < 2 ^ 20) (hk : lwK p l e s m args below meth c D T z b h g o i bb cells slots Q) : W p l e room_1 s m args below meth c H locs cells slots Q (F0 m 469 ls []) := by
  obtain ⟨C, hl9, hN, hX, hbl, hbA⟩ := hC
  obtain ⟨hv1, hv2, hv3, hv4, hv5⟩ := hv
  obtain ⟨Lc, S, I, J⟩ := u
  obtain ⟨rfl, rfl, rfl, hL, hr, hw, hl⟩ := hS
  have hL : Lay S A ex := hL
  have hr : Rel (cI A I) (cJ A J) ex bb := hr
  have hw : ga_W D T z Lc S I J s H locs := hw
  have hx := C.1
  have hb := C.2.1
  obtain ⟨k, J1, r, I2, hf1, hf2, hth, heq, hr2⟩ := op_letter hL hr (xs (i + 1).toNatClampNeg) (xs (i + 2).toNatClampNeg)
  have hr2 := hr2.mono (show bb ≤ bb + 1000 by omega)
  have hth : f_M_thrown S I2 J1 (A 6) = some k := by rw [f_M_thrown, gd_in (ev_m hL), hth]
  have hc1 : cells + rm_L_letter.cells ≤ room_1.cells := Nat.le_trans (Nat.add_le_add_left (Nat.le_of_ble_eq_true rfl) cells) hc
  have hs1 : slots + rm_L_letter.slots ≤ room_1.slots := Nat.le_trans (Nat.add_le_add_left (Nat.le_of_ble_eq_true rfl) slots) hs
  refine lv_aload_n hx hb d_L_law_469 rfl (lv_at hl 1 rfl) ?_
  refine lv_aload_n hx hb d_L_law_470 rfl (lv_at hl 0 rfl) ?_
  refine lv_iload hx hb d_L_law_471 (lv_at hl 4 rfl) ?_
  refine lv_iconst (v := 1) hx hb d_L_law_473 (by decide) ?_
  refine lv_iadd hx hb d_L_law_474 ?_
  refine va_sld hx hb hX hbl hbA hw.2.2.2.1 hv1 d_L_law_475 ?_
  refine lv_aload_n hx hb d_L_law_476 rfl (lv_at hl 0 rfl) ?_
  refine lv_iload hx hb d_L_law_477 (lv_at hl 4 rfl) ?_
  refine lv_iconst (v := 2) hx hb d_L_law_479 (by decide) ?_
  refine lv_iadd hx hb d_L_law_480 ?_
  refine va_sld hx hb hX hbl hbA hw.2.2.2.1 hv2 d_L_law_481 ?_
  refine lv_aload_n hx hb d_L_law_482 rfl (lv_at hl 3 rfl) ?_
  refine ga_cWi (As := [.ref (A 0), .int (xs (i + 1).toNatClampNeg), .int (xs (i + 2).toNatClampNeg), .ref (A 7)]) C hw (c_L_letter l D T z Lc hl9 hf1) gsw_L_110 rfl hl.1 ⟨Nat.le_of_ble_eq_true rfl, Nat.le_of_ble_eq_true rfl, hc1, hs1⟩ (Nat.le_of_ble_eq_true rfl) rfl d_L_law_483 (fun H locs hw => ?_)
  refine lv_istore hx hb d_L_law_486 hl (by decide) rfl (fun ls hl => ?_)
  have hl : lv_has ls 8 [(5, .int k), (0, .ref b), (1, .ref (A 0)), (2, .ref (A 6)), (3, .ref (A 7)), (4, .int i)] := hl
  refine lv_aload_n hx hb d_L_law_488 rfl (lv_at hl 3 rfl) ?_
  refine lv_aload_n hx hb d_L_law_489 rfl (lv_at hl 1 rfl) ?_
  refine lv_iload hx hb d_L_law_490 (lv_at hl 5 rfl) ?_
  refine lv_iconst (v := 1) hx hb d_L_law_492 (by decide) ?_
  refine lv_iadd hx hb d_L_law_493 ?_
  refine va_sld hx hb hX hbl hbA hw.2.2.2.1 hv1 d_L_law_494 ?_
  refine lv_aload_n hx hb d_L_law_495 rfl (lv_at hl 1 rfl) ?_
  refine lv_iload hx hb d_L_law_496 (lv_at hl 5 rfl) ?_
  refine lv_iconst (v := 2) hx hb d_L_law_498 (by decide) ?_
  refine lv_iadd hx hb d_L_law_499 ?_
  refine va_sld hx hb hX hbl hbA hw.2.2.2.1 hv2 d_L_law_500 ?_
  refine ga_cVi (As := [.int (xs (i + 1).toNatClampNeg), .int (xs (i + 2).toNatClampNeg)]) C hw (c_M_letter l D T z Lc hf2) gy_L_112 (ev_m hL) rfl hl.1 ⟨Nat.le_of_ble_eq_true rfl, Nat.le_of_ble_eq_true rfl, rfl, rfl, hc1, hs1⟩ (Nat.le_of_ble_eq_true rfl) rfl d_L_law_501 (fun H locs hw => ?_)
  refine lv_istore hx hb d_L_law_504 hl (by decide) rfl (fun ls hl => ?_)
  have hl : lv_has ls 8 [(6, .int r), (5, .int k), (0, .ref b), (1, .ref (A 0)), (2, .ref (A 6)), (3, .ref (A 7)), (4, .int i)] := hl
  refine lv_aload_n hx hb d_L_law_506 rfl (lv_at hl 4 rfl) ?_
  refine ga_cVi (As := []) C hw (c_M_thrown l D T z Lc hth) gy_L_90 (ev_m hL) rfl hl.1 ⟨Nat.le_of_ble_eq_true rfl, Nat.le_of_ble_eq_true rfl, rfl, rfl, hc1, hs1⟩ (Nat.le_of_ble_eq_true rfl) rfl d_L_law_507 (fun H locs hw => ?_)
  refine lv_iload hx hb d_L_law_510 (lv_at hl 1 rfl) ?_
  refine lv_icmp_eq (tgt := 517) hx hb d_L_law_512 (by decide) (fun _ => ?_) (fun hn => absurd rfl hn)
  refine lv_iload hx hb d_L_law_517 (lv_at hl 1 rfl) ?_
  by_cases h0 : k = 0
  · refine lv_if_ne (tgt := 534) hx hb d_L_law_519 (by decide) (fun hn => absurd h0 hn) (fun _ => ?_)
    have heq := heq h0
    refine lv_aload_n hx hb d_L_law_522 rfl (lv_at hl 5 rfl) ?_
    refine lv_iconst (v := 0) hx hb d_L_law_523 (by decide) ?_
    refine ga_lald C hw (ev_7 hL) (by rw [ev_7n hL]; decide) d_L_law_524 ?_
    refine lv_iload hx hb d_L_law_525 (lv_at hl 0 rfl) ?_
    refine lv_i2l hx hb d_L_law_527 rfl ?_
    refine W.lcmp hx hb d_L_law_528 ?_
    refine lv_if_eq (tgt := 534) hx hb d_L_law_529 (by decide) (fun _ => ?_) (fun hn => absurd (lw_cmp heq) hn)
    refine lv_goto (tgt := 1371) hx hb d_L_law_534 (by decide) ?_
    exact hk (_, _, _, _) A ex _ _ _ _ _ ⟨rfl, rfl, rfl, hL, hr2, hw, lv_sub hl [2, 3, 4, 5, 6] rfl⟩ (Nat.add_le_add_left (Nat.le_of_ble_eq_true rfl) cells) (Nat.add_le_add_left (Nat.le_of_ble_eq_true rfl) slots)
  · refine lv_if_ne (tgt := 534) hx hb d_L_law_519 (by decide) (fun _ => ?_) (fun hp => absurd hp h0)
    refine lv_goto (tgt := 1371) hx hb d_L_law_534 (by decide) ?_
    exact hk (_, _, _, _) A ex _ _ _ _ _ ⟨rfl, rfl, rfl, hL, hr2, hw, lv_sub hl [2, 3, 4, 5, 6] rfl⟩ (Nat.add_le_add_left (Nat.le_of_ble_eq_true rfl) cells) (Nat.add_le_add_left (Nat.le_of_ble_eq_true rfl) slots)
set_option maxHeartbeats 4000000 in
set_option maxRecDepth 100000 in
theorem lw_6 (hC : lwC p l s m c args z b L xs) (hS : lwS D T z s H locs b h g o i bb ls u A ex) (hv : lwV i L) (hc : cells + 36 ≤ room_1.cells) (hs : slots + 4184 ≤ room_1.slots) (hb1 : bb + 1000 < 2 ^ 20) (hk : lwK p l e s m args below meth c D T z b h g o i bb cells slots Q) : W p l e room_1 s m args below meth c H locs cells slots Q (F0 m 537 ls []) := by
  obtain ⟨C, hl9, hN, hX, hbl, hbA⟩ := hC
  obtain ⟨hv1, hv2, hv3, hv4, hv5⟩ := hv
  obtain ⟨Lc, S, I, J⟩ := u
  obtain ⟨rfl, rfl, rfl, hL, hr, hw, hl⟩ := hS
  have hL : Lay S A ex := hL
  have hr : Rel (cI A I) (cJ A J) ex bb := hr
  have hw : ga_W D T z Lc S I J s H locs := hw
  have hx := C.1
  have hb := C.2.1
  obtain ⟨k, I1, J1, r, I2, J2, hf1, hf2, hth, heq, hr2⟩ := op_deliver hL (by omega) hr (xs (i + 1).toNatClampNeg)
  have hr2 := hr2.mono (show bb + 1 ≤ bb + 1000 by omega)
  have hth : f_M_thrown S I2 J2 (A 6) = some k := by rw [f_M_thrown, gd_in (ev_m hL), hth]
  have hc1 : cells + rm_L_deliver.cells ≤ room_1.cells := Nat.le_trans (Nat.add_le_add_left (Nat.le_of_ble_eq_true rfl) cells) hc
  have hs1 : slots + rm_L_deliver.slots ≤ room_1.slots := Nat.le_trans (Nat.add_le_add_left (Nat.le_of_ble_eq_true rfl) slots) hs
  refine lv_aload_n hx hb d_L_law_537 rfl (lv_at hl 1 rfl) ?_
  refine lv_aload_n hx hb d_L_law_538 rfl (lv_at hl 0 rfl) ?_
  refine lv_iload hx hb d_L_law_539 (lv_at hl 4 rfl) ?_
  refine lv_iconst (v := 1) hx hb d_L_law_541 (by decide) ?_
  refine lv_iadd hx hb d_L_law_542 ?_
  refine va_sld hx hb hX hbl hbA hw.2.2.2.1 hv1 d_L_law_543 ?_
  refine lv_aload_n hx hb d_L_law_544 rfl (lv_at hl 3 rfl) ?_
  refine ga_cWi (As := [.ref (A 0), .int (xs (i + 1).toNatClampNeg), .ref (A 7)]) C hw (c_L_deliver l D T z Lc hl9 hf1) gsw_L_113 rfl hl.1 ⟨Nat.le_of_ble_eq_true rfl, Nat.le_of_ble_eq_true rfl, hc1, hs1⟩ (Nat.le_of_ble_eq_true rfl) rfl d_L_law_545 (fun H locs hw => ?_)
  refine lv_istore hx hb d_L_law_548 hl (by decide) rfl (fun ls hl => ?_)
  have hl : lv_has ls 8 [(5, .int k), (0, .ref b), (1, .ref (A 0)), (2, .ref (A 6)), (3, .ref (A 7)), (4, .int i)] := hl
  refine lv_aload_n hx hb d_L_law_550 rfl (lv_at hl 3 rfl) ?_
  refine lv_aload_n hx hb d_L_law_551 rfl (lv_at hl 1 rfl) ?_
  refine lv_iload hx hb d_L_law_552 (lv_at hl 5 rfl) ?_
  refine lv_iconst (v := 1) hx hb d_L_law_554 (by decide) ?_
  refine lv_iadd hx hb d_L_law_555 ?_
  refine va_sld hx hb hX hbl hbA hw.2.2.2.1 hv1 d_L_law_556 ?_
  refine ga_cVi (As := [.int (xs (i + 1).toNatClampNeg)]) C hw (c_M_deliver l D T z Lc hf2) gy_L_115 (ev_m hL) rfl hl.1 ⟨Nat.le_of_ble_eq_true rfl, Nat.le_of_ble_eq_true rfl, rfl, rfl, hc1, hs1⟩ (Nat.le_of_ble_eq_true rfl) rfl d_L_law_557 (fun H locs hw => ?_)
  refine lv_istore hx hb d_L_law_560 hl (by decide) rfl (fun ls hl => ?_)
  have hl : lv_has ls 8 [(6, .int r), (5, .int k), (0, .ref b), (1, .ref (A 0)), (2, .ref (A 6)), (3, .ref (A 7)), (4, .int i)] := hl
  refine lv_aload_n hx hb d_L_law_562 rfl (lv_at hl 4 rfl) ?_
  refine ga_cVi (As := []) C hw (c_M_thrown l D T z Lc hth) gy_L_90 (ev_m hL) rfl hl.1 ⟨Nat.le_of_ble_eq_true rfl, Nat.le_of_ble_eq_true rfl, rfl, rfl, hc1, hs1⟩ (Nat.le_of_ble_eq_true rfl) rfl d_L_law_563 (fun H locs hw => ?_)
  refine lv_iload hx hb d_L_law_566 (lv_at hl 1 rfl) ?_
  refine lv_icmp_eq (tgt := 573) hx hb d_L_law_568 (by decide) (fun _ => ?_) (fun hn => absurd rfl hn)
  refine lv_iload hx hb d_L_law_573 (lv_at hl 1 rfl) ?_
  by_cases h0 : k = 0
  · refine lv_if_ne (tgt := 590) hx hb d_L_law_575 (by decide) (fun hn => absurd h0 hn) (fun _ => ?_)
    have heq := heq h0
    refine lv_aload_n hx hb d_L_law_578 rfl (lv_at hl 5 rfl) ?_
    refine lv_iconst (v := 0) hx hb d_L_law_579 (by decide) ?_
    refine ga_lald C hw (ev_7 hL) (by rw [ev_7n hL]; decide) d_L_law_580 ?_
    refine lv_iload hx hb d_L_law_581 (lv_at hl 0 rfl) ?_
    refine lv_i2l hx hb d_L_law_583 rfl ?_
    refine W.lcmp hx hb d_L_law_584 ?_
    refine lv_if_eq (tgt := 590) hx hb d_L_law_585 (by decide) (fun _ => ?_) (fun hn => absurd (lw_cmp heq) hn)
    refine lv_goto (tgt := 1371) hx hb d_L_law_590 (by decide) ?_
    exact hk (_, _, _, _) A ex _ _ _ _ _ ⟨rfl, rfl, rfl, hL, hr2, hw, lv_sub hl [2, 3, 4, 5, 6] rfl⟩ (Nat.add_le_add_left (Nat.le_of_ble_eq_true rfl) cells) (Nat.add_le_add_left (Nat.le_of_ble_eq_true rfl) slots)
  · refine lv_if_ne (tgt := 590) hx hb d_L_law_575 (by decide) (fun _ => ?_) (fun hp => absurd hp h0)
    refine lv_goto (tgt := 1371) hx hb d_L_law_590 (by decide) ?_
    exact hk (_, _, _, _) A ex _ _ _ _ _ ⟨rfl, rfl, rfl, hL, hr2, hw, lv_sub hl [2, 3, 4, 5, 6] rfl⟩ (Nat.add_le_add_left (Nat.le_of_ble_eq_true rfl) cells) (Nat.add_le_add_left (Nat.le_of_ble_eq_true rfl) slots)
set_option maxHeartbeats 4000000 in
set_option maxRecDepth 100000 in
theorem lw_7 (hC : lwC p l s m c args z b L xs) (hS : lwS D T z s H locs b h g o i bb ls u A ex) (hv : lwV i L) (hc : cells + 36 ≤ room_1.cells) (hs : slots + 4184 ≤ room_1.slots) (hb1 : bb + 1000 < 2 ^ 20) (hk : lwK p l e s m args below meth c D T z b h g o i bb cells slots Q) : W p l e room_1 s m args below meth c H locs cells slots Q (F0 m 593 ls []) := by
  obtain ⟨C, hl9, hN, hX, hbl, hbA⟩ := hC
  obtain ⟨hv1, hv2, hv3, hv4, hv5⟩ := hv
  obtain ⟨Lc, S, I, J⟩ := u
  obtain ⟨rfl, rfl, rfl, hL, hr, hw, hl⟩ := hS
  have hL : Lay S A ex := hL
  have hr : Rel (cI A I) (cJ A J) ex bb := hr
  have hw : ga_W D T z Lc S I J s H locs := hw
  have hx := C.1
  have hb := C.2.1
  obtain ⟨k, I1, J1, r, I2, J2, hf1, hf2, hth, heq, hr2⟩ := op_lose hL hr (xs (i + 1).toNatClampNeg)
  have hr2 := hr2.mono (show bb ≤ bb + 1000 by omega)
  have hth : f_M_thrown S I2 J2 (A 6) = some k := by rw [f_M_thrown, gd_in (ev_m hL), hth]
  have hc1 : cells + rm_L_lose.cells ≤ room_1.cells := Nat.le_trans (Nat.add_le_add_left (Nat.le_of_ble_eq_true rfl) cells) hc
  have hs1 : slots + rm_L_lose.slots ≤ room_1.slots := Nat.le_trans (Nat.add_le_add_left (Nat.le_of_ble_eq_true rfl) slots) hs
  refine lv_aload_n hx hb d_L_law_593 rfl (lv_at hl 1 rfl) ?_
  refine lv_aload_n hx hb d_L_law_594 rfl (lv_at hl 0 rfl) ?_
  refine lv_iload hx hb d_L_law_595 (lv_at hl 4 rfl) ?_
  refine lv_iconst (v := 1) hx hb d_L_law_597 (by decide) ?_
  refine lv_iadd hx hb d_L_law_598 ?_
  refine va_sld hx hb hX hbl hbA hw.2.2.2.1 hv1 d_L_law_599 ?_
  refine lv_aload_n hx hb d_L_law_600 rfl (lv_at hl 3 rfl) ?_
  refine ga_cWi (As := [.ref (A 0), .int (xs (i + 1).toNatClampNeg), .ref (A 7)]) C hw (c_L_lose l D T z Lc hl9 hf1) gsw_L_116 rfl hl.1 ⟨Nat.le_of_ble_eq_true rfl, Nat.le_of_ble_eq_true rfl, hc1, hs1⟩ (Nat.le_of_ble_eq_true rfl) rfl d_L_law_601 (fun H locs hw => ?_)
  refine lv_istore hx hb d_L_law_604 hl (by decide) rfl (fun ls hl => ?_)
  have hl : lv_has ls 8 [(5, .int k), (0, .ref b), (1, .ref (A 0)), (2, .ref (A 6)), (3, .ref (A 7)), (4, .int i)] := hl
  refine lv_aload_n hx hb d_L_law_606 rfl (lv_at hl 3 rfl) ?_
  refine lv_aload_n hx hb d_L_law_607 rfl (lv_at hl 1 rfl) ?_
  refine lv_iload hx hb d_L_law_608 (lv_at hl 5 rfl) ?_
  refine lv_iconst (v := 1) hx hb d_L_law_610 (by decide) ?_
  refine lv_iadd hx hb d_L_law_611 ?_
  refine va_sld hx hb hX hbl hbA hw.2.2.2.1 hv1 d_L_law_612 ?_
  refine ga_cVi (As := [.int (xs (i + 1).toNatClampNeg)]) C hw (c_M_lose l D T z Lc hf2) gy_L_118 (ev_m hL) rfl hl.1 ⟨Nat.le_of_ble_eq_true rfl, Nat.le_of_ble_eq_true rfl, rfl, rfl, hc1, hs1⟩ (Nat.le_of_ble_eq_true rfl) rfl d_L_law_613 (fun H locs hw => ?_)
  refine lv_istore hx hb d_L_law_616 hl (by decide) rfl (fun ls hl => ?_)
  have hl : lv_has ls 8 [(6, .int r), (5, .int k), (0, .ref b), (1, .ref (A 0)), (2, .ref (A 6)), (3, .ref (A 7)), (4, .int i)] := hl
  refine lv_aload_n hx hb d_L_law_618 rfl (lv_at hl 4 rfl) ?_
  refine ga_cVi (As := []) C hw (c_M_thrown l D T z Lc hth) gy_L_90 (ev_m hL) rfl hl.1 ⟨Nat.le_of_ble_eq_true rfl, Nat.le_of_ble_eq_true rfl, rfl, rfl, hc1, hs1⟩ (Nat.le_of_ble_eq_true rfl) rfl d_L_law_619 (fun H locs hw => ?_)
  refine lv_iload hx hb d_L_law_622 (lv_at hl 1 rfl) ?_
  refine lv_icmp_eq (tgt := 629) hx hb d_L_law_624 (by decide) (fun _ => ?_) (fun hn => absurd rfl hn)
  refine lv_iload hx hb d_L_law_629 (lv_at hl 1 rfl) ?_
  by_cases h0 : k = 0
  · refine lv_if_ne (tgt := 646) hx hb d_L_law_631 (by decide) (fun hn => absurd h0 hn) (fun _ => ?_)
    have heq := heq h0
    refine lv_aload_n hx hb d_L_law_634 rfl (lv_at hl 5 rfl) ?_
    refine lv_iconst (v := 0) hx hb d_L_law_635 (by decide) ?_
    refine ga_lald C hw (ev_7 hL) (by rw [ev_7n hL]; decide) d_L_law_636 ?_
    refine lv_iload hx hb d_L_law_637 (lv_at hl 0 rfl) ?_
    refine lv_i2l hx hb d_L_law_639 rfl ?_
    refine W.lcmp hx hb d_L_law_640 ?_
    refine lv_if_eq (tgt := 646) hx hb d_L_law_641 (by decide) (fun _ => ?_) (fun hn => absurd (lw_cmp heq) hn)
    refine lv_goto (tgt := 1371) hx hb d_L_law_646 (by decide) ?_
    exact hk (_, _, _, _) A ex _ _ _ _ _ ⟨rfl, rfl, rfl, hL, hr2, hw, lv_sub hl [2, 3, 4, 5, 6] rfl⟩ (Nat.add_le_add_left (Nat.le_of_ble_eq_true rfl) cells) (Nat.add_le_add_left (Nat.le_of_ble_eq_true rfl) slots)
  · refine lv_if_ne (tgt := 646) hx hb d_L_law_631 (by decide) (fun _ => ?_) (fun hp => absurd hp h0)
    refine lv_goto (tgt := 1371) hx hb d_L_law_646 (by decide) ?_
    exact hk (_, _, _, _) A ex _ _ _ _ _ ⟨rfl, rfl, rfl, hL, hr2, hw, lv_sub hl [2, 3, 4, 5, 6] rfl⟩ (Nat.add_le_add_left (Nat.le_of_ble_eq_true rfl) cells) (Nat.add_le_add_left (Nat.le_of_ble_eq_true rfl) slots)
set_option maxHeartbeats 4000000 in
set_option maxRecDepth 100000 in
theorem lw_8 (hC : lwC p l s m c args z b L xs) (hS : lwS D T z s H locs b h g o i bb ls u A ex) (hv : lwV i L) (hc : cells + 36 ≤ room_1.cells) (hs : slots + 4184 ≤ room_1.slots) (hb1 : bb + 1000 < 2 ^ 20) (hk : lwK p l e s m args below meth c D T z b h g o i bb cells slots Q) : W p l e room_1 s m args below meth c H locs cells slots Q (F0 m 649 ls []) := by
  obtain ⟨C, hl9, hN, hX, hbl, hbA⟩ := hC
  obtain ⟨hv1, hv2, hv3, hv4, hv5⟩ := hv
  obtain ⟨Lc, S, I, J⟩ := u
  obtain ⟨rfl, rfl, rfl, hL, hr, hw, hl⟩ := hS
  have hL : Lay S A ex := hL
  have hr : Rel (cI A I) (cJ A J) ex bb := hr
  have hw : ga_W D T z Lc S I J s H locs := hw
  have hx := C.1
  have hb := C.2.1
  obtain ⟨k, I1, J1, r, I2, J2, hf1, hf2, hth, heq, hr01, hr2⟩ := op_twin hL (by omega) hr (xs (i + 1).toNatClampNeg)
  have hr2 := hr2.mono (show bb ≤ bb + 1000 by omega)
  have hth : f_M_thrown S I2 J2 (A 6) = some k := by rw [f_M_thrown, gd_in (ev_m hL), hth]
  have hc1 : cells + rm_L_twin.cells ≤ room_1.cells := Nat.le_trans (Nat.add_le_add_left (Nat.le_of_ble_eq_true rfl) cells) hc
  have hs1 : slots + rm_L_twin.slots ≤ room_1.slots := Nat.le_trans (Nat.add_le_add_left (Nat.le_of_ble_eq_true rfl) slots) hs
  refine lv_aload_n hx hb d_L_law_649 rfl (lv_at hl 1 rfl) ?_
  refine lv_aload_n hx hb d_L_law_650 rfl (lv_at hl 0 rfl) ?_
  refine lv_iload hx hb d_L_law_651 (lv_at hl 4 rfl) ?_
  refine lv_iconst (v := 1) hx hb d_L_law_653 (by decide) ?_
  refine lv_iadd hx hb d_L_law_654 ?_
  refine va_sld hx hb hX hbl hbA hw.2.2.2.1 hv1 d_L_law_655 ?_
  refine lv_aload_n hx hb d_L_law_656 rfl (lv_at hl 3 rfl) ?_
  refine ga_cWi (As := [.ref (A 0), .int (xs (i + 1).toNatClampNeg), .ref (A 7)]) C hw (c_L_twin l D T z Lc hl9 hf1) gsw_L_119 rfl hl.1 ⟨Nat.le_of_ble_eq_true rfl, Nat.le_of_ble_eq_true rfl, hc1, hs1⟩ (Nat.le_of_ble_eq_true rfl) rfl d_L_law_657 (fun H locs hw => ?_)
  refine lv_istore hx hb d_L_law_660 hl (by decide) rfl (fun ls hl => ?_)
  have hl : lv_has ls 8 [(5, .int k), (0, .ref b), (1, .ref (A 0)), (2, .ref (A 6)), (3, .ref (A 7)), (4, .int i)] := hl
  refine lv_aload_n hx hb d_L_law_662 rfl (lv_at hl 3 rfl) ?_
  refine lv_aload_n hx hb d_L_law_663 rfl (lv_at hl 1 rfl) ?_
  refine lv_iload hx hb d_L_law_664 (lv_at hl 5 rfl) ?_
  refine lv_iconst (v := 1) hx hb d_L_law_666 (by decide) ?_
  refine lv_iadd hx hb d_L_law_667 ?_
  refine va_sld hx hb hX hbl hbA hw.2.2.2.1 hv1 d_L_law_668 ?_
  refine ga_cVi (As := [.int (xs (i + 1).toNatClampNeg)]) C hw (c_M_twin l D T z Lc hf2) gy_L_121 (ev_m hL) rfl hl.1 ⟨Nat.le_of_ble_eq_true rfl, Nat.le_of_ble_eq_true rfl, rfl, rfl, hc1, hs1⟩ (Nat.le_of_ble_eq_true rfl) rfl d_L_law_669 (fun H locs hw => ?_)
  refine lv_istore hx hb d_L_law_672 hl (by decide) rfl (fun ls hl => ?_)
  have hl : lv_has ls 8 [(6, .int r), (5, .int k), (0, .ref b), (1, .ref (A 0)), (2, .ref (A 6)), (3, .ref (A 7)), (4, .int i)] := hl
  refine lv_aload_n hx hb d_L_law_674 rfl (lv_at hl 4 rfl) ?_
  refine ga_cVi (As := []) C hw (c_M_thrown l D T z Lc hth) gy_L_90 (ev_m hL) rfl hl.1 ⟨Nat.le_of_ble_eq_true rfl, Nat.le_of_ble_eq_true rfl, rfl, rfl, hc1, hs1⟩ (Nat.le_of_ble_eq_true rfl) rfl d_L_law_675 (fun H locs hw => ?_)
  refine lv_iload hx hb d_L_law_678 (lv_at hl 1 rfl) ?_
  refine lv_icmp_eq (tgt := 685) hx hb d_L_law_680 (by decide) (fun _ => ?_) (fun hn => absurd rfl hn)
  refine lv_iload hx hb d_L_law_685 (lv_at hl 1 rfl) ?_
  by_cases h0 : k = 0
  · refine lv_if_ne (tgt := 709) hx hb d_L_law_687 (by decide) (fun hn => absurd h0 hn) (fun _ => ?_)
    have heq := heq h0
    refine lv_aload_n hx hb d_L_law_690 rfl (lv_at hl 5 rfl) ?_
    refine lv_iconst (v := 0) hx hb d_L_law_691 (by decide) ?_
    refine ga_lald C hw (ev_7 hL) (by rw [ev_7n hL]; decide) d_L_law_692 ?_
    refine lv_iload hx hb d_L_law_693 (lv_at hl 0 rfl) ?_
    rcases hr01 with rfl | rfl
    · refine lv_if_eq (tgt := 702) hx hb d_L_law_695 (by decide) (fun _ => ?_) (fun hn => absurd rfl hn)
      refine lv_lconst (v := 0) hx hb d_L_law_702 (by decide) ?_
      refine W.lcmp hx hb d_L_law_703 ?_
      refine lv_if_eq (tgt := 709) hx hb d_L_law_704 (by decide) (fun _ => ?_) (fun hn => absurd (lw_cmp (heq.trans (if_pos rfl))) hn)
      refine lv_goto (tgt := 1371) hx hb d_L_law_709 (by decide) ?_
      exact hk (_, _, _, _) A ex _ _ _ _ _ ⟨rfl, rfl, rfl, hL, hr2, hw, lv_sub hl [2, 3, 4, 5, 6] rfl⟩ (Nat.add_le_add_left (Nat.le_of_ble_eq_true rfl) cells) (Nat.add_le_add_left (Nat.le_of_ble_eq_true rfl) slots)
    · refine lv_if_eq (tgt := 702) hx hb d_L_law_695 (by decide) (fun hp => absurd hp (by decide)) (fun _ => ?_)
      refine lv_lconst (v := 1) hx hb d_L_law_698 (by decide) ?_
      refine lv_goto (tgt := 703) hx hb d_L_law_699 (by decide) ?_
      refine W.lcmp hx hb d_L_law_703 ?_
      refine lv_if_eq (tgt := 709) hx hb d_L_law_704 (by decide) (fun _ => ?_) (fun hn => absurd (lw_cmp (heq.trans (if_neg (by decide)))) hn)
      refine lv_goto (tgt := 1371) hx hb d_L_law_709 (by decide) ?_
      exact hk (_, _, _, _) A ex _ _ _ _ _ ⟨rfl, rfl, rfl, hL, hr2, hw, lv_sub hl [2, 3, 4, 5, 6] rfl⟩ (Nat.add_le_add_left (Nat.le_of_ble_eq_true rfl) cells) (Nat.add_le_add_left (Nat.le_of_ble_eq_true rfl) slots)
  · refine lv_if_ne (tgt := 709) hx hb d_L_law_687 (by decide) (fun _ => ?_) (fun hp => absurd hp h0)
    refine lv_goto (tgt := 1371) hx hb d_L_law_709 (by decide) ?_
    exact hk (_, _, _, _) A ex _ _ _ _ _ ⟨rfl, rfl, rfl, hL, hr2, hw, lv_sub hl [2, 3, 4, 5, 6] rfl⟩ (Nat.add_le_add_left (Nat.le_of_ble_eq_true rfl) cells) (Nat.add_le_add_left (Nat.le_of_ble_eq_true rfl) slots)
set_option maxHeartbeats 4000000 in
set_option maxRecDepth 100000 in
theorem lw_9 (hC : lwC p l s m c args z b L xs) (hS : lwS D T z s H locs b h g o i bb ls u A ex) (hv : lwV i L) (hc : cells + 36 ≤ room_1.cells) (hs : slots + 4184 ≤ room_1.slots) (hb1 : bb + 1000 < 2 ^ 20) (hk : lwK p l e s m args below meth c D T z b h g o i bb cells slots Q) : W p l e room_1 s m args below meth c H locs cells slots Q (F0 m 712 ls []) := by
  obtain ⟨C, hl9, hN, hX, hbl, hbA⟩ := hC
  obtain ⟨hv1, hv2, hv3, hv4, hv5⟩ := hv
  obtain ⟨Lc, S, I, J⟩ := u
  obtain ⟨rfl, rfl, rfl, hL, hr, hw, hl⟩ := hS
  have hL : Lay S A ex := hL
  have hr : Rel (cI A I) (cJ A J) ex bb := hr
  have hw : ga_W D T z Lc S I J s H locs := hw
  have hx := C.1
  have hb := C.2.1
  obtain ⟨k, I1, J1, r, I2, J2, hf1, hf2, hth, heq, hr2⟩ := op_run hL (by omega) hr (xs (i + 1).toNatClampNeg)
  have hr2 := hr2.mono (show bb + 1000 ≤ bb + 1000 by omega)
  have hth : f_M_thrown S I2 J2 (A 6) = some k := by rw [f_M_thrown, gd_in (ev_m hL), hth]
  have hc1 : cells + rm_L_run.cells ≤ room_1.cells := Nat.le_trans (Nat.add_le_add_left (Nat.le_of_ble_eq_true rfl) cells) hc
  have hs1 : slots + rm_L_run.slots ≤ room_1.slots := Nat.le_trans (Nat.add_le_add_left (Nat.le_of_ble_eq_true rfl) slots) hs
  refine lv_aload_n hx hb d_L_law_712 rfl (lv_at hl 1 rfl) ?_
  refine lv_aload_n hx hb d_L_law_713 rfl (lv_at hl 0 rfl) ?_
  refine lv_iload hx hb d_L_law_714 (lv_at hl 4 rfl) ?_
  refine lv_iconst (v := 1) hx hb d_L_law_716 (by decide) ?_
  refine lv_iadd hx hb d_L_law_717 ?_
  refine va_sld hx hb hX hbl hbA hw.2.2.2.1 hv1 d_L_law_718 ?_
  refine lv_aload_n hx hb d_L_law_719 rfl (lv_at hl 3 rfl) ?_
  refine ga_cWi (As := [.ref (A 0), .int (xs (i + 1).toNatClampNeg), .ref (A 7)]) C hw (c_L_run l D T z Lc hl9 hf1) gsw_L_122 rfl hl.1 ⟨Nat.le_of_ble_eq_true rfl, Nat.le_of_ble_eq_true rfl, hc1, hs1⟩ (Nat.le_of_ble_eq_true rfl) rfl d_L_law_720 (fun H locs hw => ?_)
  refine lv_istore hx hb d_L_law_723 hl (by decide) rfl (fun ls hl => ?_)
  have hl : lv_has ls 8 [(5, .int k), (0, .ref b), (1, .ref (A 0)), (2, .ref (A 6)), (3, .ref (A 7)), (4, .int i)] := hl
  refine lv_aload_n hx hb d_L_law_725 rfl (lv_at hl 3 rfl) ?_
  refine lv_aload_n hx hb d_L_law_726 rfl (lv_at hl 1 rfl) ?_
  refine lv_iload hx hb d_L_law_727 (lv_at hl 5 rfl) ?_
  refine lv_iconst (v := 1) hx hb d_L_law_729 (by decide) ?_
  refine lv_iadd hx hb d_L_law_730 ?_
  refine va_sld hx hb hX hbl hbA hw.2.2.2.1 hv1 d_L_law_731 ?_
  refine ga_cVi (As := [.int (xs (i + 1).toNatClampNeg)]) C hw (c_M_run l D T z Lc hf2) gy_L_124 (ev_m hL) rfl hl.1 ⟨Nat.le_of_ble_eq_true rfl, Nat.le_of_ble_eq_true rfl, rfl, rfl, hc1, hs1⟩ (Nat.le_of_ble_eq_true rfl) rfl d_L_law_732 (fun H locs hw => ?_)
  refine lv_istore hx hb d_L_law_735 hl (by decide) rfl (fun ls hl => ?_)
  have hl : lv_has ls 8 [(6, .int r), (5, .int k), (0, .ref b), (1, .ref (A 0)), (2, .ref (A 6)), (3, .ref (A 7)), (4, .int i)] := hl
  refine lv_aload_n hx hb d_L_law_737 rfl (lv_at hl 4 rfl) ?_
  refine ga_cVi (As := []) C hw (c_M_thrown l D T z Lc hth) gy_L_90 (ev_m hL) rfl hl.1 ⟨Nat.le_of_ble_eq_true rfl, Nat.le_of_ble_eq_true rfl, rfl, rfl, hc1, hs1⟩ (Nat.le_of_ble_eq_true rfl) rfl d_L_law_738 (fun H locs hw => ?_)
  refine lv_iload hx hb d_L_law_741 (lv_at hl 1 rfl) ?_
  refine lv_icmp_eq (tgt := 748) hx hb d_L_law_743 (by decide) (fun _ => ?_) (fun hn => absurd rfl hn)
  refine lv_iload hx hb d_L_law_748 (lv_at hl 1 rfl) ?_
  by_cases h0 : k = 0
  · refine lv_if_ne (tgt := 765) hx hb d_L_law_750 (by decide) (fun hn => absurd h0 hn) (fun _ => ?_)
    have heq := heq h0
    refine lv_aload_n hx hb d_L_law_753 rfl (lv_at hl 5 rfl) ?_
    refine lv_iconst (v := 0) hx hb d_L_law_754 (by decide) ?_
    refine ga_lald C hw (ev_7 hL) (by rw [ev_7n hL]; decide) d_L_law_755 ?_
    refine lv_iload hx hb d_L_law_756 (lv_at hl 0 rfl) ?_
    refine lv_i2l hx hb d_L_law_758 rfl ?_
    refine W.lcmp hx hb d_L_law_759 ?_
    refine lv_if_eq (tgt := 765) hx hb d_L_law_760 (by decide) (fun _ => ?_) (fun hn => absurd (lw_cmp heq) hn)
    refine lv_goto (tgt := 1371) hx hb d_L_law_765 (by decide) ?_
    exact hk (_, _, _, _) A ex _ _ _ _ _ ⟨rfl, rfl, rfl, hL, hr2, hw, lv_sub hl [2, 3, 4, 5, 6] rfl⟩ (Nat.add_le_add_left (Nat.le_of_ble_eq_true rfl) cells) (Nat.add_le_add_left (Nat.le_of_ble_eq_true rfl) slots)
  · refine lv_if_ne (tgt := 765) hx hb d_L_law_750 (by decide) (fun _ => ?_) (fun hp => absurd hp h0)
    refine lv_goto (tgt := 1371) hx hb d_L_law_765 (by decide) ?_
    exact hk (_, _, _, _) A ex _ _ _ _ _ ⟨rfl, rfl, rfl, hL, hr2, hw, lv_sub hl [2, 3, 4, 5, 6] rfl⟩ (Nat.add_le_add_left (Nat.le_of_ble_eq_true rfl) cells) (Nat.add_le_add_left (Nat.le_of_ble_eq_true rfl) slots)
set_option maxHeartbeats 4000000 in
set_option maxRecDepth 100000 in
theorem lw_10 (hC : lwC p l s m c args z b L xs) (hS : lwS D T z s H locs b h g o i bb ls u A ex) (hv : lwV i L) (hc : cells + 36 ≤ room_1.cells) (hs : slots + 4184 ≤ room_1.slots) (hb1 : bb + 1000 < 2 ^ 20) (hk : lwK p l e s m args below meth c D T z b h g o i bb cells slots Q) : W p l e room_1 s m args below meth c H locs cells slots Q (F0 m 768 ls []) := by
  obtain ⟨C, hl9, hN, hX, hbl, hbA⟩ := hC
  obtain ⟨hv1, hv2, hv3, hv4, hv5⟩ := hv
  obtain ⟨Lc, S, I, J⟩ := u
  obtain ⟨rfl, rfl, rfl, hL, hr, hw, hl⟩ := hS
  have hL : Lay S A ex := hL
  have hr : Rel (cI A I) (cJ A J) ex bb := hr
  have hw : ga_W D T z Lc S I J s H locs := hw
  have hx := C.1
  have hb := C.2.1
  obtain ⟨k, I1, J1, r, I2, J2, hf1, hf2, hth, heq, hr2⟩ := op_resend hL (by omega) hr (xs (i + 1).toNatClampNeg)
  have hr2 := hr2.mono (show bb ≤ bb + 1000 by omega)
  have hth : f_M_thrown S I2 J2 (A 6) = some k := by rw [f_M_thrown, gd_in (ev_m hL), hth]
  have hc1 : cells + rm_L_resend.cells ≤ room_1.cells := Nat.le_trans (Nat.add_le_add_left (Nat.le_of_ble_eq_true rfl) cells) hc
  have hs1 : slots + rm_L_resend.slots ≤ room_1.slots := Nat.le_trans (Nat.add_le_add_left (Nat.le_of_ble_eq_true rfl) slots) hs
  refine lv_aload_n hx hb d_L_law_768 rfl (lv_at hl 1 rfl) ?_
  refine lv_aload_n hx hb d_L_law_769 rfl (lv_at hl 0 rfl) ?_
  refine lv_iload hx hb d_L_law_770 (lv_at hl 4 rfl) ?_
  refine lv_iconst (v := 1) hx hb d_L_law_772 (by decide) ?_
  refine lv_iadd hx hb d_L_law_773 ?_
  refine va_sld hx hb hX hbl hbA hw.2.2.2.1 hv1 d_L_law_774 ?_
  refine lv_aload_n hx hb d_L_law_775 rfl (lv_at hl 3 rfl) ?_
  refine ga_cWi (As := [.ref (A 0), .int (xs (i + 1).toNatClampNeg), .ref (A 7)]) C hw (c_L_resend l D T z Lc hl9 hf1) gsw_L_125 rfl hl.1 ⟨Nat.le_of_ble_eq_true rfl, Nat.le_of_ble_eq_true rfl, hc1, hs1⟩ (Nat.le_of_ble_eq_true rfl) rfl d_L_law_776 (fun H locs hw => ?_)
  refine lv_istore hx hb d_L_law_779 hl (by decide) rfl (fun ls hl => ?_)
  have hl : lv_has ls 8 [(5, .int k), (0, .ref b), (1, .ref (A 0)), (2, .ref (A 6)), (3, .ref (A 7)), (4, .int i)] := hl
  refine lv_aload_n hx hb d_L_law_781 rfl (lv_at hl 3 rfl) ?_
  refine lv_aload_n hx hb d_L_law_782 rfl (lv_at hl 1 rfl) ?_
  refine lv_iload hx hb d_L_law_783 (lv_at hl 5 rfl) ?_
  refine lv_iconst (v := 1) hx hb d_L_law_785 (by decide) ?_
  refine lv_iadd hx hb d_L_law_786 ?_
  refine va_sld hx hb hX hbl hbA hw.2.2.2.1 hv1 d_L_law_787 ?_
  refine ga_cVi (As := [.int (xs (i + 1).toNatClampNeg)]) C hw (c_M_resend l D T z Lc hf2) gy_L_127 (ev_m hL) rfl hl.1 ⟨Nat.le_of_ble_eq_true rfl, Nat.le_of_ble_eq_true rfl, rfl, rfl, hc1, hs1⟩ (Nat.le_of_ble_eq_true rfl) rfl d_L_law_788 (fun H locs hw => ?_)
  refine lv_istore hx hb d_L_law_791 hl (by decide) rfl (fun ls hl => ?_)
  have hl : lv_has ls 8 [(6, .int r), (5, .int k), (0, .ref b), (1, .ref (A 0)), (2, .ref (A 6)), (3, .ref (A 7)), (4, .int i)] := hl
  refine lv_aload_n hx hb d_L_law_793 rfl (lv_at hl 4 rfl) ?_
  refine ga_cVi (As := []) C hw (c_M_thrown l D T z Lc hth) gy_L_90 (ev_m hL) rfl hl.1 ⟨Nat.le_of_ble_eq_true rfl, Nat.le_of_ble_eq_true rfl, rfl, rfl, hc1, hs1⟩ (Nat.le_of_ble_eq_true rfl) rfl d_L_law_794 (fun H locs hw => ?_)
  refine lv_iload hx hb d_L_law_797 (lv_at hl 1 rfl) ?_
  refine lv_icmp_eq (tgt := 804) hx hb d_L_law_799 (by decide) (fun _ => ?_) (fun hn => absurd rfl hn)
  refine lv_iload hx hb d_L_law_804 (lv_at hl 1 rfl) ?_
  by_cases h0 : k = 0
  · refine lv_if_ne (tgt := 821) hx hb d_L_law_806 (by decide) (fun hn => absurd h0 hn) (fun _ => ?_)
    have heq := heq h0
    refine lv_aload_n hx hb d_L_law_809 rfl (lv_at hl 5 rfl) ?_
    refine lv_iconst (v := 0) hx hb d_L_law_810 (by decide) ?_
    refine ga_lald C hw (ev_7 hL) (by rw [ev_7n hL]; decide) d_L_law_811 ?_
    refine lv_iload hx hb d_L_law_812 (lv_at hl 0 rfl) ?_
    refine lv_i2l hx hb d_L_law_814 rfl ?_
    refine W.lcmp hx hb d_L_law_815 ?_
    refine lv_if_eq (tgt := 821) hx hb d_L_law_816 (by decide) (fun _ => ?_) (fun hn => absurd (lw_cmp heq) hn)
    refine lv_goto (tgt := 1371) hx hb d_L_law_821 (by decide) ?_
    exact hk (_, _, _, _) A ex _ _ _ _ _ ⟨rfl, rfl, rfl, hL, hr2, hw, lv_sub hl [2, 3, 4, 5, 6] rfl⟩ (Nat.add_le_add_left (Nat.le_of_ble_eq_true rfl) cells) (Nat.add_le_add_left (Nat.le_of_ble_eq_true rfl) slots)
  · refine lv_if_ne (tgt := 821) hx hb d_L_law_806 (by decide) (fun _ => ?_) (fun hp => absurd hp h0)
    refine lv_goto (tgt := 1371) hx hb d_L_law_821 (by decide) ?_
    exact hk (_, _, _, _) A ex _ _ _ _ _ ⟨rfl, rfl, rfl, hL, hr2, hw, lv_sub hl [2, 3, 4, 5, 6] rfl⟩ (Nat.add_le_add_left (Nat.le_of_ble_eq_true rfl) cells) (Nat.add_le_add_left (Nat.le_of_ble_eq_true rfl) slots)
set_option maxHeartbeats 4000000 in
set_option maxRecDepth 100000 in
theorem lw_11 (hC : lwC p l s m c args z b L xs) (hS : lwS D T z s H locs b h g o i bb ls u A ex) (hv : lwV i L) (hc : cells + 36 ≤ room_1.cells) (hs : slots + 4184 ≤ room_1.slots) (hb1 : bb + 1000 < 2 ^ 20) (hk : lwK p l e s m args below meth c D T z b h g o i bb cells slots Q) : W p l e room_1 s m args below meth c H locs cells slots Q (F0 m 824 ls []) := by
  obtain ⟨C, hl9, hN, hX, hbl, hbA⟩ := hC
  obtain ⟨hv1, hv2, hv3, hv4, hv5⟩ := hv
  obtain ⟨Lc, S, I, J⟩ := u
  obtain ⟨rfl, rfl, rfl, hL, hr, hw, hl⟩ := hS
  have hL : Lay S A ex := hL
  have hr : Rel (cI A I) (cJ A J) ex bb := hr
  have hw : ga_W D T z Lc S I J s H locs := hw
  have hx := C.1
  have hb := C.2.1
  obtain ⟨k, I1, J1, r, I2, J2, hf1, hf2, hth, heq, hr2⟩ := op_takeOver hL (by omega) hr (xs (i + 1).toNatClampNeg) (xs (i + 2).toNatClampNeg)
  have hr2 := hr2.mono (show bb + 1 ≤ bb + 1000 by omega)
  have hth : f_M_thrown S I2 J2 (A 6) = some k := by rw [f_M_thrown, gd_in (ev_m hL), hth]
  have hc1 : cells + rm_L_takeOver.cells ≤ room_1.cells := Nat.le_trans (Nat.add_le_add_left (Nat.le_of_ble_eq_true rfl) cells) hc
  have hs1 : slots + rm_L_takeOver.slots ≤ room_1.slots := Nat.le_trans (Nat.add_le_add_left (Nat.le_of_ble_eq_true rfl) slots) hs
  refine lv_aload_n hx hb d_L_law_824 rfl (lv_at hl 1 rfl) ?_
  refine lv_aload_n hx hb d_L_law_825 rfl (lv_at hl 0 rfl) ?_
  refine lv_iload hx hb d_L_law_826 (lv_at hl 4 rfl) ?_
  refine lv_iconst (v := 1) hx hb d_L_law_828 (by decide) ?_
  refine lv_iadd hx hb d_L_law_829 ?_
  refine va_sld hx hb hX hbl hbA hw.2.2.2.1 hv1 d_L_law_830 ?_
  refine lv_aload_n hx hb d_L_law_831 rfl (lv_at hl 0 rfl) ?_
  refine lv_iload hx hb d_L_law_832 (lv_at hl 4 rfl) ?_
  refine lv_iconst (v := 2) hx hb d_L_law_834 (by decide) ?_
  refine lv_iadd hx hb d_L_law_835 ?_
  refine va_sld hx hb hX hbl hbA hw.2.2.2.1 hv2 d_L_law_836 ?_
  refine lv_aload_n hx hb d_L_law_837 rfl (lv_at hl 3 rfl) ?_
  refine ga_cWi (As := [.ref (A 0), .int (xs (i + 1).toNatClampNeg), .int (xs (i + 2).toNatClampNeg), .ref (A 7)]) C hw (c_L_takeOver l D T z Lc hl9 hf1) gsw_L_128 rfl hl.1 ⟨Nat.le_of_ble_eq_true rfl, Nat.le_of_ble_eq_true rfl, hc1, hs1⟩ (Nat.le_of_ble_eq_true rfl) rfl d_L_law_838 (fun H locs hw => ?_)
  refine lv_istore hx hb d_L_law_841 hl (by decide) rfl (fun ls hl => ?_)
  have hl : lv_has ls 8 [(5, .int k), (0, .ref b), (1, .ref (A 0)), (2, .ref (A 6)), (3, .ref (A 7)), (4, .int i)] := hl
  refine lv_aload_n hx hb d_L_law_843 rfl (lv_at hl 3 rfl) ?_
  refine lv_aload_n hx hb d_L_law_844 rfl (lv_at hl 1 rfl) ?_
  refine lv_iload hx hb d_L_law_845 (lv_at hl 5 rfl) ?_
  refine lv_iconst (v := 1) hx hb d_L_law_847 (by decide) ?_
  refine lv_iadd hx hb d_L_law_848 ?_
  refine va_sld hx hb hX hbl hbA hw.2.2.2.1 hv1 d_L_law_849 ?_
  refine lv_aload_n hx hb d_L_law_850 rfl (lv_at hl 1 rfl) ?_
  refine lv_iload hx hb d_L_law_851 (lv_at hl 5 rfl) ?_
  refine lv_iconst (v := 2) hx hb d_L_law_853 (by decide) ?_
  refine lv_iadd hx hb d_L_law_854 ?_
  refine va_sld hx hb hX hbl hbA hw.2.2.2.1 hv2 d_L_law_855 ?_
  refine ga_cVi (As := [.int (xs (i + 1).toNatClampNeg), .int (xs (i + 2).toNatClampNeg)]) C hw (c_M_takeOver l D T z Lc hf2) gy_L_130 (ev_m hL) rfl hl.1 ⟨Nat.le_of_ble_eq_true rfl, Nat.le_of_ble_eq_true rfl, rfl, rfl, hc1, hs1⟩ (Nat.le_of_ble_eq_true rfl) rfl d_L_law_856 (fun H locs hw => ?_)
  refine lv_istore hx hb d_L_law_859 hl (by decide) rfl (fun ls hl => ?_)
  have hl : lv_has ls 8 [(6, .int r), (5, .int k), (0, .ref b), (1, .ref (A 0)), (2, .ref (A 6)), (3, .ref (A 7)), (4, .int i)] := hl
  refine lv_aload_n hx hb d_L_law_861 rfl (lv_at hl 4 rfl) ?_
  refine ga_cVi (As := []) C hw (c_M_thrown l D T z Lc hth) gy_L_90 (ev_m hL) rfl hl.1 ⟨Nat.le_of_ble_eq_true rfl, Nat.le_of_ble_eq_true rfl, rfl, rfl, hc1, hs1⟩ (Nat.le_of_ble_eq_true rfl) rfl d_L_law_862 (fun H locs hw => ?_)
  refine lv_iload hx hb d_L_law_865 (lv_at hl 1 rfl) ?_
  refine lv_icmp_eq (tgt := 872) hx hb d_L_law_867 (by decide) (fun _ => ?_) (fun hn => absurd rfl hn)
  refine lv_iload hx hb d_L_law_872 (lv_at hl 1 rfl) ?_
  by_cases h0 : k = 0
  · refine lv_if_ne (tgt := 889) hx hb d_L_law_874 (by decide) (fun hn => absurd h0 hn) (fun _ => ?_)
    have heq := heq h0
    refine lv_aload_n hx hb d_L_law_877 rfl (lv_at hl 5 rfl) ?_
    refine lv_iconst (v := 0) hx hb d_L_law_878 (by decide) ?_
    refine ga_lald C hw (ev_7 hL) (by rw [ev_7n hL]; decide) d_L_law_879 ?_
    refine lv_iload hx hb d_L_law_880 (lv_at hl 0 rfl) ?_
    refine lv_i2l hx hb d_L_law_882 rfl ?_
    refine W.lcmp hx hb d_L_law_883 ?_
    refine lv_if_eq (tgt := 889) hx hb d_L_law_884 (by decide) (fun _ => ?_) (fun hn => absurd (lw_cmp heq) hn)
    refine lv_goto (tgt := 1371) hx hb d_L_law_889 (by decide) ?_
    exact hk (_, _, _, _) A ex _ _ _ _ _ ⟨rfl, rfl, rfl, hL, hr2, hw, lv_sub hl [2, 3, 4, 5, 6] rfl⟩ (Nat.add_le_add_left (Nat.le_of_ble_eq_true rfl) cells) (Nat.add_le_add_left (Nat.le_of_ble_eq_true rfl) slots)
  · refine lv_if_ne (tgt := 889) hx hb d_L_law_874 (by decide) (fun _ => ?_) (fun hp => absurd hp h0)
    refine lv_goto (tgt := 1371) hx hb d_L_law_889 (by decide) ?_
    exact hk (_, _, _, _) A ex _ _ _ _ _ ⟨rfl, rfl, rfl, hL, hr2, hw, lv_sub hl [2, 3, 4, 5, 6] rfl⟩ (Nat.add_le_add_left (Nat.le_of_ble_eq_true rfl) cells) (Nat.add_le_add_left (Nat.le_of_ble_eq_true rfl) slots)
set_option maxHeartbeats 4000000 in
set_option maxRecDepth 100000 in
theorem lw_12 (hC : lwC p l s m c args z b L xs) (hS : lwS D T z s H locs b h g o i bb ls u A ex) (hv : lwV i L) (hc : cells + 36 ≤ room_1.cells) (hs : slots + 4184 ≤ room_1.slots) (hb1 : bb + 1000 < 2 ^ 20) (hk : lwK p l e s m args below meth c D T z b h g o i bb cells slots Q) : W p l e room_1 s m args below meth c H locs cells slots Q (F0 m 892 ls []) := by
  obtain ⟨C, hl9, hN, hX, hbl, hbA⟩ := hC
  obtain ⟨hv1, hv2, hv3, hv4, hv5⟩ := hv
  obtain ⟨Lc, S, I, J⟩ := u
  obtain ⟨rfl, rfl, rfl, hL, hr, hw, hl⟩ := hS
  have hL : Lay S A ex := hL
  have hr : Rel (cI A I) (cJ A J) ex bb := hr
  have hw : ga_W D T z Lc S I J s H locs := hw
  have hx := C.1
  have hb := C.2.1
  obtain ⟨k, I1, J1, r, I2, hf1, hf2, hth, heq, hr2⟩ := op_crash hL hr (xs (i + 1).toNatClampNeg)
  have hr2 := hr2.mono (show bb ≤ bb + 1000 by omega)
  have hth : f_M_thrown S I2 J1 (A 6) = some k := by rw [f_M_thrown, gd_in (ev_m hL), hth]
  have hc1 : cells + rm_L_crash.cells ≤ room_1.cells := Nat.le_trans (Nat.add_le_add_left (Nat.le_of_ble_eq_true rfl) cells) hc
  have hs1 : slots + rm_L_crash.slots ≤ room_1.slots := Nat.le_trans (Nat.add_le_add_left (Nat.le_of_ble_eq_true rfl) slots) hs
  refine lv_aload_n hx hb d_L_law_892 rfl (lv_at hl 1 rfl) ?_
  refine lv_aload_n hx hb d_L_law_893 rfl (lv_at hl 0 rfl) ?_
  refine lv_iload hx hb d_L_law_894 (lv_at hl 4 rfl) ?_
  refine lv_iconst (v := 1) hx hb d_L_law_896 (by decide) ?_
  refine lv_iadd hx hb d_L_law_897 ?_
  refine va_sld hx hb hX hbl hbA hw.2.2.2.1 hv1 d_L_law_898 ?_
  refine lv_aload_n hx hb d_L_law_899 rfl (lv_at hl 3 rfl) ?_
  refine ga_cWi (As := [.ref (A 0), .int (xs (i + 1).toNatClampNeg), .ref (A 7)]) C hw (c_L_crash l D T z Lc hl9 hf1) gsw_L_131 rfl hl.1 ⟨Nat.le_of_ble_eq_true rfl, Nat.le_of_ble_eq_true rfl, hc1, hs1⟩ (Nat.le_of_ble_eq_true rfl) rfl d_L_law_900 (fun H locs hw => ?_)
  refine lv_istore hx hb d_L_law_903 hl (by decide) rfl (fun ls hl => ?_)
  have hl : lv_has ls 8 [(5, .int k), (0, .ref b), (1, .ref (A 0)), (2, .ref (A 6)), (3, .ref (A 7)), (4, .int i)] := hl
  refine lv_aload_n hx hb d_L_law_905 rfl (lv_at hl 3 rfl) ?_
  refine lv_aload_n hx hb d_L_law_906 rfl (lv_at hl 1 rfl) ?_
  refine lv_iload hx hb d_L_law_907 (lv_at hl 5 rfl) ?_
  refine lv_iconst (v := 1) hx hb d_L_law_909 (by decide) ?_
  refine lv_iadd hx hb d_L_law_910 ?_
  refine va_sld hx hb hX hbl hbA hw.2.2.2.1 hv1 d_L_law_911 ?_
  refine ga_cVi (As := [.int (xs (i + 1).toNatClampNeg)]) C hw (c_M_crash l D T z Lc hf2) gy_L_133 (ev_m hL) rfl hl.1 ⟨Nat.le_of_ble_eq_true rfl, Nat.le_of_ble_eq_true rfl, rfl, rfl, hc1, hs1⟩ (Nat.le_of_ble_eq_true rfl) rfl d_L_law_912 (fun H locs hw => ?_)
  refine lv_istore hx hb d_L_law_915 hl (by decide) rfl (fun ls hl => ?_)
  have hl : lv_has ls 8 [(6, .int r), (5, .int k), (0, .ref b), (1, .ref (A 0)), (2, .ref (A 6)), (3, .ref (A 7)), (4, .int i)] := hl
  refine lv_aload_n hx hb d_L_law_917 rfl (lv_at hl 4 rfl) ?_
  refine ga_cVi (As := []) C hw (c_M_thrown l D T z Lc hth) gy_L_90 (ev_m hL) rfl hl.1 ⟨Nat.le_of_ble_eq_true rfl, Nat.le_of_ble_eq_true rfl, rfl, rfl, hc1, hs1⟩ (Nat.le_of_ble_eq_true rfl) rfl d_L_law_918 (fun H locs hw => ?_)
  refine lv_iload hx hb d_L_law_921 (lv_at hl 1 rfl) ?_
  refine lv_icmp_eq (tgt := 928) hx hb d_L_law_923 (by decide) (fun _ => ?_) (fun hn => absurd rfl hn)
  refine lv_iload hx hb d_L_law_928 (lv_at hl 1 rfl) ?_
  by_cases h0 : k = 0
  · refine lv_if_ne (tgt := 945) hx hb d_L_law_930 (by decide) (fun hn => absurd h0 hn) (fun _ => ?_)
    have heq := heq h0
    refine lv_aload_n hx hb d_L_law_933 rfl (lv_at hl 5 rfl) ?_
    refine lv_iconst (v := 0) hx hb d_L_law_934 (by decide) ?_
    refine ga_lald C hw (ev_7 hL) (by rw [ev_7n hL]; decide) d_L_law_935 ?_
    refine lv_iload hx hb d_L_law_936 (lv_at hl 0 rfl) ?_
    refine lv_i2l hx hb d_L_law_938 rfl ?_
    refine W.lcmp hx hb d_L_law_939 ?_
    refine lv_if_eq (tgt := 945) hx hb d_L_law_940 (by decide) (fun _ => ?_) (fun hn => absurd (lw_cmp heq) hn)
    refine lv_goto (tgt := 1371) hx hb d_L_law_945 (by decide) ?_
    exact hk (_, _, _, _) A ex _ _ _ _ _ ⟨rfl, rfl, rfl, hL, hr2, hw, lv_sub hl [2, 3, 4, 5, 6] rfl⟩ (Nat.add_le_add_left (Nat.le_of_ble_eq_true rfl) cells) (Nat.add_le_add_left (Nat.le_of_ble_eq_true rfl) slots)
  · refine lv_if_ne (tgt := 945) hx hb d_L_law_930 (by decide) (fun _ => ?_) (fun hp => absurd hp h0)
    refine lv_goto (tgt := 1371) hx hb d_L_law_945 (by decide) ?_
    exact hk (_, _, _, _) A ex _ _ _ _ _ ⟨rfl, rfl, rfl, hL, hr2, hw, lv_sub hl [2, 3, 4, 5, 6] rfl⟩ (Nat.add_le_add_left (Nat.le_of_ble_eq_true rfl) cells) (Nat.add_le_add_left (Nat.le_of_ble_eq_true rfl) slots)
set_option maxHeartbeats 4000000 in
set_option maxRecDepth 100000 in
theorem lw_13 (hC : lwC p l s m c args z b L xs) (hS : lwS D T z s H locs b h g o i bb ls u A ex) (hv : lwV i L) (hc : cells + 36 ≤ room_1.cells) (hs : slots + 4184 ≤ room_1.slots) (hb1 : bb + 1000 < 2 ^ 20) (hk : lwK p l e s m args below meth c D T z b h g o i bb cells slots Q) : W p l e room_1 s m args below meth c H locs cells slots Q (F0 m 948 ls []) := by
  obtain ⟨C, hl9, hN, hX, hbl, hbA⟩ := hC
  obtain ⟨hv1, hv2, hv3, hv4, hv5⟩ := hv
  obtain ⟨Lc, S, I, J⟩ := u
  obtain ⟨rfl, rfl, rfl, hL, hr, hw, hl⟩ := hS
  have hL : Lay S A ex := hL
  have hr : Rel (cI A I) (cJ A J) ex bb := hr
  have hw : ga_W D T z Lc S I J s H locs := hw
  have hx := C.1
  have hb := C.2.1
  obtain ⟨k, I1, I2, hf1, hf2, hth, hr2⟩ := op_restart hL hr (xs (i + 1).toNatClampNeg)
  have hr2 := hr2.mono (show bb ≤ bb + 1000 by omega)
  have hth : f_M_thrown S I2 J (A 6) = some k := by rw [f_M_thrown, gd_in (ev_m hL), hth]
  have hc1 : cells + rm_L_restart.cells ≤ room_1.cells := Nat.le_trans (Nat.add_le_add_left (Nat.le_of_ble_eq_true rfl) cells) hc
  have hs1 : slots + rm_L_restart.slots ≤ room_1.slots := Nat.le_trans (Nat.add_le_add_left (Nat.le_of_ble_eq_true rfl) slots) hs
  refine lv_aload_n hx hb d_L_law_948 rfl (lv_at hl 1 rfl) ?_
  refine lv_aload_n hx hb d_L_law_949 rfl (lv_at hl 0 rfl) ?_
  refine lv_iload hx hb d_L_law_950 (lv_at hl 4 rfl) ?_
  refine lv_iconst (v := 1) hx hb d_L_law_952 (by decide) ?_
  refine lv_iadd hx hb d_L_law_953 ?_
  refine va_sld hx hb hX hbl hbA hw.2.2.2.1 hv1 d_L_law_954 ?_
  refine ga_cWi (As := [.ref (A 0), .int (xs (i + 1).toNatClampNeg)]) C hw (c_L_restart l D T z Lc hl9 hf1) gsw_L_134 rfl hl.1 ⟨Nat.le_of_ble_eq_true rfl, Nat.le_of_ble_eq_true rfl, hc1, hs1⟩ (Nat.le_of_ble_eq_true rfl) rfl d_L_law_955 (fun H locs hw => ?_)
  refine lv_istore hx hb d_L_law_958 hl (by decide) rfl (fun ls hl => ?_)
  have hl : lv_has ls 8 [(5, .int k), (0, .ref b), (1, .ref (A 0)), (2, .ref (A 6)), (3, .ref (A 7)), (4, .int i)] := hl
  refine lv_aload_n hx hb d_L_law_960 rfl (lv_at hl 3 rfl) ?_
  refine lv_aload_n hx hb d_L_law_961 rfl (lv_at hl 1 rfl) ?_
  refine lv_iload hx hb d_L_law_962 (lv_at hl 5 rfl) ?_
  refine lv_iconst (v := 1) hx hb d_L_law_964 (by decide) ?_
  refine lv_iadd hx hb d_L_law_965 ?_
  refine va_sld hx hb hX hbl hbA hw.2.2.2.1 hv1 d_L_law_966 ?_
  refine ga_cVv (As := [.int (xs (i + 1).toNatClampNeg)]) C hw (c_M_restart l D T z Lc hf2) gy_L_137 (ev_m hL) rfl hl.1 ⟨Nat.le_of_ble_eq_true rfl, Nat.le_of_ble_eq_true rfl, rfl, rfl, hc1, hs1⟩ (Nat.le_of_ble_eq_true rfl) rfl d_L_law_967 (fun H locs hw => ?_)
  refine lv_aload_n hx hb d_L_law_970 rfl (lv_at hl 3 rfl) ?_
  refine ga_cVi (As := []) C hw (c_M_thrown l D T z Lc hth) gy_L_90 (ev_m hL) rfl hl.1 ⟨Nat.le_of_ble_eq_true rfl, Nat.le_of_ble_eq_true rfl, rfl, rfl, hc1, hs1⟩ (Nat.le_of_ble_eq_true rfl) rfl d_L_law_971 (fun H locs hw => ?_)
  refine lv_iload hx hb d_L_law_974 (lv_at hl 0 rfl) ?_
  refine lv_icmp_eq (tgt := 981) hx hb d_L_law_976 (by decide) (fun _ => ?_) (fun hn => absurd rfl hn)
  refine lv_goto (tgt := 1371) hx hb d_L_law_981 (by decide) ?_
  exact hk (_, _, _, _) A ex _ _ _ _ _ ⟨rfl, rfl, rfl, hL, hr2, hw, lv_sub hl [1, 2, 3, 4, 5] rfl⟩ (Nat.add_le_add_left (Nat.le_of_ble_eq_true rfl) cells) (Nat.add_le_add_left (Nat.le_of_ble_eq_true rfl) slots)
set_option maxHeartbeats 4000000 in
set_option maxRecDepth 100000 in
theorem lw_14 (hC : lwC p l s m c args z b L xs) (hS : lwS D T z s H locs b h g o i bb ls u A ex) (hv : lwV i L) (hc : cells + 36 ≤ room_1.cells) (hs : slots + 4184 ≤ room_1.slots) (hb1 : bb + 1000 < 2 ^ 20) (hk : lwK p l e s m args below meth c D T z b h g o i bb cells slots Q) : W p l e room_1 s m args below meth c H locs cells slots Q (F0 m 984 ls []) := by
  obtain ⟨C, hl9, hN, hX, hbl, hbA⟩ := hC
  obtain ⟨hv1, hv2, hv3, hv4, hv5⟩ := hv
  obtain ⟨Lc, S, I, J⟩ := u
  obtain ⟨rfl, rfl, rfl, hL, hr, hw, hl⟩ := hS
  have hL : Lay S A ex := hL
  have hr : Rel (cI A I) (cJ A J) ex bb := hr
  have hw : ga_W D T z Lc S I J s H locs := hw
  have hx := C.1
  have hb := C.2.1
  obtain ⟨k, J1, r, I2, hf1, hf2, hth, heq, hr2⟩ := op_state hL hr (xs (i + 1).toNatClampNeg)
  have hr2 := hr2.mono (show bb ≤ bb + 1000 by omega)
  have hth : f_M_thrown S I2 J1 (A 6) = some k := by rw [f_M_thrown, gd_in (ev_m hL), hth]
  have hc1 : cells + rm_L_state.cells ≤ room_1.cells := Nat.le_trans (Nat.add_le_add_left (Nat.le_of_ble_eq_true rfl) cells) hc
  have hs1 : slots + rm_L_state.slots ≤ room_1.slots := Nat.le_trans (Nat.add_le_add_left (Nat.le_of_ble_eq_true rfl) slots) hs
  refine lv_aload_n hx hb d_L_law_984 rfl (lv_at hl 1 rfl) ?_
  refine lv_aload_n hx hb d_L_law_985 rfl (lv_at hl 0 rfl) ?_
  refine lv_iload hx hb d_L_law_986 (lv_at hl 4 rfl) ?_
  refine lv_iconst (v := 1) hx hb d_L_law_988 (by decide) ?_
  refine lv_iadd hx hb d_L_law_989 ?_
  refine va_sld hx hb hX hbl hbA hw.2.2.2.1 hv1 d_L_law_990 ?_
  refine lv_aload_n hx hb d_L_law_991 rfl (lv_at hl 3 rfl) ?_
  refine ga_cWi (As := [.ref (A 0), .int (xs (i + 1).toNatClampNeg), .ref (A 7)]) C hw (c_L_state l D T z Lc hl9 hf1) gsw_L_138 rfl hl.1 ⟨Nat.le_of_ble_eq_true rfl, Nat.le_of_ble_eq_true rfl, hc1, hs1⟩ (Nat.le_of_ble_eq_true rfl) rfl d_L_law_992 (fun H locs hw => ?_)
  refine lv_istore hx hb d_L_law_995 hl (by decide) rfl (fun ls hl => ?_)
  have hl : lv_has ls 8 [(5, .int k), (0, .ref b), (1, .ref (A 0)), (2, .ref (A 6)), (3, .ref (A 7)), (4, .int i)] := hl
  refine lv_aload_n hx hb d_L_law_997 rfl (lv_at hl 3 rfl) ?_
  refine lv_aload_n hx hb d_L_law_998 rfl (lv_at hl 1 rfl) ?_
  refine lv_iload hx hb d_L_law_999 (lv_at hl 5 rfl) ?_
  refine lv_iconst (v := 1) hx hb d_L_law_1001 (by decide) ?_
  refine lv_iadd hx hb d_L_law_1002 ?_
  refine va_sld hx hb hX hbl hbA hw.2.2.2.1 hv1 d_L_law_1003 ?_
  refine ga_cVi (As := [.int (xs (i + 1).toNatClampNeg)]) C hw (c_M_state l D T z Lc hf2) gy_L_140 (ev_m hL) rfl hl.1 ⟨Nat.le_of_ble_eq_true rfl, Nat.le_of_ble_eq_true rfl, rfl, rfl, hc1, hs1⟩ (Nat.le_of_ble_eq_true rfl) rfl d_L_law_1004 (fun H locs hw => ?_)
  refine lv_istore hx hb d_L_law_1007 hl (by decide) rfl (fun ls hl => ?_)
  have hl : lv_has ls 8 [(6, .int r), (5, .int k), (0, .ref b), (1, .ref (A 0)), (2, .ref (A 6)), (3, .ref (A 7)), (4, .int i)] := hl
  refine lv_aload_n hx hb d_L_law_1009 rfl (lv_at hl 4 rfl) ?_
  refine ga_cVi (As := []) C hw (c_M_thrown l D T z Lc hth) gy_L_90 (ev_m hL) rfl hl.1 ⟨Nat.le_of_ble_eq_true rfl, Nat.le_of_ble_eq_true rfl, rfl, rfl, hc1, hs1⟩ (Nat.le_of_ble_eq_true rfl) rfl d_L_law_1010 (fun H locs hw => ?_)
  refine lv_iload hx hb d_L_law_1013 (lv_at hl 1 rfl) ?_
  refine lv_icmp_eq (tgt := 1020) hx hb d_L_law_1015 (by decide) (fun _ => ?_) (fun hn => absurd rfl hn)
  refine lv_iload hx hb d_L_law_1020 (lv_at hl 1 rfl) ?_
  by_cases h0 : k = 0
  · refine lv_if_ne (tgt := 1037) hx hb d_L_law_1022 (by decide) (fun hn => absurd h0 hn) (fun _ => ?_)
    have heq := heq h0
    refine lv_aload_n hx hb d_L_law_1025 rfl (lv_at hl 5 rfl) ?_
    refine lv_iconst (v := 0) hx hb d_L_law_1026 (by decide) ?_
    refine ga_lald C hw (ev_7 hL) (by rw [ev_7n hL]; decide) d_L_law_1027 ?_
    refine lv_iload hx hb d_L_law_1028 (lv_at hl 0 rfl) ?_
    refine lv_i2l hx hb d_L_law_1030 rfl ?_
    refine W.lcmp hx hb d_L_law_1031 ?_
    refine lv_if_eq (tgt := 1037) hx hb d_L_law_1032 (by decide) (fun _ => ?_) (fun hn => absurd (lw_cmp heq) hn)
    refine lv_goto (tgt := 1371) hx hb d_L_law_1037 (by decide) ?_
    exact hk (_, _, _, _) A ex _ _ _ _ _ ⟨rfl, rfl, rfl, hL, hr2, hw, lv_sub hl [2, 3, 4, 5, 6] rfl⟩ (Nat.add_le_add_left (Nat.le_of_ble_eq_true rfl) cells) (Nat.add_le_add_left (Nat.le_of_ble_eq_true rfl) slots)
  · refine lv_if_ne (tgt := 1037) hx hb d_L_law_1022 (by decide) (fun _ => ?_) (fun hp => absurd hp h0)
    refine lv_goto (tgt := 1371) hx hb d_L_law_1037 (by decide) ?_
    exact hk (_, _, _, _) A ex _ _ _ _ _ ⟨rfl, rfl, rfl, hL, hr2, hw, lv_sub hl [2, 3, 4, 5, 6] rfl⟩ (Nat.add_le_add_left (Nat.le_of_ble_eq_true rfl) cells) (Nat.add_le_add_left (Nat.le_of_ble_eq_true rfl) slots)
set_option maxHeartbeats 4000000 in
set_option maxRecDepth 100000 in
theorem lw_15 (hC : lwC p l s m c args z b L xs) (hS : lwS D T z s H locs b h g o i bb ls u A ex) (hv : lwV i L) (hc : cells + 36 ≤ room_1.cells) (hs : slots + 4184 ≤ room_1.slots) (hb1 : bb + 1000 < 2 ^ 20) (hk : lwK p l e s m args below meth c D T z b h g o i bb cells slots Q) : W p l e room_1 s m args below meth c H locs cells slots Q (F0 m 1040 ls []) := by
  obtain ⟨C, hl9, hN, hX, hbl, hbA⟩ := hC
  obtain ⟨hv1, hv2, hv3, hv4, hv5⟩ := hv
  obtain ⟨Lc, S, I, J⟩ := u
  obtain ⟨rfl, rfl, rfl, hL, hr, hw, hl⟩ := hS
  have hL : Lay S A ex := hL
  have hr : Rel (cI A I) (cJ A J) ex bb := hr
  have hw : ga_W D T z Lc S I J s H locs := hw
  have hx := C.1
  have hb := C.2.1
  obtain ⟨k, J1, r, I2, hf1, hf2, hth, heq, hr2⟩ := op_answer hL hr (xs (i + 1).toNatClampNeg)
  have hr2 := hr2.mono (show bb ≤ bb + 1000 by omega)
  have hth : f_M_thrown S I2 J1 (A 6) = some k := by rw [f_M_thrown, gd_in (ev_m hL), hth]
  have hc1 : cells + rm_L_answer.cells ≤ room_1.cells := Nat.le_trans (Nat.add_le_add_left (Nat.le_of_ble_eq_true rfl) cells) hc
  have hs1 : slots + rm_L_answer.slots ≤ room_1.slots := Nat.le_trans (Nat.add_le_add_left (Nat.le_of_ble_eq_true rfl) slots) hs
  refine lv_aload_n hx hb d_L_law_1040 rfl (lv_at hl 1 rfl) ?_
  refine lv_aload_n hx hb d_L_law_1041 rfl (lv_at hl 0 rfl) ?_
  refine lv_iload hx hb d_L_law_1042 (lv_at hl 4 rfl) ?_
  refine lv_iconst (v := 1) hx hb d_L_law_1044 (by decide) ?_
  refine lv_iadd hx hb d_L_law_1045 ?_
  refine va_sld hx hb hX hbl hbA hw.2.2.2.1 hv1 d_L_law_1046 ?_
  refine lv_aload_n hx hb d_L_law_1047 rfl (lv_at hl 3 rfl) ?_
  refine ga_cWi (As := [.ref (A 0), .int (xs (i + 1).toNatClampNeg), .ref (A 7)]) C hw (c_L_answer l D T z Lc hl9 hf1) gsw_L_141 rfl hl.1 ⟨Nat.le_of_ble_eq_true rfl, Nat.le_of_ble_eq_true rfl, hc1, hs1⟩ (Nat.le_of_ble_eq_true rfl) rfl d_L_law_1048 (fun H locs hw => ?_)
  refine lv_istore hx hb d_L_law_1051 hl (by decide) rfl (fun ls hl => ?_)
  have hl : lv_has ls 8 [(5, .int k), (0, .ref b), (1, .ref (A 0)), (2, .ref (A 6)), (3, .ref (A 7)), (4, .int i)] := hl
  refine lv_aload_n hx hb d_L_law_1053 rfl (lv_at hl 3 rfl) ?_
  refine lv_aload_n hx hb d_L_law_1054 rfl (lv_at hl 1 rfl) ?_
  refine lv_iload hx hb d_L_law_1055 (lv_at hl 5 rfl) ?_
  refine lv_iconst (v := 1) hx hb d_L_law_1057 (by decide) ?_
  refine lv_iadd hx hb d_L_law_1058 ?_
  refine va_sld hx hb hX hbl hbA hw.2.2.2.1 hv1 d_L_law_1059 ?_
  refine ga_cVl (As := [.int (xs (i + 1).toNatClampNeg)]) C hw (c_M_answer l D T z Lc hf2) gy_L_143 (ev_m hL) rfl hl.1 ⟨Nat.le_of_ble_eq_true rfl, Nat.le_of_ble_eq_true rfl, rfl, rfl, hc1, hs1⟩ (Nat.le_of_ble_eq_true rfl) rfl d_L_law_1060 (fun H locs hw => ?_)
  refine lv_lstore hx hb d_L_law_1063 hl (by decide) rfl (fun ls hl => ?_)
  have hl : lv_has ls 8 [(6, .long r), (5, .int k), (0, .ref b), (1, .ref (A 0)), (2, .ref (A 6)), (3, .ref (A 7)), (4, .int i)] := hl
  refine lv_aload_n hx hb d_L_law_1065 rfl (lv_at hl 4 rfl) ?_
  refine ga_cVi (As := []) C hw (c_M_thrown l D T z Lc hth) gy_L_90 (ev_m hL) rfl hl.1 ⟨Nat.le_of_ble_eq_true rfl, Nat.le_of_ble_eq_true rfl, rfl, rfl, hc1, hs1⟩ (Nat.le_of_ble_eq_true rfl) rfl d_L_law_1066 (fun H locs hw => ?_)
  refine lv_iload hx hb d_L_law_1069 (lv_at hl 1 rfl) ?_
  refine lv_icmp_eq (tgt := 1076) hx hb d_L_law_1071 (by decide) (fun _ => ?_) (fun hn => absurd rfl hn)
  refine lv_iload hx hb d_L_law_1076 (lv_at hl 1 rfl) ?_
  by_cases h0 : k = 0
  · refine lv_if_ne (tgt := 1092) hx hb d_L_law_1078 (by decide) (fun hn => absurd h0 hn) (fun _ => ?_)
    have heq := heq h0
    refine lv_aload_n hx hb d_L_law_1081 rfl (lv_at hl 5 rfl) ?_
    refine lv_iconst (v := 0) hx hb d_L_law_1082 (by decide) ?_
    refine ga_lald C hw (ev_7 hL) (by rw [ev_7n hL]; decide) d_L_law_1083 ?_
    refine lv_lload hx hb d_L_law_1084 (lv_at hl 0 rfl) ?_
    refine W.lcmp hx hb d_L_law_1086 ?_
    refine lv_if_eq (tgt := 1092) hx hb d_L_law_1087 (by decide) (fun _ => ?_) (fun hn => absurd (lw_cmp heq) hn)
    refine lv_goto (tgt := 1371) hx hb d_L_law_1092 (by decide) ?_
    exact hk (_, _, _, _) A ex _ _ _ _ _ ⟨rfl, rfl, rfl, hL, hr2, hw, lv_sub hl [2, 3, 4, 5, 6] rfl⟩ (Nat.add_le_add_left (Nat.le_of_ble_eq_true rfl) cells) (Nat.add_le_add_left (Nat.le_of_ble_eq_true rfl) slots)
  · refine lv_if_ne (tgt := 1092) hx hb d_L_law_1078 (by decide) (fun _ => ?_) (fun hp => absurd hp h0)
    refine lv_goto (tgt := 1371) hx hb d_L_law_1092 (by decide) ?_
    exact hk (_, _, _, _) A ex _ _ _ _ _ ⟨rfl, rfl, rfl, hL, hr2, hw, lv_sub hl [2, 3, 4, 5, 6] rfl⟩ (Nat.add_le_add_left (Nat.le_of_ble_eq_true rfl) cells) (Nat.add_le_add_left (Nat.le_of_ble_eq_true rfl) slots)
set_option maxHeartbeats 4000000 in
set_option maxRecDepth 100000 in
theorem lw_16 (hC : lwC p l s m c args z b L xs) (hS : lwS D T z s H locs b h g o i bb ls u A ex) (hv : lwV i L) (hc : cells + 36 ≤ room_1.cells) (hs : slots + 4184 ≤ room_1.slots) (hb1 : bb + 1000 < 2 ^ 20) (hk : lwK p l e s m args below meth c D T z b h g o i bb cells slots Q) : W p l e room_1 s m args below meth c H locs cells slots Q (F0 m 1095 ls []) := by
  obtain ⟨C, hl9, hN, hX, hbl, hbA⟩ := hC
  obtain ⟨hv1, hv2, hv3, hv4, hv5⟩ := hv
  obtain ⟨Lc, S, I, J⟩ := u
  obtain ⟨rfl, rfl, rfl, hL, hr, hw, hl⟩ := hS
  have hL : Lay S A ex := hL
  have hr : Rel (cI A I) (cJ A J) ex bb := hr
  have hw : ga_W D T z Lc S I J s H locs := hw
  have hx := C.1
  have hb := C.2.1
  obtain ⟨w, hw1⟩ : ∃ w : Int32, w = if (xs (i + 2).toNatClampNeg) = 0 then 0 else 1 := ⟨_, rfl⟩
  obtain ⟨k, J1, r, I2, hf1, hf2, hth, heq, hr2⟩ := op_found hL hr (xs (i + 1).toNatClampNeg) w
  have hr2 := hr2.mono (show bb ≤ bb + 1000 by omega)
  have hth : f_M_thrown S I2 J1 (A 6) = some k := by rw [f_M_thrown, gd_in (ev_m hL), hth]
  have hc1 : cells + rm_L_found.cells ≤ room_1.cells := Nat.le_trans (Nat.add_le_add_left (Nat.le_of_ble_eq_true rfl) cells) hc
  have hs1 : slots + rm_L_found.slots ≤ room_1.slots := Nat.le_trans (Nat.add_le_add_left (Nat.le_of_ble_eq_true rfl) slots) hs
  refine lv_aload_n hx hb d_L_law_1095 rfl (lv_at hl 1 rfl) ?_
  refine lv_aload_n hx hb d_L_law_1096 rfl (lv_at hl 0 rfl) ?_
  refine lv_iload hx hb d_L_law_1097 (lv_at hl 4 rfl) ?_
  refine lv_iconst (v := 1) hx hb d_L_law_1099 (by decide) ?_
  refine lv_iadd hx hb d_L_law_1100 ?_
  refine va_sld hx hb hX hbl hbA hw.2.2.2.1 hv1 d_L_law_1101 ?_
  refine lv_aload_n hx hb d_L_law_1102 rfl (lv_at hl 0 rfl) ?_
  refine lv_iload hx hb d_L_law_1103 (lv_at hl 4 rfl) ?_
  refine lv_iconst (v := 2) hx hb d_L_law_1105 (by decide) ?_
  refine lv_iadd hx hb d_L_law_1106 ?_
  refine va_sld hx hb hX hbl hbA hw.2.2.2.1 hv2 d_L_law_1107 ?_
  have hj1108 : ∀ rest : List Value, W p l e room_1 s m args below meth c H locs cells slots Q (F0 m 1116 ls (.int w :: rest)) → W p l e room_1 s m args below meth c H locs cells slots Q (F0 m 1108 ls (.int (xs (i + 2).toNatClampNeg) :: rest)) := by
    intro rest kk
    by_cases h0 : (xs (i + 2).toNatClampNeg) = 0
    · rw [if_pos h0] at hw1
      subst hw1
      refine lv_if_eq (tgt := 1115) hx hb d_L_law_1108 (by decide) (fun _ => ?_) (fun hn => absurd h0 hn)
      refine lv_iconst (v := 0) hx hb d_L_law_1115 (by decide) ?_
      exact kk
    · rw [if_neg h0] at hw1
      subst hw1
      refine lv_if_eq (tgt := 1115) hx hb d_L_law_1108 (by decide) (fun hp => absurd hp h0) (fun _ => ?_)
      refine lv_iconst (v := 1) hx hb d_L_law_1111 (by decide) ?_
      refine lv_goto (tgt := 1116) hx hb d_L_law_1112 (by decide) ?_
      exact kk
  refine hj1108 _ ?_
  refine lv_aload_n hx hb d_L_law_1116 rfl (lv_at hl 3 rfl) ?_
  refine ga_cWi (As := [.ref (A 0), .int (xs (i + 1).toNatClampNeg), .int w, .ref (A 7)]) C hw (c_L_found l D T z Lc hl9 hf1) gsw_L_144 rfl hl.1 ⟨Nat.le_of_ble_eq_true rfl, Nat.le_of_ble_eq_true rfl, hc1, hs1⟩ (Nat.le_of_ble_eq_true rfl) rfl d_L_law_1117 (fun H locs hw => ?_)
  refine lv_istore hx hb d_L_law_1120 hl (by decide) rfl (fun ls hl => ?_)
  have hl : lv_has ls 8 [(5, .int k), (0, .ref b), (1, .ref (A 0)), (2, .ref (A 6)), (3, .ref (A 7)), (4, .int i)] := hl
  refine lv_aload_n hx hb d_L_law_1122 rfl (lv_at hl 3 rfl) ?_
  refine lv_aload_n hx hb d_L_law_1123 rfl (lv_at hl 1 rfl) ?_
  refine lv_iload hx hb d_L_law_1124 (lv_at hl 5 rfl) ?_
  refine lv_iconst (v := 1) hx hb d_L_law_1126 (by decide) ?_
  refine lv_iadd hx hb d_L_law_1127 ?_
  refine va_sld hx hb hX hbl hbA hw.2.2.2.1 hv1 d_L_law_1128 ?_
  refine lv_aload_n hx hb d_L_law_1129 rfl (lv_at hl 1 rfl) ?_
  refine lv_iload hx hb d_L_law_1130 (lv_at hl 5 rfl) ?_
  refine lv_iconst (v := 2) hx hb d_L_law_1132 (by decide) ?_
  refine lv_iadd hx hb d_L_law_1133 ?_
  refine va_sld hx hb hX hbl hbA hw.2.2.2.1 hv2 d_L_law_1134 ?_
  have hj1135 : ∀ rest : List Value, W p l e room_1 s m args below meth c H locs (cells + rm_L_found.cells) (slots + rm_L_found.slots) Q (F0 m 1143 ls (.int w :: rest)) → W p l e room_1 s m args below meth c H locs (cells + rm_L_found.cells) (slots + rm_L_found.slots) Q (F0 m 1135 ls (.int (xs (i + 2).toNatClampNeg) :: rest)) := by
    intro rest kk
    by_cases h0 : (xs (i + 2).toNatClampNeg) = 0
    · rw [if_pos h0] at hw1
      subst hw1
      refine lv_if_eq (tgt := 1142) hx hb d_L_law_1135 (by decide) (fun _ => ?_) (fun hn => absurd h0 hn)
      refine lv_iconst (v := 0) hx hb d_L_law_1142 (by decide) ?_
      exact kk
    · rw [if_neg h0] at hw1
      subst hw1
      refine lv_if_eq (tgt := 1142) hx hb d_L_law_1135 (by decide) (fun hp => absurd hp h0) (fun _ => ?_)
      refine lv_iconst (v := 1) hx hb d_L_law_1138 (by decide) ?_
      refine lv_goto (tgt := 1143) hx hb d_L_law_1139 (by decide) ?_
      exact kk
  refine hj1135 _ ?_
  refine ga_cVi (As := [.int (xs (i + 1).toNatClampNeg), .int w]) C hw (c_M_found l D T z Lc hf2) gy_L_147 (ev_m hL) rfl hl.1 ⟨Nat.le_of_ble_eq_true rfl, Nat.le_of_ble_eq_true rfl, rfl, rfl, hc1, hs1⟩ (Nat.le_of_ble_eq_true rfl) rfl d_L_law_1143 (fun H locs hw => ?_)
  refine lv_istore hx hb d_L_law_1146 hl (by decide) rfl (fun ls hl => ?_)
  have hl : lv_has ls 8 [(6, .int r), (5, .int k), (0, .ref b), (1, .ref (A 0)), (2, .ref (A 6)), (3, .ref (A 7)), (4, .int i)] := hl
  refine lv_aload_n hx hb d_L_law_1148 rfl (lv_at hl 4 rfl) ?_
  refine ga_cVi (As := []) C hw (c_M_thrown l D T z Lc hth) gy_L_90 (ev_m hL) rfl hl.1 ⟨Nat.le_of_ble_eq_true rfl, Nat.le_of_ble_eq_true rfl, rfl, rfl, hc1, hs1⟩ (Nat.le_of_ble_eq_true rfl) rfl d_L_law_1149 (fun H locs hw => ?_)
  refine lv_iload hx hb d_L_law_1152 (lv_at hl 1 rfl) ?_
  refine lv_icmp_eq (tgt := 1159) hx hb d_L_law_1154 (by decide) (fun _ => ?_) (fun hn => absurd rfl hn)
  refine lv_iload hx hb d_L_law_1159 (lv_at hl 1 rfl) ?_
  by_cases h0 : k = 0
  · refine lv_if_ne (tgt := 1176) hx hb d_L_law_1161 (by decide) (fun hn => absurd h0 hn) (fun _ => ?_)
    have heq := heq h0
    refine lv_aload_n hx hb d_L_law_1164 rfl (lv_at hl 5 rfl) ?_
    refine lv_iconst (v := 0) hx hb d_L_law_1165 (by decide) ?_
    refine ga_lald C hw (ev_7 hL) (by rw [ev_7n hL]; decide) d_L_law_1166 ?_
    refine lv_iload hx hb d_L_law_1167 (lv_at hl 0 rfl) ?_
    refine lv_i2l hx hb d_L_law_1169 rfl ?_
    refine W.lcmp hx hb d_L_law_1170 ?_
    refine lv_if_eq (tgt := 1176) hx hb d_L_law_1171 (by decide) (fun _ => ?_) (fun hn => absurd (lw_cmp heq) hn)
    refine lv_goto (tgt := 1371) hx hb d_L_law_1176 (by decide) ?_
    exact hk (_, _, _, _) A ex _ _ _ _ _ ⟨rfl, rfl, rfl, hL, hr2, hw, lv_sub hl [2, 3, 4, 5, 6] rfl⟩ (Nat.add_le_add_left (Nat.le_of_ble_eq_true rfl) cells) (Nat.add_le_add_left (Nat.le_of_ble_eq_true rfl) slots)
  · refine lv_if_ne (tgt := 1176) hx hb d_L_law_1161 (by decide) (fun _ => ?_) (fun hp => absurd hp h0)
    refine lv_goto (tgt := 1371) hx hb d_L_law_1176 (by decide) ?_
    exact hk (_, _, _, _) A ex _ _ _ _ _ ⟨rfl, rfl, rfl, hL, hr2, hw, lv_sub hl [2, 3, 4, 5, 6] rfl⟩ (Nat.add_le_add_left (Nat.le_of_ble_eq_true rfl) cells) (Nat.add_le_add_left (Nat.le_of_ble_eq_true rfl) slots)
set_option maxHeartbeats 4000000 in
set_option maxRecDepth 100000 in
theorem lw_17 (hC : lwC p l s m c args z b L xs) (hS : lwS D T z s H locs b h g o i bb ls u A ex) (hv : lwV i L) (hc : cells + 36 ≤ room_1.cells) (hs : slots + 4184 ≤ room_1.slots) (hb1 : bb + 1000 < 2 ^ 20) (hk : lwK p l e s m args below meth c D T z b h g o i bb cells slots Q) : W p l e room_1 s m args below meth c H locs cells slots Q (F0 m 1179 ls []) := by
  obtain ⟨C, hl9, hN, hX, hbl, hbA⟩ := hC
  obtain ⟨hv1, hv2, hv3, hv4, hv5⟩ := hv
  obtain ⟨Lc, S, I, J⟩ := u
  obtain ⟨rfl, rfl, rfl, hL, hr, hw, hl⟩ := hS
  have hL : Lay S A ex := hL
  have hr : Rel (cI A I) (cJ A J) ex bb := hr
  have hw : ga_W D T z Lc S I J s H locs := hw
  have hx := C.1
  have hb := C.2.1
  obtain ⟨k, J1, r, I2, hf1, hf2, hth, heq, hr2⟩ := op_about hL hr (xs (i + 1).toNatClampNeg) (xs (i + 2).toNatClampNeg)
  have hr2 := hr2.mono (show bb ≤ bb + 1000 by omega)
  have hth : f_M_thrown S I2 J1 (A 6) = some k := by rw [f_M_thrown, gd_in (ev_m hL), hth]
  have hc1 : cells + rm_L_about.cells ≤ room_1.cells := Nat.le_trans (Nat.add_le_add_left (Nat.le_of_ble_eq_true rfl) cells) hc
  have hs1 : slots + rm_L_about.slots ≤ room_1.slots := Nat.le_trans (Nat.add_le_add_left (Nat.le_of_ble_eq_true rfl) slots) hs
  refine lv_aload_n hx hb d_L_law_1179 rfl (lv_at hl 1 rfl) ?_
  refine lv_aload_n hx hb d_L_law_1180 rfl (lv_at hl 0 rfl) ?_
  refine lv_iload hx hb d_L_law_1181 (lv_at hl 4 rfl) ?_
  refine lv_iconst (v := 1) hx hb d_L_law_1183 (by decide) ?_
  refine lv_iadd hx hb d_L_law_1184 ?_
  refine va_sld hx hb hX hbl hbA hw.2.2.2.1 hv1 d_L_law_1185 ?_
  refine lv_aload_n hx hb d_L_law_1186 rfl (lv_at hl 0 rfl) ?_
  refine lv_iload hx hb d_L_law_1187 (lv_at hl 4 rfl) ?_
  refine lv_iconst (v := 2) hx hb d_L_law_1189 (by decide) ?_
  refine lv_iadd hx hb d_L_law_1190 ?_
  refine va_sld hx hb hX hbl hbA hw.2.2.2.1 hv2 d_L_law_1191 ?_
  refine lv_aload_n hx hb d_L_law_1192 rfl (lv_at hl 3 rfl) ?_
  refine ga_cWi (As := [.ref (A 0), .int (xs (i + 1).toNatClampNeg), .int (xs (i + 2).toNatClampNeg), .ref (A 7)]) C hw (c_L_about l D T z Lc hl9 hf1) gsw_L_148 rfl hl.1 ⟨Nat.le_of_ble_eq_true rfl, Nat.le_of_ble_eq_true rfl, hc1, hs1⟩ (Nat.le_of_ble_eq_true rfl) rfl d_L_law_1193 (fun H locs hw => ?_)
  refine lv_istore hx hb d_L_law_1196 hl (by decide) rfl (fun ls hl => ?_)
  have hl : lv_has ls 8 [(5, .int k), (0, .ref b), (1, .ref (A 0)), (2, .ref (A 6)), (3, .ref (A 7)), (4, .int i)] := hl
  refine lv_aload_n hx hb d_L_law_1198 rfl (lv_at hl 3 rfl) ?_
  refine lv_aload_n hx hb d_L_law_1199 rfl (lv_at hl 1 rfl) ?_
  refine lv_iload hx hb d_L_law_1200 (lv_at hl 5 rfl) ?_
  refine lv_iconst (v := 1) hx hb d_L_law_1202 (by decide) ?_
  refine lv_iadd hx hb d_L_law_1203 ?_
  refine va_sld hx hb hX hbl hbA hw.2.2.2.1 hv1 d_L_law_1204 ?_
  refine lv_aload_n hx hb d_L_law_1205 rfl (lv_at hl 1 rfl) ?_
  refine lv_iload hx hb d_L_law_1206 (lv_at hl 5 rfl) ?_
  refine lv_iconst (v := 2) hx hb d_L_law_1208 (by decide) ?_
  refine lv_iadd hx hb d_L_law_1209 ?_
  refine va_sld hx hb hX hbl hbA hw.2.2.2.1 hv2 d_L_law_1210 ?_
  refine ga_cVi (As := [.int (xs (i + 1).toNatClampNeg), .int (xs (i + 2).toNatClampNeg)]) C hw (c_M_about l D T z Lc hf2) gy_L_150 (ev_m hL) rfl hl.1 ⟨Nat.le_of_ble_eq_true rfl, Nat.le_of_ble_eq_true rfl, rfl, rfl, hc1, hs1⟩ (Nat.le_of_ble_eq_true rfl) rfl d_L_law_1211 (fun H locs hw => ?_)
  refine lv_istore hx hb d_L_law_1214 hl (by decide) rfl (fun ls hl => ?_)
  have hl : lv_has ls 8 [(6, .int r), (5, .int k), (0, .ref b), (1, .ref (A 0)), (2, .ref (A 6)), (3, .ref (A 7)), (4, .int i)] := hl
  refine lv_aload_n hx hb d_L_law_1216 rfl (lv_at hl 4 rfl) ?_
  refine ga_cVi (As := []) C hw (c_M_thrown l D T z Lc hth) gy_L_90 (ev_m hL) rfl hl.1 ⟨Nat.le_of_ble_eq_true rfl, Nat.le_of_ble_eq_true rfl, rfl, rfl, hc1, hs1⟩ (Nat.le_of_ble_eq_true rfl) rfl d_L_law_1217 (fun H locs hw => ?_)
  refine lv_iload hx hb d_L_law_1220 (lv_at hl 1 rfl) ?_
  refine lv_icmp_eq (tgt := 1227) hx hb d_L_law_1222 (by decide) (fun _ => ?_) (fun hn => absurd rfl hn)
  refine lv_iload hx hb d_L_law_1227 (lv_at hl 1 rfl) ?_
  by_cases h0 : k = 0
  · refine lv_if_ne (tgt := 1244) hx hb d_L_law_1229 (by decide) (fun hn => absurd h0 hn) (fun _ => ?_)
    have heq := heq h0
    refine lv_aload_n hx hb d_L_law_1232 rfl (lv_at hl 5 rfl) ?_
    refine lv_iconst (v := 0) hx hb d_L_law_1233 (by decide) ?_
    refine ga_lald C hw (ev_7 hL) (by rw [ev_7n hL]; decide) d_L_law_1234 ?_
    refine lv_iload hx hb d_L_law_1235 (lv_at hl 0 rfl) ?_
    refine lv_i2l hx hb d_L_law_1237 rfl ?_
    refine W.lcmp hx hb d_L_law_1238 ?_
    refine lv_if_eq (tgt := 1244) hx hb d_L_law_1239 (by decide) (fun _ => ?_) (fun hn => absurd (lw_cmp heq) hn)
    refine lv_goto (tgt := 1371) hx hb d_L_law_1244 (by decide) ?_
    exact hk (_, _, _, _) A ex _ _ _ _ _ ⟨rfl, rfl, rfl, hL, hr2, hw, lv_sub hl [2, 3, 4, 5, 6] rfl⟩ (Nat.add_le_add_left (Nat.le_of_ble_eq_true rfl) cells) (Nat.add_le_add_left (Nat.le_of_ble_eq_true rfl) slots)
  · refine lv_if_ne (tgt := 1244) hx hb d_L_law_1229 (by decide) (fun _ => ?_) (fun hp => absurd hp h0)
    refine lv_goto (tgt := 1371) hx hb d_L_law_1244 (by decide) ?_
    exact hk (_, _, _, _) A ex _ _ _ _ _ ⟨rfl, rfl, rfl, hL, hr2, hw, lv_sub hl [2, 3, 4, 5, 6] rfl⟩ (Nat.add_le_add_left (Nat.le_of_ble_eq_true rfl) cells) (Nat.add_le_add_left (Nat.le_of_ble_eq_true rfl) slots)
set_option maxHeartbeats 4000000 in
set_option maxRecDepth 100000 in
theorem lw_18 (hC : lwC p l s m c args z b L xs) (hS : lwS D T z s H locs b h g o i bb ls u A ex) (hv : lwV i L) (hc : cells + 36 ≤ room_1.cells) (hs : slots + 4184 ≤ room_1.slots) (hb1 : bb + 1000 < 2 ^ 20) (hk : lwK p l e s m args below meth c D T z b h g o i bb cells slots Q) : W p l e room_1 s m args below meth c H locs cells slots Q (F0 m 1247 ls []) := by
  obtain ⟨C, hl9, hN, hX, hbl, hbA⟩ := hC
  obtain ⟨hv1, hv2, hv3, hv4, hv5⟩ := hv
  obtain ⟨Lc, S, I, J⟩ := u
  obtain ⟨rfl, rfl, rfl, hL, hr, hw, hl⟩ := hS
  have hL : Lay S A ex := hL
  have hr : Rel (cI A I) (cJ A J) ex bb := hr
  have hw : ga_W D T z Lc S I J s H locs := hw
  have hx := C.1
  have hb := C.2.1
  obtain ⟨k, J1, r, I2, hf1, hf2, hth, heq, hr2⟩ := op_mark hL hr (xs (i + 1).toNatClampNeg) (xs (i + 2).toNatClampNeg)
  have hr2 := hr2.mono (show bb ≤ bb + 1000 by omega)
  have hth : f_M_thrown S I2 J1 (A 6) = some k := by rw [f_M_thrown, gd_in (ev_m hL), hth]
  have hc1 : cells + rm_L_mark.cells ≤ room_1.cells := Nat.le_trans (Nat.add_le_add_left (Nat.le_of_ble_eq_true rfl) cells) hc
  have hs1 : slots + rm_L_mark.slots ≤ room_1.slots := Nat.le_trans (Nat.add_le_add_left (Nat.le_of_ble_eq_true rfl) slots) hs
  refine lv_aload_n hx hb d_L_law_1247 rfl (lv_at hl 1 rfl) ?_
  refine lv_aload_n hx hb d_L_law_1248 rfl (lv_at hl 0 rfl) ?_
  refine lv_iload hx hb d_L_law_1249 (lv_at hl 4 rfl) ?_
  refine lv_iconst (v := 1) hx hb d_L_law_1251 (by decide) ?_
  refine lv_iadd hx hb d_L_law_1252 ?_
  refine va_sld hx hb hX hbl hbA hw.2.2.2.1 hv1 d_L_law_1253 ?_
  refine lv_aload_n hx hb d_L_law_1254 rfl (lv_at hl 0 rfl) ?_
  refine lv_iload hx hb d_L_law_1255 (lv_at hl 4 rfl) ?_
  refine lv_iconst (v := 2) hx hb d_L_law_1257 (by decide) ?_
  refine lv_iadd hx hb d_L_law_1258 ?_
  refine va_sld hx hb hX hbl hbA hw.2.2.2.1 hv2 d_L_law_1259 ?_
  refine lv_aload_n hx hb d_L_law_1260 rfl (lv_at hl 3 rfl) ?_
  refine ga_cWi (As := [.ref (A 0), .int (xs (i + 1).toNatClampNeg), .int (xs (i + 2).toNatClampNeg), .ref (A 7)]) C hw (c_L_mark l D T z Lc hl9 hf1) gsw_L_151 rfl hl.1 ⟨Nat.le_of_ble_eq_true rfl, Nat.le_of_ble_eq_true rfl, hc1, hs1⟩ (Nat.le_of_ble_eq_true rfl) rfl d_L_law_1261 (fun H locs hw => ?_)
  refine lv_istore hx hb d_L_law_1264 hl (by decide) rfl (fun ls hl => ?_)
  have hl : lv_has ls 8 [(5, .int k), (0, .ref b), (1, .ref (A 0)), (2, .ref (A 6)), (3, .ref (A 7)), (4, .int i)] := hl
  refine lv_aload_n hx hb d_L_law_1266 rfl (lv_at hl 3 rfl) ?_
  refine lv_aload_n hx hb d_L_law_1267 rfl (lv_at hl 1 rfl) ?_
  refine lv_iload hx hb d_L_law_1268 (lv_at hl 5 rfl) ?_
  refine lv_iconst (v := 1) hx hb d_L_law_1270 (by decide) ?_
  refine lv_iadd hx hb d_L_law_1271 ?_
  refine va_sld hx hb hX hbl hbA hw.2.2.2.1 hv1 d_L_law_1272 ?_
  refine lv_aload_n hx hb d_L_law_1273 rfl (lv_at hl 1 rfl) ?_
  refine lv_iload hx hb d_L_law_1274 (lv_at hl 5 rfl) ?_
  refine lv_iconst (v := 2) hx hb d_L_law_1276 (by decide) ?_
  refine lv_iadd hx hb d_L_law_1277 ?_
  refine va_sld hx hb hX hbl hbA hw.2.2.2.1 hv2 d_L_law_1278 ?_
  refine ga_cVi (As := [.int (xs (i + 1).toNatClampNeg), .int (xs (i + 2).toNatClampNeg)]) C hw (c_M_mark l D T z Lc hf2) gy_L_153 (ev_m hL) rfl hl.1 ⟨Nat.le_of_ble_eq_true rfl, Nat.le_of_ble_eq_true rfl, rfl, rfl, hc1, hs1⟩ (Nat.le_of_ble_eq_true rfl) rfl d_L_law_1279 (fun H locs hw => ?_)
  refine lv_istore hx hb d_L_law_1282 hl (by decide) rfl (fun ls hl => ?_)
  have hl : lv_has ls 8 [(6, .int r), (5, .int k), (0, .ref b), (1, .ref (A 0)), (2, .ref (A 6)), (3, .ref (A 7)), (4, .int i)] := hl
  refine lv_aload_n hx hb d_L_law_1284 rfl (lv_at hl 4 rfl) ?_
  refine ga_cVi (As := []) C hw (c_M_thrown l D T z Lc hth) gy_L_90 (ev_m hL) rfl hl.1 ⟨Nat.le_of_ble_eq_true rfl, Nat.le_of_ble_eq_true rfl, rfl, rfl, hc1, hs1⟩ (Nat.le_of_ble_eq_true rfl) rfl d_L_law_1285 (fun H locs hw => ?_)
  refine lv_iload hx hb d_L_law_1288 (lv_at hl 1 rfl) ?_
  refine lv_icmp_eq (tgt := 1295) hx hb d_L_law_1290 (by decide) (fun _ => ?_) (fun hn => absurd rfl hn)
  refine lv_iload hx hb d_L_law_1295 (lv_at hl 1 rfl) ?_
  by_cases h0 : k = 0
  · refine lv_if_ne (tgt := 1312) hx hb d_L_law_1297 (by decide) (fun hn => absurd h0 hn) (fun _ => ?_)
    have heq := heq h0
    refine lv_aload_n hx hb d_L_law_1300 rfl (lv_at hl 5 rfl) ?_
    refine lv_iconst (v := 0) hx hb d_L_law_1301 (by decide) ?_
    refine ga_lald C hw (ev_7 hL) (by rw [ev_7n hL]; decide) d_L_law_1302 ?_
    refine lv_iload hx hb d_L_law_1303 (lv_at hl 0 rfl) ?_
    refine lv_i2l hx hb d_L_law_1305 rfl ?_
    refine W.lcmp hx hb d_L_law_1306 ?_
    refine lv_if_eq (tgt := 1312) hx hb d_L_law_1307 (by decide) (fun _ => ?_) (fun hn => absurd (lw_cmp heq) hn)
    refine lv_goto (tgt := 1371) hx hb d_L_law_1312 (by decide) ?_
    exact hk (_, _, _, _) A ex _ _ _ _ _ ⟨rfl, rfl, rfl, hL, hr2, hw, lv_sub hl [2, 3, 4, 5, 6] rfl⟩ (Nat.add_le_add_left (Nat.le_of_ble_eq_true rfl) cells) (Nat.add_le_add_left (Nat.le_of_ble_eq_true rfl) slots)
  · refine lv_if_ne (tgt := 1312) hx hb d_L_law_1297 (by decide) (fun _ => ?_) (fun hp => absurd hp h0)
    refine lv_goto (tgt := 1371) hx hb d_L_law_1312 (by decide) ?_
    exact hk (_, _, _, _) A ex _ _ _ _ _ ⟨rfl, rfl, rfl, hL, hr2, hw, lv_sub hl [2, 3, 4, 5, 6] rfl⟩ (Nat.add_le_add_left (Nat.le_of_ble_eq_true rfl) cells) (Nat.add_le_add_left (Nat.le_of_ble_eq_true rfl) slots)
set_option maxHeartbeats 4000000 in
set_option maxRecDepth 100000 in
theorem lw_19 (hC : lwC p l s m c args z b L xs) (hS : lwS D T z s H locs b h g o i bb ls u A ex) (hv : lwV i L) (hc : cells + 36 ≤ room_1.cells) (hs : slots + 4184 ≤ room_1.slots) (hb1 : bb + 1000 < 2 ^ 20) (hk : lwK p l e s m args below meth c D T z b h g o i bb cells slots Q) : W p l e room_1 s m args below meth c H locs cells slots Q (F0 m 1315 ls []) := by
  obtain ⟨C, hl9, hN, hX, hbl, hbA⟩ := hC
  obtain ⟨hv1, hv2, hv3, hv4, hv5⟩ := hv
  obtain ⟨Lc, S, I, J⟩ := u
  obtain ⟨rfl, rfl, rfl, hL, hr, hw, hl⟩ := hS
  have hL : Lay S A ex := hL
  have hr : Rel (cI A I) (cJ A J) ex bb := hr
  have hw : ga_W D T z Lc S I J s H locs := hw
  have hx := C.1
  have hb := C.2.1
  obtain ⟨k, I1, J1, r, I2, J2, hf1, hf2, hth, heq, hr2⟩ := op_forget hL hr (xs (i + 1).toNatClampNeg)
  have hr2 := hr2.mono (show bb ≤ bb + 1000 by omega)
  have hth : f_M_thrown S I2 J2 (A 6) = some k := by rw [f_M_thrown, gd_in (ev_m hL), hth]
  have hc1 : cells + rm_L_forget.cells ≤ room_1.cells := Nat.le_trans (Nat.add_le_add_left (Nat.le_of_ble_eq_true rfl) cells) hc
  have hs1 : slots + rm_L_forget.slots ≤ room_1.slots := Nat.le_trans (Nat.add_le_add_left (Nat.le_of_ble_eq_true rfl) slots) hs
  refine lv_aload_n hx hb d_L_law_1315 rfl (lv_at hl 1 rfl) ?_
  refine lv_aload_n hx hb d_L_law_1316 rfl (lv_at hl 0 rfl) ?_
  refine lv_iload hx hb d_L_law_1317 (lv_at hl 4 rfl) ?_
  refine lv_iconst (v := 1) hx hb d_L_law_1319 (by decide) ?_
  refine lv_iadd hx hb d_L_law_1320 ?_
  refine va_sld hx hb hX hbl hbA hw.2.2.2.1 hv1 d_L_law_1321 ?_
  refine lv_aload_n hx hb d_L_law_1322 rfl (lv_at hl 3 rfl) ?_
  refine ga_cWi (As := [.ref (A 0), .int (xs (i + 1).toNatClampNeg), .ref (A 7)]) C hw (c_L_forget l D T z Lc hl9 hf1) gsw_L_154 rfl hl.1 ⟨Nat.le_of_ble_eq_true rfl, Nat.le_of_ble_eq_true rfl, hc1, hs1⟩ (Nat.le_of_ble_eq_true rfl) rfl d_L_law_1323 (fun H locs hw => ?_)
  refine lv_istore hx hb d_L_law_1326 hl (by decide) rfl (fun ls hl => ?_)
  have hl : lv_has ls 8 [(5, .int k), (0, .ref b), (1, .ref (A 0)), (2, .ref (A 6)), (3, .ref (A 7)), (4, .int i)] := hl
  refine lv_aload_n hx hb d_L_law_1328 rfl (lv_at hl 3 rfl) ?_
  refine lv_aload_n hx hb d_L_law_1329 rfl (lv_at hl 1 rfl) ?_
  refine lv_iload hx hb d_L_law_1330 (lv_at hl 5 rfl) ?_
  refine lv_iconst (v := 1) hx hb d_L_law_1332 (by decide) ?_
  refine lv_iadd hx hb d_L_law_1333 ?_
  refine va_sld hx hb hX hbl hbA hw.2.2.2.1 hv1 d_L_law_1334 ?_
  refine ga_cVi (As := [.int (xs (i + 1).toNatClampNeg)]) C hw (c_M_forget l D T z Lc hf2) gy_L_156 (ev_m hL) rfl hl.1 ⟨Nat.le_of_ble_eq_true rfl, Nat.le_of_ble_eq_true rfl, rfl, rfl, hc1, hs1⟩ (Nat.le_of_ble_eq_true rfl) rfl d_L_law_1335 (fun H locs hw => ?_)
  refine lv_istore hx hb d_L_law_1338 hl (by decide) rfl (fun ls hl => ?_)
  have hl : lv_has ls 8 [(6, .int r), (5, .int k), (0, .ref b), (1, .ref (A 0)), (2, .ref (A 6)), (3, .ref (A 7)), (4, .int i)] := hl
  refine lv_aload_n hx hb d_L_law_1340 rfl (lv_at hl 4 rfl) ?_
  refine ga_cVi (As := []) C hw (c_M_thrown l D T z Lc hth) gy_L_90 (ev_m hL) rfl hl.1 ⟨Nat.le_of_ble_eq_true rfl, Nat.le_of_ble_eq_true rfl, rfl, rfl, hc1, hs1⟩ (Nat.le_of_ble_eq_true rfl) rfl d_L_law_1341 (fun H locs hw => ?_)
  refine lv_iload hx hb d_L_law_1344 (lv_at hl 1 rfl) ?_
  refine lv_icmp_eq (tgt := 1351) hx hb d_L_law_1346 (by decide) (fun _ => ?_) (fun hn => absurd rfl hn)
  refine lv_iload hx hb d_L_law_1351 (lv_at hl 1 rfl) ?_
  by_cases h0 : k = 0
  · refine lv_if_ne (tgt := 1368) hx hb d_L_law_1353 (by decide) (fun hn => absurd h0 hn) (fun _ => ?_)
    have heq := heq h0
    refine lv_aload_n hx hb d_L_law_1356 rfl (lv_at hl 5 rfl) ?_
    refine lv_iconst (v := 0) hx hb d_L_law_1357 (by decide) ?_
    refine ga_lald C hw (ev_7 hL) (by rw [ev_7n hL]; decide) d_L_law_1358 ?_
    refine lv_iload hx hb d_L_law_1359 (lv_at hl 0 rfl) ?_
    refine lv_i2l hx hb d_L_law_1361 rfl ?_
    refine W.lcmp hx hb d_L_law_1362 ?_
    refine lv_if_eq (tgt := 1368) hx hb d_L_law_1363 (by decide) (fun _ => ?_) (fun hn => absurd (lw_cmp heq) hn)
    refine lv_goto (tgt := 1371) hx hb d_L_law_1368 (by decide) ?_
    exact hk (_, _, _, _) A ex _ _ _ _ _ ⟨rfl, rfl, rfl, hL, hr2, hw, lv_sub hl [2, 3, 4, 5, 6] rfl⟩ (Nat.add_le_add_left (Nat.le_of_ble_eq_true rfl) cells) (Nat.add_le_add_left (Nat.le_of_ble_eq_true rfl) slots)
  · refine lv_if_ne (tgt := 1368) hx hb d_L_law_1353 (by decide) (fun _ => ?_) (fun hp => absurd hp h0)
    refine lv_goto (tgt := 1371) hx hb d_L_law_1368 (by decide) ?_
    exact hk (_, _, _, _) A ex _ _ _ _ _ ⟨rfl, rfl, rfl, hL, hr2, hw, lv_sub hl [2, 3, 4, 5, 6] rfl⟩ (Nat.add_le_add_left (Nat.le_of_ble_eq_true rfl) cells) (Nat.add_le_add_left (Nat.le_of_ble_eq_true rfl) slots)
end LAWK
