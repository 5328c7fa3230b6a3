-- The law's loop
theorem lw_sub {L t : Nat} (hL : L ≤ 3072) (ht : 6 * t ≤ L) (h : ¬ Int32.ofNat L - 6 < nI (6 * t)) : 6 * t + 6 ≤ L := by
  have h := mt Int32.lt_iff_toInt_lt.mpr h
  have e : (Int32.ofNat L - 6).toInt = (L : Int) - 6 := by
    rw [Int32.toInt_sub, show (Int32.ofNat L).toInt = (L : Int) from nI_toInt (by omega), show (6 : Int32).toInt = 6 from rfl]
    exact Int.bmod_eq_of_le (by omega) (by omega)
  rw [e, nI_toInt (by omega)] at h
  omega
theorem lw_V {L t : Nat} (hL : L ≤ 3072) (h : 6 * t + 6 ≤ L) : lwV (nI (6 * t)) L := by
  have a : ∀ j : Nat, j < 6 → vp_in (nI (6 * t) + nI j) L := fun j hj => by
    rw [nI_add]; exact nI_in (by omega) (by omega)
  exact ⟨a 1 (by omega), a 2 (by omega), a 3 (by omega), a 4 (by omega), a 5 (by omega)⟩
section LAWL
variable {p : Program} {l : Launch} {e : Env} {s : State} {m : MethodId} {args : Array Value} {below : List Frame} {meth : Method} {c : Code} {H : Heap} {locs : List Loc} {cells slots : Nat} {Q : State → Prop} {ls : Array Slot} {D : va_G} {T : Nat → ClassId} {z b L bb h g o : Nat} {xs : Nat → Int32} {i : Int32} {u : gG} {A : Nat → Nat} {ex : Nat → Bool}
set_option maxHeartbeats 4000000 in
set_option maxRecDepth 100000 in
theorem lw_one (hC : lwC p l s m c args z b L xs) (hS : lwS D T z s H locs b h g o i bb ls u A ex) (hv0 : vp_in i L) (hv : lwV i L) (hc : cells + 36 ≤ room_1.cells) (hs : slots + 4184 ≤ room_1.slots) (hb1 : bb + 1000 < 2 ^ 20) (hk : lwK p l e s m args below meth c D T z b h g o i bb cells slots Q) : W p l e room_1 s m args below meth c H locs cells slots Q (F0 m 33 ls []) := by
  have hC' := hC
  have hS' := hS
  obtain ⟨C, hl9, hN, hX, hbl, hbA⟩ := hC'
  obtain ⟨h0, h6, h7, hL, hr, hw, hl⟩ := hS'
  have hx := C.1
  have hb := C.2.1
  refine lv_aload_n hx hb d_L_law_33 rfl (lv_at hl 0 rfl) ?_
  refine lv_iload hx hb d_L_law_34 (lv_at hl 4 rfl) ?_
  refine va_sld hx hb hX hbl hbA hw.2.2.2.1 hv0 d_L_law_36 ?_
  refine lv_bipush (v := 31) hx hb d_L_law_37 (by decide) ?_
  refine lv_iand hx hb d_L_law_39 ?_
  generalize (xs i.toNatClampNeg &&& 31) = w
  by_cases q0 : w = 0
  · refine lv_tableIn (tgt := 136) hx hb d_L_law_40 (by rw [q0]; decide) (by rw [q0]; decide) (by rw [q0]; rfl) (by decide) ?_
    exact lw_0 hC hS hv hc hs hb1 hk
  by_cases q1 : w = 1
  · refine lv_tableIn (tgt := 204) hx hb d_L_law_40 (by rw [q1]; decide) (by rw [q1]; decide) (by rw [q1]; rfl) (by decide) ?_
    exact lw_1 hC hS hv hc hs hb1 hk
  by_cases q2 : w = 2
  · refine lv_tableIn (tgt := 308) hx hb d_L_law_40 (by rw [q2]; decide) (by rw [q2]; decide) (by rw [q2]; rfl) (by decide) ?_
    exact lw_2 hC hS hv hc hs hb1 hk
  by_cases q3 : w = 3
  · refine lv_tableIn (tgt := 364) hx hb d_L_law_40 (by rw [q3]; decide) (by rw [q3]; decide) (by rw [q3]; rfl) (by decide) ?_
    exact lw_3 hC hS hv hc hs hb1 hk
  by_cases q4 : w = 4
  · refine lv_tableIn (tgt := 456) hx hb d_L_law_40 (by rw [q4]; decide) (by rw [q4]; decide) (by rw [q4]; rfl) (by decide) ?_
    exact lw_4 hC hS hv hc hs hb1 hk
  by_cases q5 : w = 5
  · refine lv_tableIn (tgt := 469) hx hb d_L_law_40 (by rw [q5]; decide) (by rw [q5]; decide) (by rw [q5]; rfl) (by decide) ?_
    exact lw_5 hC hS hv hc hs hb1 hk
  by_cases q6 : w = 6
  · refine lv_tableIn (tgt := 537) hx hb d_L_law_40 (by rw [q6]; decide) (by rw [q6]; decide) (by rw [q6]; rfl) (by decide) ?_
    exact lw_6 hC hS hv hc hs hb1 hk
  by_cases q7 : w = 7
  · refine lv_tableIn (tgt := 593) hx hb d_L_law_40 (by rw [q7]; decide) (by rw [q7]; decide) (by rw [q7]; rfl) (by decide) ?_
    exact lw_7 hC hS hv hc hs hb1 hk
  by_cases q8 : w = 8
  · refine lv_tableIn (tgt := 649) hx hb d_L_law_40 (by rw [q8]; decide) (by rw [q8]; decide) (by rw [q8]; rfl) (by decide) ?_
    exact lw_8 hC hS hv hc hs hb1 hk
  by_cases q9 : w = 9
  · refine lv_tableIn (tgt := 712) hx hb d_L_law_40 (by rw [q9]; decide) (by rw [q9]; decide) (by rw [q9]; rfl) (by decide) ?_
    exact lw_9 hC hS hv hc hs hb1 hk
  by_cases q10 : w = 10
  · refine lv_tableIn (tgt := 768) hx hb d_L_law_40 (by rw [q10]; decide) (by rw [q10]; decide) (by rw [q10]; rfl) (by decide) ?_
    exact lw_10 hC hS hv hc hs hb1 hk
  by_cases q11 : w = 11
  · refine lv_tableIn (tgt := 824) hx hb d_L_law_40 (by rw [q11]; decide) (by rw [q11]; decide) (by rw [q11]; rfl) (by decide) ?_
    exact lw_11 hC hS hv hc hs hb1 hk
  by_cases q12 : w = 12
  · refine lv_tableIn (tgt := 892) hx hb d_L_law_40 (by rw [q12]; decide) (by rw [q12]; decide) (by rw [q12]; rfl) (by decide) ?_
    exact lw_12 hC hS hv hc hs hb1 hk
  by_cases q13 : w = 13
  · refine lv_tableIn (tgt := 948) hx hb d_L_law_40 (by rw [q13]; decide) (by rw [q13]; decide) (by rw [q13]; rfl) (by decide) ?_
    exact lw_13 hC hS hv hc hs hb1 hk
  by_cases q14 : w = 14
  · refine lv_tableIn (tgt := 984) hx hb d_L_law_40 (by rw [q14]; decide) (by rw [q14]; decide) (by rw [q14]; rfl) (by decide) ?_
    exact lw_14 hC hS hv hc hs hb1 hk
  by_cases q15 : w = 15
  · refine lv_tableIn (tgt := 1040) hx hb d_L_law_40 (by rw [q15]; decide) (by rw [q15]; decide) (by rw [q15]; rfl) (by decide) ?_
    exact lw_15 hC hS hv hc hs hb1 hk
  by_cases q16 : w = 16
  · refine lv_tableIn (tgt := 1095) hx hb d_L_law_40 (by rw [q16]; decide) (by rw [q16]; decide) (by rw [q16]; rfl) (by decide) ?_
    exact lw_16 hC hS hv hc hs hb1 hk
  by_cases q17 : w = 17
  · refine lv_tableIn (tgt := 1179) hx hb d_L_law_40 (by rw [q17]; decide) (by rw [q17]; decide) (by rw [q17]; rfl) (by decide) ?_
    exact lw_17 hC hS hv hc hs hb1 hk
  by_cases q18 : w = 18
  · refine lv_tableIn (tgt := 1247) hx hb d_L_law_40 (by rw [q18]; decide) (by rw [q18]; decide) (by rw [q18]; rfl) (by decide) ?_
    exact lw_18 hC hS hv hc hs hb1 hk
  by_cases q19 : w = 19
  · refine lv_tableIn (tgt := 1315) hx hb d_L_law_40 (by rw [q19]; decide) (by rw [q19]; decide) (by rw [q19]; rfl) (by decide) ?_
    exact lw_19 hC hS hv hc hs hb1 hk
  refine lv_tableOut (tgt := 1371) hx hb d_L_law_40 (ga_out0_19 q0 q1 q2 q3 q4 q5 q6 q7 q8 q9 q10 q11 q12 q13 q14 q15 q16 q17 q18 q19) (by decide) ?_
  exact hk u A ex _ _ _ _ _ ⟨h0, h6, h7, hL, hr.mono (by omega), hw, hl⟩ (by omega) (by omega)
set_option maxHeartbeats 4000000 in
set_option maxRecDepth 100000 in
theorem lw_loop (hC : lwC p l s m c args z b L xs) (hL3 : L ≤ 3072) (hend : ∀ (u : gG) (H : Heap) (locs : List Loc) (ls : Array Slot) (cells slots : Nat), gWu D T z u s H locs → cells ≤ room_1.cells → slots ≤ room_1.slots → W p l e room_1 s m args below meth c H locs cells slots Q (F0 m 1377 ls [])) : ∀ (n t : Nat) (u : gG) (A : Nat → Nat) (ex : Nat → Bool) (H : Heap) (locs : List Loc) (ls : Array Slot) (cells slots : Nat), L ≤ 6 * t + 6 * n → 6 * t ≤ L → lwS D T z s H locs b h g o (nI (6 * t)) (1000 * t) ls u A ex → cells ≤ 300 + 36 * t → slots ≤ 30000 + 4184 * t → W p l e room_1 s m args below meth c H locs cells slots Q (F0 m 23 ls []) := by
  have hC' := hC
  obtain ⟨C, hl9, hN, hX, hbl, hbA⟩ := hC'
  have hx := C.1
  have hb := C.2.1
  have r1 : room_1.cells = 601024 := rfl
  have r2 : room_1.slots = 7293034 := rfl
  intro n
  induction n with
  | zero =>
    intro t u A ex H locs ls cells slots hn ht hS hc hs
    have hS' := hS
    obtain ⟨h0, h6, h7, hL, hr, hw, hl⟩ := hS'
    refine lv_iload hx hb d_L_law_23 (lv_at hl 4 rfl) ?_
    refine lv_aload_n hx hb d_L_law_25 rfl (lv_at hl 0 rfl) ?_
    refine va_slen hx hb hX hbl hbA hw.2.2.2.1 d_L_law_26 ?_
    refine lv_bipush (v := 6) hx hb d_L_law_27 (by decide) ?_
    refine lv_isub hx hb d_L_law_29 ?_
    refine lv_icmp_gt (tgt := 1377) hx hb d_L_law_30 (by decide) (fun _ => ?_) (fun hn2 => ?_)
    · exact hend u H locs ls cells slots hw (by omega) (by omega)
    · have := lw_sub hL3 ht hn2
      omega
  | succ n ih =>
    intro t u A ex H locs ls cells slots hn ht hS hc hs
    have hS' := hS
    obtain ⟨h0, h6, h7, hL, hr, hw, hl⟩ := hS'
    refine lv_iload hx hb d_L_law_23 (lv_at hl 4 rfl) ?_
    refine lv_aload_n hx hb d_L_law_25 rfl (lv_at hl 0 rfl) ?_
    refine va_slen hx hb hX hbl hbA hw.2.2.2.1 d_L_law_26 ?_
    refine lv_bipush (v := 6) hx hb d_L_law_27 (by decide) ?_
    refine lv_isub hx hb d_L_law_29 ?_
    refine lv_icmp_gt (tgt := 1377) hx hb d_L_law_30 (by decide) (fun _ => ?_) (fun hn2 => ?_)
    · exact hend u H locs ls cells slots hw (by omega) (by omega)
    · have h66 := lw_sub hL3 ht hn2
      refine lw_one hC hS (nI_in (by omega) (by omega)) (lw_V hL3 h66) (by omega) (by omega) (by omega) ?_
      intro u A ex H locs ls cells1 slots1 hS hc1 hs1
      obtain ⟨h0, h6, h7, hL, hr, hw, hl⟩ := hS
      refine lv_iinc (k := 4) (v := nI (6 * (t + 1))) hx hb d_L_law_1371 hl rfl (nI_add (6 * t) 6) (by decide) rfl (fun ls hl => ?_)
      refine lv_goto (tgt := 23) hx hb d_L_law_1374 (by decide) ?_
      refine ih (t + 1) u A ex _ _ _ _ _ (by omega) (by omega) ⟨h0, h6, h7, hL, ?_, hw, lv_sub hl [1, 2, 3, 4, 0] rfl⟩ (by omega) (by omega)
      rw [show 1000 * (t + 1) = 1000 * t + 1000 by omega]
      exact hr
end LAWL
