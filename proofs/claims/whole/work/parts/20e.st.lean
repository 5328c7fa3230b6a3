-- The start: where everything lies after both have been made; class and reference stand alike
theorem f2_len (f g : Nat → Nat) : ∀ n, ((List.range n).flatMap (fun k => [f k, g k])).length = 2 * n
  | 0 => rfl
  | n + 1 => by
    rw [List.range_succ, List.flatMap_append, List.length_append, f2_len f g n]
    show 2 * n + 2 = 2 * (n + 1)
    omega
theorem f2_at (f g : Nat → Nat) : ∀ n k, k < n → ((List.range n).flatMap (fun k => [f k, g k]))[2 * k]? = some (f k) ∧ ((List.range n).flatMap (fun k => [f k, g k]))[2 * k + 1]? = some (g k)
  | 0, k, h => absurd h (Nat.not_lt_zero k)
  | n + 1, k, h => by
    rw [List.range_succ, List.flatMap_append]
    by_cases hk : k < n
    · rw [List.getElem?_append_left (by rw [f2_len]; omega), List.getElem?_append_left (by rw [f2_len]; omega)]
      exact f2_at f g n k hk
    · have e : k = n := by omega
      subst e
      rw [List.getElem?_append_right (by rw [f2_len]; omega), List.getElem?_append_right (by rw [f2_len]; omega), f2_len, show 2 * k - 2 * k = 0 by omega, show 2 * k + 1 - 2 * k = 1 by omega]
      exact ⟨rfl, rfl⟩
theorem ix_app {X Y : List Nat} {n : Nat} (hX : X.length = n) (j : Nat) : (X ++ Y)[n + j]? = Y[j]? := by
  rw [List.getElem?_append_right (by omega), hX, show n + j - n = j by omega]
theorem nd_app {X N : List Nat} (hX : X.Nodup) (hN : N.Nodup) (h : ∀ a, a ∈ N → a ∉ X) : (X ++ N).Nodup := List.nodup_append.mpr ⟨hX, hN, fun x hx y hy e => h y hy (e ▸ hx)⟩
def mIx (f : Nat) : Nat := if f < 4 then f - 1 else if f < 32 then f - 2 else f - 3
def posS (c : Nat) : Nat := if c = 0 then 0 else if c = 1 then 1 else if c < 6 then c + 24 else if c = 6 then 224 else if c = 7 then 259 else if c < 16 then 2 + 3 * (c - 8) else if c < 24 then 3 + 3 * (c - 16) else if c < 32 then 4 + 3 * (c - 24) else if c < 129 then 30 + 2 * (c - 32) else if c < 226 then 31 + 2 * (c - 129) else 225 + mIx (c - 226)
def invS (i : Nat) : Nat := if i = 0 then 0 else if i = 1 then 1 else if i < 26 then 8 + (i - 2) / 3 + 8 * ((i - 2) % 3) else if i < 30 then i - 24 else if i < 224 then (if i % 2 = 0 then 32 + (i - 30) / 2 else 129 + (i - 31) / 2) else if i = 224 then 6 else if i = 259 then 7 else if i < 228 then i + 2 else if i < 255 then i + 3 else i + 4
set_option maxRecDepth 100000 in
theorem posS_ok0 : ∀ c : Fin 263, c.val ≠ 226 → c.val ≠ 230 → c.val ≠ 258 → invS (posS c.val) = c.val ∧ posS c.val < 260 := by decide +kernel
theorem posS_ok {c : Nat} (h : c < 263 ∧ c ≠ 226 ∧ c ≠ 230 ∧ c ≠ 258) : invS (posS c) = c ∧ posS c < 260 := posS_ok0 ⟨c, h.1⟩ h.2.1 h.2.2.1 h.2.2.2
set_option maxRecDepth 100000 in
theorem mIx_ok0 : ∀ f : Fin 37, f.val ≠ 0 → f.val ≠ 4 → f.val ≠ 32 → mFl[mIx f.val]? = some f.val := by decide +kernel
theorem mIx_ok {f : Nat} (h : rA f) : mFl[mIx f]? = some f := mIx_ok0 ⟨f, h.1⟩ h.2.1 h.2.2.1 h.2.2.2
/-- the names of the cells and what they hold -/
def stN (u : gG) (A : Nat → Nat) (h g o : Nat) : Prop := ∃ la qa po sh od, ∃ Lg Sr Vl rr ww R : Nat → Nat, (∀ c d, A c = A d → c = d) ∧ (A 0 = h ∧ A 1 = la ∧ A 2 = qa ∧ A 3 = po ∧ A 4 = sh ∧ A 5 = od ∧ A 6 = g ∧ A 7 = o) ∧ (∀ l, l < 8 → A (8 + l) = Lg l ∧ A (16 + l) = Sr l ∧ A (24 + l) = Vl l) ∧ (∀ k, k < 97 → A (32 + k) = rr k ∧ A (129 + k) = ww k) ∧ (∀ f, rA f → A (226 + f) = R f) ∧
  (gAt u h = gPut (gPut (gPut (gBl 8 0) 0 la) 1 qa) 2 po ∧ gAt u la = gRow 24 8 Lg 8 ∧ gAt u qa = gBl 25 8 ∧ gAt u po = gPut (gPut (gBl 3 0) 0 sh) 1 od ∧ gAt u sh = gRow 26 97 rr 97 ∧ gAt u od = gOrd 97) ∧ (∀ l, l < 8 → gAt u (Lg l) = gPi (gPut (gBl 2 0) 0 (Sr l)) 1 1 ∧ gAt u (Sr l) = gPut (gBl 7 0) 0 (Vl l) ∧ gAt u (Vl l) = gBl 21 500) ∧ (∀ k, k < 97 → gAt u (rr k) = gPut (gBl 1 0) 0 (ww k) ∧ gAt u (ww k) = gBl 21 64) ∧ ((gAt u g).1 = 9 ∧ (∀ f, rA f → (gAt u g).2.2.1 f = some (R f)) ∧ (gAt u g).2.2.2.1 = fun _ => 0) ∧ (∀ f, rA f → gAt u (R f) = gBl (rT f) (rN f)) ∧ gAt u o = gBl 23 1
set_option maxHeartbeats 4000000 in
set_option maxRecDepth 100000 in
theorem start_nm {u0 u1 u2 u3 u4 u5 : gG} {h g o : Nat} (z1 : u0.1 = []) (n1 : u1.1 = u0.1 ++ [h]) (f1 : gAt u1 h = gBl 8 0) (P : P_H u1 h u2) (g1 : g ∉ u2.1) (g2 : u3.1 = u2.1 ++ [g]) (g3 : gAt u3 g = gBl 9 0) (g4 : ∀ a, a ≠ g → gAt u3 a = gAt u2 a) (M : MI u3 g mFl u4) (o1 : o ∉ u4.1) (o2 : u5.1 = u4.1 ++ [o]) (o3 : gAt u5 o = gBl 23 1) (o4 : ∀ a, a ≠ o → gAt u5 a = gAt u4 a) : ∃ A : Nat → Nat, stN u5 A h g o := by
  obtain ⟨la, qa, po, sh, od, Lg, Sr, Vl, rr, ww, ⟨a1, a2, a3, a4⟩, p0, p1, p2, p3, p4, p5, p6, p7⟩ := P
  obtain ⟨R, ⟨m1, m2, m3, m4⟩, q0, q1, q2, q3⟩ := M
  obtain ⟨F3, hF3⟩ : ∃ F3, F3 = (List.range 8).flatMap (fun l => [Lg l, Sr l, Vl l]) := ⟨_, rfl⟩
  obtain ⟨F2, hF2⟩ : ∃ F2, F2 = (List.range 97).flatMap (fun k => [rr k, ww k]) := ⟨_, rfl⟩
  have l3 : F3.length = 24 := by rw [hF3]; rfl
  have l2 : F2.length = 194 := by rw [hF2, f2_len]
  obtain ⟨FM, hFM⟩ : ∃ FM, FM = mFl.map R := ⟨_, rfl⟩
  have lM : FM.length = 34 := by rw [hFM]; rfl
  rw [← hF3, ← hF2] at a1 a2 a3 a4
  rw [← hFM] at m1 m2 m3 m4
  have e2 : u2.1 = h :: la :: (F3 ++ (qa :: po :: sh :: od :: F2)) := by
    rw [a1, n1, z1]
    simp only [List.append_assoc, List.cons_append, List.nil_append]
  have e5 : u5.1 = u2.1 ++ (g :: (FM ++ [o])) := by
    rw [o2, m1, g2]
    simp only [List.append_assoc, List.cons_append, List.nil_append]
  have len2 : u2.1.length = 224 := by
    rw [e2]
    simp only [List.length_cons, List.length_append, l3, l2]
  have len5 : u5.1.length = 260 := by
    rw [e5]
    simp only [List.length_cons, List.length_append, len2, lM, List.length_nil]
  have nd : u5.1.Nodup := by
    have d1 : u1.1.Nodup := by rw [n1, z1]; exact List.nodup_cons.mpr ⟨List.not_mem_nil, List.nodup_nil⟩
    have d2 : u2.1.Nodup := by rw [a1]; exact nd_app d1 a3 a2
    have one : ∀ x : Nat, [x].Nodup := fun x => List.nodup_cons.mpr ⟨List.not_mem_nil, List.nodup_nil⟩
    have d3 : u3.1.Nodup := by rw [g2]; exact nd_app d2 (one g) (fun a ha => by rw [List.mem_singleton.mp ha]; exact g1)
    have d4 : u4.1.Nodup := by rw [m1]; exact nd_app d3 m3 m2
    rw [o2]; exact nd_app d4 (one o) (fun a ha => by rw [List.mem_singleton.mp ha]; exact o1)
  obtain ⟨K, hK⟩ := bound_list u5.1
  obtain ⟨A, hA⟩ : ∃ A : Nat → Nat, ∀ c, A c = if c < 263 ∧ c ≠ 226 ∧ c ≠ 230 ∧ c ≠ 258 then u5.1.getD (posS c) 0 else K + c := ⟨_, fun _ => rfl⟩
  have hinj : ∀ c d, A c = A d → c = d := by
    intro c d e
    rw [hA, hA] at e
    by_cases c1 : c < 263 ∧ c ≠ 226 ∧ c ≠ 230 ∧ c ≠ 258
    · have k1 := posS_ok c1
      by_cases d1 : d < 263 ∧ d ≠ 226 ∧ d ≠ 230 ∧ d ≠ 258
      · have k2 := posS_ok d1
        rw [if_pos c1, if_pos d1] at e
        have := getD_inj nd (by rw [len5]; exact k1.2) (by rw [len5]; exact k2.2) e
        rw [← k1.1, ← k2.1, this]
      · rw [if_pos c1, if_neg d1] at e
        have := hK _ (getD_mem (L := u5.1) (i := posS c) (by rw [len5]; exact k1.2))
        omega
    · by_cases d1 : d < 263 ∧ d ≠ 226 ∧ d ≠ 230 ∧ d ≠ 258
      · have k2 := posS_ok d1
        rw [if_neg c1, if_pos d1] at e
        have := hK _ (getD_mem (L := u5.1) (i := posS d) (by rw [len5]; exact k2.2))
        omega
      · rw [if_neg c1, if_neg d1] at e
        omega
  have nm : ∀ {c x : Nat}, (c < 263 ∧ c ≠ 226 ∧ c ≠ 230 ∧ c ≠ 258) → u5.1[posS c]? = some x → A c = x := fun {c x} hc hx => by
    rw [hA, if_pos hc, List.getD_eq_getElem?_getD, hx]; rfl
  -- the row of cells by places
  have low : ∀ i, i < 224 → u5.1[i]? = u2.1[i]? := fun i hi => by
    rw [e5, List.getElem?_append_left (by rw [len2]; exact hi)]
  have i3 : ∀ j, j < 24 → u2.1[2 + j]? = F3[j]? := fun j hj => by
    rw [e2, show 2 + j = j + 1 + 1 by omega, List.getElem?_cons_succ, List.getElem?_cons_succ, List.getElem?_append_left (by rw [l3]; exact hj)]
  have i26 : ∀ j, u2.1[26 + j]? = (qa :: po :: sh :: od :: F2)[j]? := fun j => by
    rw [e2, show 26 + j = 24 + j + 1 + 1 by omega, List.getElem?_cons_succ, List.getElem?_cons_succ]
    exact ix_app l3 j
  have i30 : ∀ j, u2.1[30 + j]? = F2[j]? := fun j => by
    rw [show 30 + j = 26 + (4 + j) by omega, i26, show 4 + j = j + 1 + 1 + 1 + 1 by omega, List.getElem?_cons_succ, List.getElem?_cons_succ, List.getElem?_cons_succ, List.getElem?_cons_succ]
  have i224 : ∀ j, u5.1[224 + j]? = (g :: (FM ++ [o]))[j]? := fun j => by
    rw [e5]; exact ix_app len2 j
  have i225 : ∀ j, u5.1[225 + j]? = (FM ++ [o])[j]? := fun j => by
    rw [show 225 + j = 224 + (j + 1) by omega, i224, List.getElem?_cons_succ]
  have x0 : u2.1[0]? = some h := by rw [e2]; rfl
  have x1 : u2.1[1]? = some la := by rw [e2]; rfl
  have xL : ∀ l, l < 8 → u2.1[2 + 3 * l]? = some (Lg l) ∧ u2.1[3 + 3 * l]? = some (Sr l) ∧ u2.1[4 + 3 * l]? = some (Vl l) := fun l hl => by
    rw [i3 (3 * l) (by omega), show 3 + 3 * l = 2 + (3 * l + 1) by omega, show 4 + 3 * l = 2 + (3 * l + 2) by omega, i3 (3 * l + 1) (by omega), i3 (3 * l + 2) (by omega), hF3]
    have : l = 0 ∨ l = 1 ∨ l = 2 ∨ l = 3 ∨ l = 4 ∨ l = 5 ∨ l = 6 ∨ l = 7 := by omega
    rcases this with rfl | rfl | rfl | rfl | rfl | rfl | rfl | rfl <;> exact ⟨rfl, rfl, rfl⟩
  have xqa : u2.1[26]? = some qa := i26 0
  have xpo : u2.1[27]? = some po := i26 1
  have xsh : u2.1[28]? = some sh := i26 2
  have xod : u2.1[29]? = some od := i26 3
  have xk : ∀ k, k < 97 → u2.1[30 + 2 * k]? = some (rr k) ∧ u2.1[31 + 2 * k]? = some (ww k) := fun k hk => by
    rw [i30 (2 * k), show 31 + 2 * k = 30 + (2 * k + 1) by omega, i30 (2 * k + 1), hF2]
    exact f2_at rr ww 97 k hk
  have xg : u5.1[224]? = some g := i224 0
  have xo : u5.1[259]? = some o := by
    rw [show (259 : Nat) = 225 + (34 + 0) from rfl, i225, ix_app lM 0]; rfl
  have xR : ∀ f, rA f → u5.1[225 + mIx f]? = some (R f) := fun f hf => by
    have hlt : mIx f < FM.length := by
      rw [lM]
      unfold rA at hf
      unfold mIx
      split
      · omega
      · split <;> omega
    rw [i225, List.getElem?_append_left hlt, hFM, List.getElem?_map, mIx_ok hf]; rfl
  -- names
  have A0 : A 0 = h := nm (by omega) (by rw [show posS 0 = 0 from rfl, low 0 (by omega)]; exact x0)
  have A1 : A 1 = la := nm (by omega) (by rw [show posS 1 = 1 from rfl, low 1 (by omega)]; exact x1)
  have A2 : A 2 = qa := nm (by omega) (by rw [show posS 2 = 26 from rfl, low 26 (by omega)]; exact xqa)
  have A3 : A 3 = po := nm (by omega) (by rw [show posS 3 = 27 from rfl, low 27 (by omega)]; exact xpo)
  have A4 : A 4 = sh := nm (by omega) (by rw [show posS 4 = 28 from rfl, low 28 (by omega)]; exact xsh)
  have A5 : A 5 = od := nm (by omega) (by rw [show posS 5 = 29 from rfl, low 29 (by omega)]; exact xod)
  have A6 : A 6 = g := nm (by omega) (by rw [show posS 6 = 224 from rfl]; exact xg)
  have A7 : A 7 = o := nm (by omega) (by rw [show posS 7 = 259 from rfl]; exact xo)
  have A8 : ∀ l, l < 8 → A (8 + l) = Lg l := fun l hl => nm (by omega) (by
    have e : posS (8 + l) = 2 + 3 * l := by unfold posS; rw [if_neg (by omega), if_neg (by omega), if_neg (by omega), if_neg (by omega), if_neg (by omega), if_pos (by omega)]; omega
    rw [e, low _ (by omega)]; exact (xL l hl).1)
  have A16 : ∀ l, l < 8 → A (16 + l) = Sr l := fun l hl => nm (by omega) (by
    have e : posS (16 + l) = 3 + 3 * l := by unfold posS; rw [if_neg (by omega), if_neg (by omega), if_neg (by omega), if_neg (by omega), if_neg (by omega), if_neg (by omega), if_pos (by omega)]; omega
    rw [e, low _ (by omega)]; exact (xL l hl).2.1)
  have A24 : ∀ l, l < 8 → A (24 + l) = Vl l := fun l hl => nm (by omega) (by
    have e : posS (24 + l) = 4 + 3 * l := by unfold posS; rw [if_neg (by omega), if_neg (by omega), if_neg (by omega), if_neg (by omega), if_neg (by omega), if_neg (by omega), if_neg (by omega), if_pos (by omega)]; omega
    rw [e, low _ (by omega)]; exact (xL l hl).2.2)
  have A32 : ∀ k, k < 97 → A (32 + k) = rr k := fun k hk => nm (by omega) (by
    have e : posS (32 + k) = 30 + 2 * k := by unfold posS; rw [if_neg (by omega), if_neg (by omega), if_neg (by omega), if_neg (by omega), if_neg (by omega), if_neg (by omega), if_neg (by omega), if_neg (by omega), if_pos (by omega)]; omega
    rw [e, low _ (by omega)]; exact (xk k hk).1)
  have A129 : ∀ k, k < 97 → A (129 + k) = ww k := fun k hk => nm (by omega) (by
    have e : posS (129 + k) = 31 + 2 * k := by unfold posS; rw [if_neg (by omega), if_neg (by omega), if_neg (by omega), if_neg (by omega), if_neg (by omega), if_neg (by omega), if_neg (by omega), if_neg (by omega), if_neg (by omega), if_pos (by omega)]; omega
    rw [e, low _ (by omega)]; exact (xk k hk).2)
  have AR : ∀ f, rA f → A (226 + f) = R f := fun f hf => nm (by unfold rA at hf; omega) (by
    have e : posS (226 + f) = 225 + mIx f := by unfold posS; rw [if_neg (by omega), if_neg (by omega), if_neg (by omega), if_neg (by omega), if_neg (by omega), if_neg (by omega), if_neg (by omega), if_neg (by omega), if_neg (by omega), if_neg (by omega), show 226 + f - 226 = f by omega]
    rw [e]; exact xR f hf)
  -- what the cells hold
  have k5 : ∀ a, a ∈ u4.1 → gAt u5 a = gAt u4 a := fun a ha => o4 a (fun e => o1 (e ▸ ha))
  have k2 : ∀ a, a ∈ u2.1 → gAt u5 a = gAt u2 a := fun a ha => by
    have ne : a ≠ g := fun e => g1 (e ▸ ha)
    have j3 : a ∈ u3.1 := by rw [g2]; exact List.mem_append_left _ ha
    have n4 : a ∉ FM := fun hh => m2 a hh j3
    have j4 : a ∈ u4.1 := by rw [m1]; exact List.mem_append_left _ j3
    rw [k5 a j4, m4 a n4 ne, g4 a ne]
  have me : ∀ {i x : Nat}, u2.1[i]? = some x → x ∈ u2.1 := fun hx => List.mem_of_getElem? hx
  have c0 := (k2 h (me x0)).trans p0
  rw [f1] at c0
  have c1 := (k2 la (me x1)).trans p1
  have c2 := (k2 qa (me xqa)).trans p2
  have c3 := (k2 po (me xpo)).trans p3
  have c4 := (k2 sh (me xsh)).trans p4
  have c5 := (k2 od (me xod)).trans p5
  have cL : ∀ l, l < 8 → gAt u5 (Lg l) = gPi (gPut (gBl 2 0) 0 (Sr l)) 1 1 ∧ gAt u5 (Sr l) = gPut (gBl 7 0) 0 (Vl l) ∧ gAt u5 (Vl l) = gBl 21 500 := fun l hl => ⟨(k2 _ (me (xL l hl).1)).trans (p6 l hl).1, (k2 _ (me (xL l hl).2.1)).trans (p6 l hl).2.1, (k2 _ (me (xL l hl).2.2)).trans (p6 l hl).2.2⟩
  have cK : ∀ k, k < 97 → gAt u5 (rr k) = gPut (gBl 1 0) 0 (ww k) ∧ gAt u5 (ww k) = gBl 21 64 := fun k hk => ⟨(k2 _ (me (xk k hk).1)).trans (p7 k hk).1, (k2 _ (me (xk k hk).2)).trans (p7 k hk).2⟩
  have g4' : g ∈ u4.1 := by rw [m1, g2]; exact List.mem_append_left _ (List.mem_append_right _ (List.mem_singleton.mpr rfl))
  have cg := k5 g g4'
  have mem : ∀ f, rA f → f ∈ mFl := fun f hf => List.mem_of_getElem? (mIx_ok hf)
  have cR : ∀ f, rA f → gAt u5 (R f) = gBl (rT f) (rN f) := fun f hf => by
    have : R f ∈ u4.1 := by rw [m1, hFM]; exact List.mem_append_right _ (List.mem_map_of_mem (mem f hf))
    rw [k5 _ this, q3 f (mem f hf)]
  refine ⟨A, la, qa, po, sh, od, Lg, Sr, Vl, rr, ww, R, hinj, ⟨A0, A1, A2, A3, A4, A5, A6, A7⟩, fun l hl => ⟨A8 l hl, A16 l hl, A24 l hl⟩, fun k hk => ⟨A32 k hk, A129 k hk⟩, AR, ⟨c0, c1, c2, c3, c4, c5⟩, cL, cK, ⟨?_, fun f hf => ?_, ?_⟩, cR, o3⟩
  · rw [cg, q0]
  · rw [cg, q2 f (mem f hf)]
  · rw [cg, q1, g3]; rfl
set_option maxHeartbeats 4000000 in
set_option maxRecDepth 100000 in
theorem start_lay {u5 : gG} {A : Nat → Nat} {h g o : Nat} (hn : stN u5 A h g o) : Lay u5.2.1 A (fun _ => false) := by
  obtain ⟨la, qa, po, sh, od, Lg, Sr, Vl, rr, ww, R, hinj, ⟨A0, A1, A2, A3, A4, A5, A6, A7⟩, aL, aK, AR, ⟨c0, c1, c2, c3, c4, c5⟩, cL, cK, ⟨q0, q2, q1⟩, cR, o3⟩ := hn
  have A8 := fun l hl => (aL l hl).1
  have A16 := fun l hl => (aL l hl).2.1
  have A24 := fun l hl => (aL l hl).2.2
  have A32 := fun k hk => (aK k hk).1
  have A129 := fun k hk => (aK k hk).2
  have cg : gAt u5 g = gAt u5 g := rfl
  have t : ∀ {a : Nat} {x : gCell}, gAt u5 a = x → u5.2.1.1 a = x.1 ∧ u5.2.1.2.1 a = x.2.1 ∧ u5.2.1.2.2 a = x.2.2.1 ∧ u5.2.2.1 a = x.2.2.2.1 := fun hx => by rw [← hx]; exact ⟨rfl, rfl, rfl, rfl⟩
  have r1 : rA 1 := by unfold rA; omega
  have r2 : rA 2 := by unfold rA; omega
  have r5 : rA 5 := by unfold rA; omega
  refine ⟨hinj, ⟨?_, ?_, ?_, ?_⟩, ⟨?_, ?_⟩, fun l hl => ?_, ⟨?_, ?_⟩, fun q hq => ⟨fun he => Bool.noConfusion he, fun _ => ?_⟩, ⟨?_, ?_, ?_⟩, ⟨?_, ?_, ?_, ?_⟩, fun k hk => ?_, ⟨?_, fun f hf => ?_, fun f g' hf hg e => ?_⟩, ⟨?_, ?_⟩⟩
  · rw [A0, (t c0).1]; rfl
  · rw [A0, (t c0).2.2.1, A1]; rfl
  · rw [A0, (t c0).2.2.1, A2]; rfl
  · rw [A0, (t c0).2.2.1, A3]; rfl
  · rw [A1, (t c1).1]; rfl
  · rw [A1, (t c1).2.1]; rfl
  · obtain ⟨w1, w2, w3⟩ := cL l hl
    rw [A1, (t c1).2.2.1, A8 l hl, (t w1).1, (t w1).2.2.1, A16 l hl, (t w2).1, (t w2).2.2.1, A24 l hl, (t w3).1, (t w3).2.1]
    refine ⟨?_, rfl, rfl, rfl, rfl, rfl, rfl⟩
    show (if l < 8 then some (Lg l) else none) = _
    rw [if_pos hl]
  · rw [A2, (t c2).1]; rfl
  · rw [A2, (t c2).2.1]; rfl
  · rw [A2, (t c2).2.2.1]; rfl
  · rw [A3, (t c3).1]; rfl
  · rw [A3, (t c3).2.2.1, A4]; rfl
  · rw [A3, (t c3).2.2.1, A5]; rfl
  · rw [A4, (t c4).1]; rfl
  · rw [A4, (t c4).2.1]; rfl
  · rw [A5, (t c5).1]; rfl
  · rw [A5, (t c5).2.1]; rfl
  · obtain ⟨w1, w2⟩ := cK k hk
    rw [A4, (t c4).2.2.1, A32 k hk, (t w1).1, (t w1).2.2.1, A129 k hk, (t w2).1, (t w2).2.1]
    refine ⟨?_, rfl, rfl, rfl, rfl⟩
    show (if k < 97 then some (rr k) else none) = _
    rw [if_pos hk]
  · rw [A6, (t cg).1, q0]
  · dsimp only
    rw [A6, (t cg).2.2.1, q2 f hf, AR f hf, (t (cR f hf)).1, (t (cR f hf)).2.1]
    exact ⟨rfl, rfl, rfl⟩
  · have := hinj _ _ e
    omega
  · rw [A7, (t o3).1]; rfl
  · rw [A7, (t o3).2.1]; rfl
