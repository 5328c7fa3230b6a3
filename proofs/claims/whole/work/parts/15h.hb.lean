-- An answer heard, both sides
theorem pu_tot_one (f : Nat → Int) : ∀ n : Nat, pu_tot (fun _ => 1) f n = n
  | 0 => rfl
  | n + 1 => by
    show pu_tot (fun _ => 1) f n + 1 = _
    rw [pu_tot_one f n]; omega
theorem pu_tot_z {φ : Int → Int} (f : Nat → Int) : pu_tot φ f 0 = 0 := rfl
/-- one row more -/
theorem pu_rows_upd {φ : Int → Int} {F G : Nat → Nat → Int} {C B : Nat → Nat} {f : Nat} (hf : C f = 0) (ho : ∀ l, l < 8 → l ≠ f → B l = C l ∧ ∀ i, i < C l → G l i = F l i) : ∀ n, n ≤ 8 → pu_rows φ G B n = pu_rows φ F C n + (if f < n then pu_tot φ (G f) (B f) else 0)
  | 0, _ => by rw [if_neg (by omega)]; rfl
  | n + 1, hn => by
    show pu_rows φ G B n + pu_tot φ (G n) (B n) = pu_rows φ F C n + pu_tot φ (F n) (C n) + _
    rw [pu_rows_upd hf ho n (by omega)]
    by_cases e : n = f
    · subst e
      rw [if_neg (by omega), if_pos (by omega), hf, pu_tot_z]
    · obtain ⟨e1, e2⟩ := ho n (by omega) e
      rw [e1, pu_tot_congr (fun i hi => e2 i hi)]
      by_cases e3 : f < n
      · rw [if_pos e3, if_pos (by omega)]; omega
      · rw [if_neg e3, if_neg (by omega)]; omega
theorem cmN_upd {z : Nat → Bool} {f : Nat} (hf : z f = false) : ∀ n, cmN (fun l => if l = f then true else z l) n = cmN z n + (if f < n then 1 else 0)
  | 0 => by rw [if_neg (by omega)]; rfl
  | n + 1 => by
    show cmN _ n + (if (if n = f then true else z n) then 1 else 0) = cmN z n + (if z n then 1 else 0) + _
    rw [cmN_upd hf n]
    by_cases e : n = f
    · subst e
      rw [if_neg (by omega), if_pos (show n < n + 1 by omega), if_pos (show n = n from rfl), hf]
      simp
    · rw [if_neg e]
      by_cases e3 : f < n
      · rw [if_pos e3, if_pos (show f < n + 1 by omega)]; omega
      · rw [if_neg e3, if_neg (show ¬ f < n + 1 by omega)]; omega
theorem cmS_upd {z : Nat → Bool} {f : Nat} {K K' : Nat → Int64} (hf : z f = false) (hK : ∀ l, l ≠ f → K' l = K l) : ∀ n, cmS (fun l => if l = f then true else z l) K' n = cmS z K n + (if f < n then K' f else 0)
  | 0 => by rw [if_neg (by omega)]; rfl
  | n + 1 => by
    show cmS _ K' n + (if (if n = f then true else z n) then K' n else 0) = cmS z K n + (if z n then K n else 0) + _
    rw [cmS_upd hf hK n]
    by_cases e : n = f
    · subst e
      rw [if_neg (show ¬ n < n by omega), if_pos (show n < n + 1 by omega), if_pos (show n = n from rfl), hf]
      simp
    · rw [if_neg e, hK n e]
      by_cases e3 : f < n
      · rw [if_pos e3, if_pos (show f < n + 1 by omega), Int64.add_assoc, Int64.add_comm (K' f), ← Int64.add_assoc]
      · rw [if_neg e3, if_neg (show ¬ f < n + 1 by omega), Int64.add_zero, Int64.add_zero]
/-- room for what is given -/
theorem gv_room {M : gMI} {fz : Nat → Option Nat} {z : Nat → Bool} {C : Nat → Nat} {F : Nat → Nat → Int} {a b : Int} {f am : Nat} (hf : z f = false) (hC : ∀ l, l < 8 → z l = true → (C l : Int) = lcn M l (fz l) a b) (ha : (am : Int) = lcn M f (fz f) a b) : ∀ n, n ≤ 8 → pu_rows (fun _ => 1) F (fun l => if z l then C l else 0) n + (if f < n then (am : Int) else 0) ≤ lcs M fz a b n
  | 0, _ => by rw [if_neg (by omega)]; exact Int.le_refl 0
  | n + 1, hn => by
    show pu_rows (fun _ => 1) F (fun l => if z l then C l else 0) n + pu_tot (fun _ => 1) (F n) (if z n then C n else 0) + _ ≤ lcs M fz a b n + lcn M n (fz n) a b
    have ih := gv_room (F := F) hf hC ha n (by omega)
    have h0 := lcn_nn M n (fz n) a b
    rw [pu_tot_one]
    by_cases e : n = f
    · subst e
      rw [hf, if_neg Bool.false_ne_true, if_pos (show n < n + 1 by omega)]
      rw [if_neg (show ¬ n < n by omega)] at ih
      omega
    · have h1 : ((if z n then C n else 0 : Nat) : Int) ≤ lcn M n (fz n) a b := by
        cases ez : z n with
        | false => rw [if_neg Bool.false_ne_true]; exact h0
        | true => rw [if_pos rfl, hC n (by omega) ez]; exact Int.le_refl _
      by_cases e3 : f < n
      · rw [if_pos (show f < n + 1 by omega)]
        rw [if_pos e3] at ih
        omega
      · rw [if_neg (show ¬ f < n + 1 by omega)]
        rw [if_neg e3] at ih
        omega
section HB
variable {S : gS} {A : Nat → Nat} {ex : Nat → Bool} {b c N : Nat} {sz pi am nu : Nat → Nat} {fz : Nat → Nat → Option Nat} {cm : Nat → Nat → Bool} {gc : Nat → Nat → Nat} {Ic Ir : gMI} {Jc Jr : gMJ} {q f al : Nat}
theorem hear_both (hL : Lay S A ex) (h : R4 (mI A Ic Ir) (mJ A Jc Jr) ex b sz c pi am fz cm gc nu N) {kd nm tn st to : Int32} (hH : HND A (pi 96) Ic Jc Ir Jr kd nm tn st (nI f) to al) (hf : f < 8) (hq : q < 8) (he : ex q = true) (hn : 0 < nu q) (hs : Ir (A 238) q = 0) (hcf : cm q f = false) (hkd : kd = Ir (A 242) q + 1) (hva : VAn (mI A Ic Ir) q f (fz q) (Ir (A 262) 0) (Ir (A 262) 1) (nI al)) :
    ∃ Ic' Jc' Ir' Jr', f_Replies_hear S Ic Jc (A (300 + 40 * q + 3)) (A (32 + pi 96)) = some (Ic', Jc') ∧ f_M_take S Ir Jr (A 6) (nI q) (nI f) = f_M_take_b121 S gFuel Ir' Jr' (A 6) (nI q) 1 0 ∧ R4 (mI A Ic' Ir') (mJ A Jc' Jr') ex b sz c pi am fz (fun p => if p = q then fun l => if l = f then true else cm q l else cm p) (fun p => if p = q then fun l => if l = f then al else gc q l else gc p) nu N ∧ (∀ d k, ¬ (300 + 40 * q + 3 ≤ d ∧ d ≤ 300 + 40 * q + 17) → Ic' (A d) k = Ic (A d) k) ∧ (∀ d k, ¬ (d = 300 + 40 * q + 3 ∧ k = 3) → Jc' (A d) k = Jc (A d) k) ∧ (∀ d k, ¬ (253 ≤ d ∧ d ≤ 257) → Ir' (A d) k = Ir (A d) k) ∧ ∀ d k, d ≠ 255 → Jr' (A d) k = Jr (A d) k := by
  have hh := h
  obtain ⟨h0, hlg, h2, ⟨a1, a2, a3, a4, a5, a6⟩, h4⟩ := hh
  obtain ⟨b1, b2, b3, b4, b5, b6⟩ := (a6 q hq).1 he
  have p96 := (h2.2.2.2.1 96 (by omega)).1
  obtain ⟨al1, i1, ⟨i3, i4, i5, i6, i7, i8⟩, ij, r37, rb⟩ := hH
  obtain ⟨v1, tq, sq, w1, w2, w3, w4, w5⟩ := h4.2 q hq hn
  have hs' : mI A Ic Ir 238 q = 0 := by simp (disch := omega) only [mI_c, mI_r, mJ_c, mJ_r]; exact hs
  have v1' := v1
  obtain ⟨x1, x2, x3⟩ := v1'
  obtain ⟨y1, y2, y3, y4, y5⟩ := x3 hs'
  obtain ⟨-, -, -, -, -, -, -, -, -, -, ⟨g0, g1, g2, g3⟩⟩ := (hL.qy hq he).2
  have e42 : mI A Ic Ir 242 q = Ir (A 242) q := by simp (disch := omega) only [mI_c, mI_r, mJ_c, mJ_r]
  -- given
  have h78 : kd = 8 ↔ Ir (A 242) q = 7 := by
    rw [hkd]
    rw [e42] at y1
    rcases y1 with e | e | e | e | e | e <;> rw [e] <;> decide
  have hgv : Ic (A (32 + pi 96)) 3 = 8 → ∃ m, RowOk S Ic (A (300 + 40 * q + 8)) (A (300 + 40 * q + 9)) 64 m ∧ m + al ≤ 64 ∧ ∀ φ : Int → Int, pu_tot φ (rI Ic (A (300 + 40 * q + 9))) m = pu_rows φ (fun l i => (mI A Ic Ir 257 (64 * (8 * q + l) + i)).toInt) (fun l => if cm q l then gc q l else 0) 8 := fun e => by
    rw [i3] at e
    have e7 := h78.mp e
    obtain ⟨c1, m, c2, c3, c4, c5⟩ := b4 (e42.trans e7)
    simp (disch := omega) only [mI_c, mI_r, mJ_c, mJ_r] at c3
    have er : rI (mI A Ic Ir) (300 + 40 * q + 9) = rI Ic (A (300 + 40 * q + 9)) := by
      funext i; unfold rI; simp (disch := omega) only [mI_c, mI_r, mJ_c, mJ_r]
    rw [er] at c4 c5
    refine ⟨m, ⟨g0, g1, g2, g3, by omega, c3, c2, c4⟩, ?_, c5⟩
    have hro := gv_room (M := mI A Ic Ir) (fz := fz q) (z := cm q) (C := gc q) (F := fun l i => (mI A Ic Ir 257 (64 * (8 * q + l) + i)).toInt) (a := (mI A Ic Ir 244 q).toInt) (b := (mI A Ic Ir 245 q).toInt) (f := f) (am := al) hcf (fun l hl hz => by
        have := (y3 l hl hz).2.2 (e42.trans e7)
        rw [(c1 l hl hz).2, nI_toInt (by have := (c1 l hl hz).1; omega)] at this
        exact this) (by
        have := hva.2.2 (e42.trans e7)
        rw [nI_toInt (by omega)] at this
        exact this) 8 (Nat.le_refl 8)
    rw [if_pos hf, ← c5, pu_tot_one] at hro
    have := y4 (e42.trans e7)
    omega
  obtain ⟨m, hm⟩ : ∃ m, Ic (A (32 + pi 96)) 3 = 8 → RowOk S Ic (A (300 + 40 * q + 8)) (A (300 + 40 * q + 9)) 64 m ∧ m + al ≤ 64 ∧ ∀ φ : Int → Int, pu_tot φ (rI Ic (A (300 + 40 * q + 9))) m = pu_rows φ (fun l i => (mI A Ic Ir 257 (64 * (8 * q + l) + i)).toInt) (fun l => if cm q l then gc q l else 0) 8 := by
    by_cases e : Ic (A (32 + pi 96)) 3 = 8
    · obtain ⟨m, hm⟩ := hgv e
      exact ⟨m, fun _ => hm⟩
    · exact ⟨0, fun e2 => absurd e2 e⟩
  obtain ⟨Ic', s1, s2, s3, s4, s5, s6⟩ := hr_c (J := Jc) (m := m) hL hq he hf p96 al1 i1 i7 (fun e => ⟨(hm e).1, (hm e).2.1⟩)
  obtain ⟨Ir', t1, t2, t3, t4, t5, t6⟩ := tk_r (Jr := Jr) hL hq hf al1 r37 (fun j j1 j2 => by rw [rb j j2, if_neg (by omega)])
  obtain ⟨M', hM'⟩ : ∃ M' : gMI, M' = mI A Ic' Ir' := ⟨_, rfl⟩
  obtain ⟨K', hK'⟩ : ∃ K' : gMJ, K' = mJ A (upJ Jc (A (300 + 40 * q + 3)) 3 (Jc (A (300 + 40 * q + 3)) 3 + Jc (A (32 + pi 96)) 2)) (upJ Jr (A 255) (8 * q + f) (Jr (A 6) 38)) := ⟨_, rfl⟩
  have eM : ∀ d k, ¬ (d = 300 + 40 * q + 6 ∧ k = f) → ¬ (d = 300 + 40 * q + 3 ∧ k = 4) → d ≠ 300 + 40 * q + 10 + f → d ≠ 300 + 40 * q + 8 → d ≠ 300 + 40 * q + 9 → ¬ (d = 253 ∧ k = 8 * q + f) → ¬ (d = 254 ∧ 4 * (8 * q + f) ≤ k ∧ k < 4 * (8 * q + f) + 4) → ¬ (d = 256 ∧ k = 8 * q + f) → ¬ (d = 257 ∧ 64 * (8 * q + f) ≤ k ∧ k < 64 * (8 * q + f) + 64) → M' d k = mI A Ic Ir d k := fun d k d1 d2 d3 d4 d5 d6 d7 d8 d9 => by
    rw [hM']
    by_cases e : d = 6 ∨ (226 ≤ d ∧ d < 263)
    · rw [mI_r e, mI_r e, t6 _ _ d6 d7 d8 d9]
    · rw [mI_c e, mI_c e, s6 _ _ d1 d2 d3 d4 d5]
  have eN : ∀ d k, d < 300 + 40 * q + 3 ∨ 300 + 40 * q + 18 ≤ d ∨ d = 300 + 40 * q + 4 ∨ d = 300 + 40 * q + 5 → ¬ (253 ≤ d ∧ d ≤ 257) → M' d k = mI A Ic Ir d k := fun d k d1 d2 => eM d k (by omega) (by omega) (by omega) (by omega) (by omega) (by omega) (by omega) (by omega) (by omega)
  have eK : ∀ d k, ¬ (d = 300 + 40 * q + 3 ∧ k = 3) → ¬ (d = 255 ∧ k = 8 * q + f) → K' d k = mJ A Jc Jr d k := fun d k d1 d2 => by
    rw [hK']
    by_cases e : d = 6 ∨ (226 ≤ d ∧ d < 263)
    · rw [mJ_r e, mJ_r e, ev_uJ hL (by omega)]
    · rw [mJ_c e, mJ_c e, ev_uJ hL (by omega)]
  have e29 : ∀ k, M' 229 k = mI A Ic Ir 229 k := fun k => eN _ _ (by omega) (by omega)
  have q38 : M' 238 q = 0 := by rw [eN _ _ (by omega) (by omega)]; exact hs'
  obtain ⟨z', hz'⟩ : ∃ z' : Nat → Bool, z' = fun l => if l = f then true else cm q l := ⟨_, rfl⟩
  obtain ⟨g', hg'⟩ : ∃ g' : Nat → Nat, g' = fun l => if l = f then al else gc q l := ⟨_, rfl⟩
  have zf : z' f = true := by rw [hz']; exact if_pos rfl
  have zo : ∀ l, l ≠ f → z' l = cm q l := fun l hl => by rw [hz']; exact if_neg hl
  have gf : g' f = al := by rw [hg']; exact if_pos rfl
  have go : ∀ l, l ≠ f → g' l = gc q l := fun l hl => by rw [hg']; exact if_neg hl
  have fin := q_upd (M' := M') (K' := K') (ex' := ex) (b' := b) (N' := N) (u := nu q) (f' := fz q) (m' := z') (g' := g') h hq (fun d k hd => eM d k (by unfold inQ own at hd; omega) (by unfold inQ own at hd; omega) (by unfold inQ own at hd; omega) (by unfold inQ own at hd; omega) (by unfold inQ own at hd; omega) (by unfold inQ own at hd; omega) (by unfold inQ own at hd; omega) (by unfold inQ own at hd; omega) (by unfold inQ own at hd; omega)) (fun d k hd d1 d2 => eK d k (by unfold inQ own at hd; omega) (by unfold inQ own at hd; omega)) (fun _ _ => rfl) he (Nat.le_refl b) (Nat.le_refl N) h0 a3
    (by rw [eN _ _ (by omega) (by omega)]; exact a1) (by rw [eN _ _ (by omega) (by omega)]; exact a2) (by rw [eN _ _ (by omega) (by omega)]; exact (a4 q hq).1) (a4 q hq).2 (fun p hp hne e => by
      by_cases e0 : 0 < nu p
      · exact absurd (a5 p q hp hq e e0) hne
      · omega)
    (by
      refine ⟨?_, fun l hl => (b2 l hl).congr2 hl (fun d k hd => eN d k (by omega) (by omega)), ?_, fun e7 => ?_, fun _ => ?_, fun e => by rw [q38] at e; exact absurd e (by decide)⟩
      · unfold RQf at b1 ⊢
        simp (disch := omega) only [eN _ _]
        exact b1
      · obtain ⟨c1, c2, c3, c4⟩ := b3
        refine ⟨fun l hl => ?_, ?_, ?_, fun l hl hc k hk => ?_⟩
        · by_cases e : l = f
          · rw [e, zf, if_pos rfl, hM']
            simp (disch := omega) only [mI_c, mI_r, mJ_c, mJ_r]
            exact ⟨s2, t2⟩
          · rw [zo l e, eM _ _ (by omega) (by omega) (by omega) (by omega) (by omega) (by omega) (by omega) (by omega) (by omega), eM _ _ (by omega) (by omega) (by omega) (by omega) (by omega) (by omega) (by omega) (by omega) (by omega)]
            exact c1 l hl
        · rw [hz', cmN_upd hcf 8, if_pos hf, ← nI_add, ← c2, hM']
          simp (disch := omega) only [mI_c, mI_r, mJ_c, mJ_r]
          rw [s3]; rfl
        · rw [hz', cmS_upd (K := fun l => mJ A Jc Jr 255 (8 * q + l)) (K' := fun l => K' 255 (8 * q + l)) hcf (fun l hl => eK _ _ (by omega) (by omega)) 8, if_pos hf, ← c3, hK']
          simp (disch := omega) only [mI_c, mI_r, mJ_c, mJ_r]
          rw [ev_uK, ev_uK, ij]
        · by_cases e : l = f
          · rw [e, hM']
            simp (disch := omega) only [mI_c, mI_r, mJ_c, mJ_r]
            rw [s4 k hk, t3 k (by omega), rb k (by omega)]
          · rw [zo l e] at hc
            rw [eM _ _ (by omega) (by omega) (by omega) (by omega) (by omega) (by omega) (by omega) (by omega) (by omega), eM _ _ (by omega) (by omega) (by omega) (by omega) (by omega) (by omega) (by omega) (by omega) (by omega)]
            exact c4 l hl hc k hk
      · rw [eN _ _ (by omega) (by omega)] at e7
        obtain ⟨c1, -⟩ := b4 e7
        have e8 : Ic (A (32 + pi 96)) 3 = 8 := i3.trans (h78.mpr (e42.symm.trans e7))
        obtain ⟨z1, z2, z3⟩ := hm e8
        obtain ⟨⟨-, -, -, -, -, o6, o7, o8⟩, o9⟩ := s5 e8
        have er : rI M' (300 + 40 * q + 9) = rI Ic' (A (300 + 40 * q + 9)) := by
          funext i; unfold rI; rw [hM']; simp (disch := omega) only [mI_c, mI_r, mJ_c, mJ_r]
        refine ⟨fun l hl hc => ?_, m + al, z2, by rw [hM']; simp (disch := omega) only [mI_c, mI_r, mJ_c, mJ_r]; exact o6, by rw [er]; exact o8, fun φ => ?_⟩
        · by_cases e : l = f
          · rw [e, gf, hM']
            simp (disch := omega) only [mI_c, mI_r, mJ_c, mJ_r]
            exact ⟨al1, t4⟩
          · rw [zo l e] at hc
            rw [go l e, eM _ _ (by omega) (by omega) (by omega) (by omega) (by omega) (by omega) (by omega) (by omega) (by omega)]
            exact c1 l hl hc
        · have hu := pu_rows_upd (φ := φ) (F := fun l i => (mI A Ic Ir 257 (64 * (8 * q + l) + i)).toInt) (C := fun l => if cm q l then gc q l else 0) (G := fun l i => (M' 257 (64 * (8 * q + l) + i)).toInt) (B := fun l => if z' l then g' l else 0) (f := f) (by rw [hcf]; rfl) (fun l hl8 hl => by
            rw [zo l hl, go l hl]
            refine ⟨rfl, fun i hi => ?_⟩
            cases ez : cm q l with
            | false => rw [ez] at hi; exact absurd hi (Nat.not_lt_zero i)
            | true =>
              rw [ez, if_pos rfl] at hi
              have := (c1 l hl8 ez).1
              rw [eM _ _ (by omega) (by omega) (by omega) (by omega) (by omega) (by omega) (by omega) (by omega) (by omega)]) 8 (Nat.le_refl 8)
          rw [er, o9 φ, z3 φ, hu, if_pos hf]
          congr 1
          rw [zf, if_pos rfl, gf]
          refine pu_tot_congr fun i hi => ?_
          rw [hM']
          simp (disch := omega) only [mI_c, mI_r, mJ_c, mJ_r]
          rw [t5 i (by omega), rb i (by omega), if_pos hi]
      · have b5 := b5 hs'
        unfold RAs at b5 ⊢
        simp (disch := omega) only [eN _ _]
        exact b5)
    (fun _ => by
      refine ⟨?_, tq, sq, w1, w2, by rw [eN _ _ (by omega) (by omega)]; exact w3, by rw [eN _ _ (by omega) (by omega)]; exact w4, fun i hi hei => ?_⟩
      · unfold VQq
        rw [eN 238 _ (by omega) (by omega), eN 235 _ (by omega) (by omega), eN 242 _ (by omega) (by omega), eN 244 _ (by omega) (by omega), eN 245 _ (by omega) (by omega), eN 240 _ (by omega) (by omega), eN 232 _ (by omega) (by omega)]
        refine ⟨x1, x2, fun _ => ⟨y1, y2, fun l hl hcl => ?_, fun e7 => by rw [lcs.congr e29]; exact y4 e7, y5⟩⟩
        by_cases e : l = f
        · subst e
          have z1 : M' 254 (4 * (8 * q + l)) = Ir (A 262) 0 := by rw [hM']; simp (disch := omega) only [mI_c, mI_r, mJ_c, mJ_r]; exact t3 0 (by omega)
          have z2 : M' 254 (4 * (8 * q + l) + 1) = Ir (A 262) 1 := by rw [hM']; simp (disch := omega) only [mI_c, mI_r, mJ_c, mJ_r]; exact t3 1 (by omega)
          have z3 : M' 256 (8 * q + l) = nI al := by rw [hM']; simp (disch := omega) only [mI_c, mI_r, mJ_c, mJ_r]; exact t4
          rw [z1, z2, z3]
          exact hva.mono (fun _ => rfl) (eN _ _ (by omega) (by omega)) (eN _ _ (by omega) (by omega)) (eN _ _ (by omega) (by omega)) e29
        · rw [zo l e] at hcl
          rw [eM 254 _ (by omega) (by omega) (by omega) (by omega) (by omega) (by omega) (by omega) (by omega) (by omega), eM 254 _ (by omega) (by omega) (by omega) (by omega) (by omega) (by omega) (by omega) (by omega) (by omega), eM 256 _ (by omega) (by omega) (by omega) (by omega) (by omega) (by omega) (by omega) (by omega) (by omega)]
          exact (y3 l hl hcl).mono (fun _ => rfl) (eN _ _ (by omega) (by omega)) (eN _ _ (by omega) (by omega)) (eN _ _ (by omega) (by omega)) e29
      · rw [eN _ _ (by omega) (by omega), ← (a4 q hq).1] at hei
        have hw := (w5 i hi hei).hd.mono (M' := M') (f' := fz q) (fun _ _ => rfl) (eN _ _ (by omega) (by omega)) (eN _ _ (by omega) (by omega)) (eN _ _ (by omega) (by omega)) (eN _ _ (by omega) (by omega)) e29
        refine VHd.lq ?_
        rw [eN 259 _ (by omega) (by omega), eN 259 _ (by omega) (by omega), eN 259 _ (by omega) (by omega), eN 259 _ (by omega) (by omega), eN 259 _ (by omega) (by omega), eN 259 _ (by omega) (by omega), eN 260 _ (by omega) (by omega), eN 260 _ (by omega) (by omega)]
        exact hw)
  rw [ite_eta, ite_eta, hM', hK', hz', hg'] at fin
  exact ⟨Ic', _, Ir', _, s1, t1, fin, fun d k hd => s6 _ _ (by omega) (by omega) (by omega) (by omega) (by omega), fun d k hd => by rw [ev_uJ hL (by omega)], fun d k hd => t6 _ _ (by omega) (by omega) (by omega) (by omega), fun d k hd => by rw [ev_uJ hL (by omega)]⟩
end HB
