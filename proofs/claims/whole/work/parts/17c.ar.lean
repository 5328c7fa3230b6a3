-- A letter arrives: class and reference alike
section ARR
variable {S : gS} {A : Nat → Nat} {ex : Nat → Bool} {b c N q f t u ka al : Nat} {sz pi am nu : Nat → Nat} {fz : Nat → Nat → Option Nat} {cm : Nat → Nat → Bool} {gc : Nat → Nat → Nat} {Ic Ir : gMI} {Jc Jr : gMJ}
theorem R4.up (h : R4 (mI A Ic Ir) (mJ A Jc Jr) ex b sz c pi am fz cm gc nu N) : R4 (mI A Ic Ir) (mJ A Jc Jr) ex (b + 1) sz c pi am fz cm gc nu N := by
  obtain ⟨h0, h1, h2, h3, h4⟩ := h
  refine ⟨by omega, h1, h2, h3, h4.1, fun q hq hn => ?_⟩
  obtain ⟨v1, tq, sq, w1, w2, w3⟩ := h4.2 q hq hn
  exact ⟨v1, tq, sq, by omega, by omega, w3⟩
/-- an answer that is awaited -/
theorem arr_hear (hL : Lay S A ex) (hb : b + 1 < 2 ^ 30) (h : R4 (mI A Ic Ir) (mJ A Jc Jr) ex b sz c pi am fz cm gc nu N) {kd nm tn st to : Int32} (hH : HND A (pi 96) Ic Jc Ir Jr kd nm tn st (nI f) to al) (hf : f < 8) (hq : q < 8) (he : ex q = true) (hn : 0 < nu q) (hs : Ir (A 238) q = 0) (hcf : cm q f = false) (hkd : kd = Ir (A 242) q + 1) (hva : VAn (mI A Ic Ir) q f (fz q) (Ir (A 262) 0) (Ir (A 262) 1) (nI al)) :
    ∃ Ic1 Jc1 Ic' Jc' Ir' Jr', f_Replies_hear S Ic Jc (A (300 + 40 * q + 3)) (A (32 + pi 96)) = some (Ic1, Jc1) ∧ (if Ic1 (A (300 + 40 * q + 3)) 4 = 8 then bd2 (f_Question_goOn S Ic1 Jc1 (A (300 + 40 * q))) fun I26 J27 => bd2 (f_H_askUnlessDone S I26 J27 (A 0) (A (300 + 40 * q))) fun I29 J30 => f_H_arrive_b82 S I29 J30 else f_H_arrive_b82 S Ic1 Jc1) = some (Ic', Jc') ∧ f_M_take S Ir Jr (A 6) (nI q) (nI f) = some (Ir', Jr') ∧ Rel (mI A Ic' Ir') (mJ A Jc' Jr') ex (b + 1) ∧ FrC A Ic Ic' ∧ FrC A Jc Jc' ∧ FrR A Ir Ir' ∧ FrR A Jr Jr' ∧ Ir' (A 6) 0 = Ir (A 6) 0 := by
  obtain ⟨Ic1, Jc1, Ir1, Jr1, x1, x2, x3, x4, x5, x6, x7⟩ := hear_both hL h hH hf hq he hn hs hcf hkd hva
  obtain ⟨z, hz⟩ : ∃ z : Nat → Bool, z = fun l => if l = f then true else cm q l := ⟨_, rfl⟩
  obtain ⟨cm', hcm'⟩ : ∃ cm' : Nat → Nat → Bool, cm' = fun p => if p = q then fun l => if l = f then true else cm q l else cm p := ⟨_, rfl⟩
  rw [← hcm'] at x3
  have hcm : cm' q = z := by
    rw [hcm', hz]
    exact if_pos rfl
  have hc : ∀ l, l < 8 → Ir1 (A 253) (8 * q + l) = if z l then 1 else 0 := fun l hl => by
    have := (x3.came hq he hl).2
    rw [hcm] at this
    exact this
  have hh : Ic1 (A (300 + 40 * q + 3)) 4 = nI (cmN z 8) := by
    have := ((x3.2.2.2.1.2.2.2.2.2 q hq).1 he).2.2.1.2.1
    rw [mI_c (by omega), hcm] at this
    exact this
  have frc : FrC A Ic Ic1 := fun d k hd => x4 _ _ (by omega)
  have frj : FrC A Jc Jc1 := fun d k hd => x5 _ _ (by omega)
  have frr : FrR A Ir Ir1 := fun d k hd => x6 _ _ (by omega)
  have frk : FrR A Jr Jr1 := fun d k hd => x7 _ _ (by omega)
  by_cases hall : ∀ l, l < 8 → z l = true
  · rw [cmN_full 8 hall] at hh
    have hs1 : Ir1 (A 238) q = 0 := by rw [x6 _ _ (by omega)]; exact hs
    obtain ⟨Ic2, Jc2, Ic', Jc', Ir', Jr', c', am', cm2, g1, g2, g3, g4, g5, g6, g7, g8, g9⟩ := go_both hL hb hq he hn x3 hs1 (fun l hl => by rw [hcm]; exact hall l hl)
    have tk := tk_all (J := Jr1) hL hq (fun l hl => by rw [hc l hl, hall l hl]; rfl) 8 0 gFuel (by omega) (by unfold gFuel; omega) _ g3
    refine ⟨Ic1, Jc1, Ic', Jc', Ir', Jr', x1, ?_, x2.trans tk, g4.rel, frc.trans g5, frj.trans g6, frr.trans g7, frk.trans g8, by rw [g9, x6 _ _ (by omega)]⟩
    rw [if_pos (show Ic1 (A (300 + 40 * q + 3)) 4 = 8 from hh), b2_h g1, b2_h g2, f_H_arrive_b82]
  · obtain ⟨l, hl, hzl⟩ : ∃ l, l < 8 ∧ z l = false := by
      by_cases e : ∃ l, l < 8 ∧ z l = false
      · exact e
      · refine absurd (fun l hl => ?_) hall
        cases e2 : z l with
        | true => rfl
        | false => exact absurd ⟨l, hl, e2⟩ e
    have hlt := cmN_less hzl 8 hl
    have tk := tk_some (J := Jr1) hL hq hc 8 0 gFuel true (by omega) (by unfold gFuel; omega) (Or.inr ⟨l, by omega, hl, hzl⟩)
    refine ⟨Ic1, Jc1, Ic1, Jc1, Ir1, Jr1, x1, ?_, x2.trans tk, x3.up.rel, frc, frj, frr, frk, x6 _ _ (by omega)⟩
    have h8 : ¬ Ic1 (A (300 + 40 * q + 3)) 4 = 8 := by
      rw [hh]
      intro e
      have h2 : cmN z 8 = 8 := (ev_K5 (a := cmN z 8) (n := 8) (by omega) (by decide)).mp e
      omega
    rw [if_neg h8, f_H_arrive_b82]
/-- an asking letter -/
theorem arr_ask (hL : Lay S A ex) (h : R4 (mI A Ic Ir) (mJ A Jc Jr) ex b sz c pi am fz cm gc nu N) (hc : c < 96) {tn st : Int32} (hH : HND A (pi 96) Ic Jc Ir Jr (nI ka) (nI (nu q)) tn st (nI f) (nI t) al) (hka : ka = 1 ∨ ka = 3 ∨ ka = 5 ∨ ka = 7 ∨ ka = 9 ∨ ka = 11) (hf : f < 8) (ht : t < 8) (hq : q < 8) (he : ex q = true) (hn : 0 < nu q)
    (hv : ∀ tq sq, tq ≤ b → sq ≤ b → Ir (A 236) q = nI tq → Ir (A 237) q = nI sq → VHd (mI A Ic Ir) q (fz q) tq sq (nI ka) tn st (nI f) (nI t) (nI al) (Ir (A 262) 0) (Ir (A 262) 1)) :
    ∃ Ic' Jc' Ir' Jr', f_H_reply S Ic Jc (A 0) (A (32 + pi 96)) (A (300 + 40 * q)) = some (Ic', Jc') ∧ f_M_bring_b295 S (if nI ka = 1 ∧ Ir (A 243) (8 * q + t) = -1 then upI Ir (A 243) (8 * q + t) (Ir (A 228) t) else Ir) Jr (A 6) (nI ka) (nI (nu q)) tn st (nI f) (nI t) (nI q) = some (Ir', Jr') ∧ Rel (mI A Ic' Ir') (mJ A Jc' Jr') ex b ∧ FrC A Ic Ic' ∧ FrC A Jc Jc' ∧ FrR A Ir Ir' ∧ FrR A Jr Jr' ∧ Ir' (A 6) 0 = Ir (A 6) 0 := by
  have p96 := (h.2.2.1.2.2.2.1 96 (by omega)).1
  have t0 := (hL.qy hq he).2.1.1
  have hH' := hH
  obtain ⟨al1, i1, ⟨i3, i4, i5, i6, i7, i8⟩, ij, r37, rb⟩ := hH'
  by_cases e : ka = 1
  · subst e
    obtain ⟨Ic1, Ir1, fz1, y1, y2, y3, y4, y5, y6⟩ := frz_both hL h hq he hn ht
    have hH1 : HND A (pi 96) Ic1 Jc Ir1 Jr (nI 1) (nI (nu q)) tn st (nI f) (nI t) al := by
      refine ⟨al1, ?_, ⟨?_, ?_, ?_, ?_, ?_, ?_⟩, ij, ?_, fun j hj => ?_⟩
      · rw [y5 _ _ (by omega) (by omega) (by omega)]; exact i1
      · rw [y5 _ _ (by omega) (by omega) (by omega)]; exact i3
      · rw [y5 _ _ (by omega) (by omega) (by omega)]; exact i4
      · rw [y5 _ _ (by omega) (by omega) (by omega)]; exact i5
      · rw [y5 _ _ (by omega) (by omega) (by omega)]; exact i6
      · rw [y5 _ _ (by omega) (by omega) (by omega)]; exact i7
      · rw [y5 _ _ (by omega) (by omega) (by omega)]; exact i8
      · rw [y6 _ _ (by omega)]; exact r37
      · rw [y6 _ _ (by omega), y5 _ _ (by omega) (by omega) (by omega)]; exact rb j hj
    obtain ⟨Ic', Jc', Ir', Jr', c', am', z1, z2, z3, z4, z5, z6, z7, z8⟩ := rep_both hL y3 hc hH1 (Or.inl rfl) hf ht hq he hn (fun tq sq w1 w2 w3 w4 => by
      rw [y6 _ _ (by omega)] at w3 w4
      rw [y6 _ _ (by omega), y6 _ _ (by omega)]
      refine (hv tq sq w1 w2 w3 w4).mono y4 ?_ ?_ ?_ ?_ (fun k => ?_)
      · rw [mI_r (by omega), mI_r (by omega), y6 _ _ (by omega)]
      · rw [mI_r (by omega), mI_r (by omega), y6 _ _ (by omega)]
      · rw [mI_r (by omega), mI_r (by omega), y6 _ _ (by omega)]
      · rw [mI_r (by omega), mI_r (by omega), y6 _ _ (by omega)]
      · rw [mI_r (by omega), mI_r (by omega), y6 _ _ (by omega)])
    refine ⟨Ic', Jc', Ir', Jr', ?_, ?_, z3.rel, fun d k hd => by rw [z4 _ _ hd, y5 _ _ (by omega) (by omega) (by omega)], z5, fun d k hd => by rw [z6 _ _ hd, y6 _ _ (by omega)], z7, by rw [z8, y6 _ _ (by omega)]⟩
    · rw [f_H_reply, gd_in (ev_lt1 hL p96), bnd_in, i3, if_pos (show nI 1 = 1 from rfl), gd_0 hL, ew_00 hL, gd_in (ev_1 hL), i8, gd_in (by rw [ev_1n hL]; exact nI_in (by omega) (by omega)), nI_clamp (by omega), ew_1r hL ht, gd_in (ev_lg hL ht), ew_lr hL ht, gd_in t0, ob_h y1]
      exact z1
    · have : (if nI 1 = 1 ∧ Ir (A 243) (8 * q + t) = -1 then upI Ir (A 243) (8 * q + t) (Ir (A 228) t) else Ir) = Ir1 := by
        rw [y2]
        by_cases e2 : Ir (A 243) (8 * q + t) = -1
        · rw [if_pos e2, if_pos ⟨rfl, e2⟩]
        · rw [if_neg e2, if_neg (fun u => e2 u.2)]
      rw [this]
      exact z2
  · have e1 : ¬ nI ka = 1 := fun u => e ((ev_K5 (a := ka) (n := 1) (by omega) (by decide)).mp u)
    obtain ⟨Ic', Jc', Ir', Jr', c', am', z1, z2, z3, z4, z5, z6, z7, z8⟩ := rep_both hL h hc hH hka hf ht hq he hn hv
    refine ⟨Ic', Jc', Ir', Jr', ?_, ?_, z3.rel, z4, z5, z6, z7, z8⟩
    · rw [f_H_reply, gd_in (ev_lt1 hL p96), bnd_in, i3, if_neg e1, i8]
      exact z1
    · rw [if_neg (fun u => e1 u.1)]
      exact z2
theorem arr_both (hL : Lay S A ex) (hb : b + 1 < 2 ^ 30) (h : R4 (mI A Ic Ir) (mJ A Jc Jr) ex b sz c pi am fz cm gc nu N) (hc : c < 96) {tn st : Int32} (hH : HND A (pi 96) Ic Jc Ir Jr (nI ka) (nI u) tn st (nI f) (nI t) al) (hka : 1 ≤ ka ∧ ka ≤ 12) (hf : f < 8) (ht : t < 8) (hu : u ≤ N)
    (hv : ∀ q, q < 8 → 0 < nu q → u = nu q → ∀ tq sq, tq ≤ b → sq ≤ b → Ir (A 236) q = nI tq → Ir (A 237) q = nI sq → VHd (mI A Ic Ir) q (fz q) tq sq (nI ka) tn st (nI f) (nI t) (nI al) (Ir (A 262) 0) (Ir (A 262) 1)) :
    ∃ Ic' Jc' Ir' Jr', f_H_arrive S Ic Jc (A 0) (A (32 + pi 96)) = some (Ic', Jc') ∧ brT S Ir Jr (A 6) (nI ka) (nI u) tn st (nI f) (nI t) = some (Ir', Jr') ∧ Rel (mI A Ic' Ir') (mJ A Jc' Jr') ex (b + 1) ∧ FrC A Ic Ic' ∧ FrC A Jc Jc' ∧ FrR A Ir Ir' ∧ FrR A Jr Jr' ∧ Ir' (A 6) 0 = Ir (A 6) 0 := by
  have p96 := (h.2.2.1.2.2.2.1 96 (by omega)).1
  have hN := h.2.2.2.1.2.2.1
  have hH' := hH
  obtain ⟨al1, i1, ⟨i3, i4, i5, i6, i7, i8⟩, ij, r37, rb⟩ := hH'
  have stay : ∀ (_ : f_H_arrive S Ic Jc (A 0) (A (32 + pi 96)) = some (Ic, Jc)) (_ : brT S Ir Jr (A 6) (nI ka) (nI u) tn st (nI f) (nI t) = some (Ir, Jr)), ∃ Ic' Jc' Ir' Jr', f_H_arrive S Ic Jc (A 0) (A (32 + pi 96)) = some (Ic', Jc') ∧ brT S Ir Jr (A 6) (nI ka) (nI u) tn st (nI f) (nI t) = some (Ir', Jr') ∧ Rel (mI A Ic' Ir') (mJ A Jc' Jr') ex (b + 1) ∧ FrC A Ic Ic' ∧ FrC A Jc Jc' ∧ FrR A Ir Ir' ∧ FrR A Jr Jr' ∧ Ir' (A 6) 0 = Ir (A 6) 0 := fun x y => ⟨Ic, Jc, Ir, Jr, x, y, h.up.rel, FrC.rfl, FrC.rfl, FrR.rfl, FrR.rfl, rfl⟩
  rcases find_both2 hL h.nums (nI u) with ⟨q, hq, hn, hvq, he, -, f2, f3⟩ | ⟨-, -, f2, f3⟩
  · have t0 := (hL.qy hq he).2.1.1
    have t3 := (hL.qy hq he).2.1.2.2.2.1
    have u0 := (hL.qy hq he).2.2.2.2.2.1.1
    have hnq := (h.2.2.2.1.2.2.2.1 q hq).2
    have euq : u = nu q := (ev_L3 (by omega) (by omega)).mp hvq
    have hup := (h.2.1 t ht).1
    unfold RUp at hup
    simp (disch := omega) only [mI_c, mI_r, mJ_c, mJ_r] at hup
    have ah : f_H_arrive S Ic Jc (A 0) (A (32 + pi 96)) = if Ic (A (8 + t)) 1 = 0 then f_H_arrive_b28 S Ic Jc else Option.bind (f_Letter_isAsking S Ic Jc (A (32 + pi 96))) fun x13 => if x13 = 0 then gd (S.1 (A (300 + 40 * q)) = 4) <| Option.bind (f_Question_awaits S Ic Jc (A (300 + 40 * q)) (A (32 + pi 96))) fun x17 => if x17 = 0 then f_H_arrive_b82 S Ic Jc else Option.bind (S.2.2 (A (300 + 40 * q)) 2) fun r20 => gd (S.1 r20 = 5) <| bd2 (f_Replies_hear S Ic Jc r20 (A (32 + pi 96))) fun I22 J23 => if (I22 r20 4) = (8 : Int32) then bd2 (f_Question_goOn S I22 J23 (A (300 + 40 * q))) fun I26 J27 => bd2 (f_H_askUnlessDone S I26 J27 (A 0) (A (300 + 40 * q))) fun I29 J30 => f_H_arrive_b82 S I29 J30 else f_H_arrive_b82 S I22 J23 else bd2 (f_H_reply S Ic Jc (A 0) (A (32 + pi 96)) (A (300 + 40 * q))) fun I32 J33 => f_H_arrive_b82 S I32 J33 := by
      rw [f_H_arrive, gd_in (ev_lt1 hL p96), gd_0 hL, i4, ob_h (f2 Jc), gm_some, ew_00 hL, gd_in (ev_1 hL), i8, gd_in (by rw [ev_1n hL]; exact nI_in (by omega) (by omega)), nI_clamp (by omega), ew_1r hL ht, gd_in (ev_lg hL ht)]
    rcases hup with ⟨up1, up2⟩ | ⟨up1, up2⟩
    · rw [up1, if_neg (by decide), ob_h (isA_c hL p96 (show ka < 13 by omega) i3)] at ah
      have hpar := par12 ka (by omega)
      have hfq := ((h.2.2.2.1.2.2.2.2.2 q hq).1 he).1
      unfold RQf at hfq
      simp (disch := omega) only [mI_c, mI_r, mJ_c, mJ_r] at hfq
      obtain ⟨-, -, -, -, f10, f11, f12, f14, -⟩ := hfq
      by_cases ev : ka % 2 = 0
      · rw [ev] at hpar ah
        rw [if_pos (show nI 0 = 0 from rfl), gd_in t0] at ah
        have haw := aw_c (J := Jc) hL hq he p96 hf i7
        have be := br_even (I := Ir) (J := Jr) (tn := tn) (st := st) hL hq hf ht (f3 Jr) up2 hpar
        obtain ⟨cm1, cm2⟩ := h.came hq he hf
        rw [f14, f10, f11, f12, i8, i5, i6, cm1] at haw
        rw [cm2] at be
        by_cases hE : Ir (A 238) q = 0 ∧ nI t = Ir (A 235) q ∧ tn = Ir (A 236) q ∧ st = Ir (A 237) q ∧ (if cm q f then (1 : Int32) else 0) = 0
        · obtain ⟨h1, h2, h3, h4, h5⟩ := hE
          have hcf : cm q f = false := by
            cases e : cm q f with
            | false => rfl
            | true => rw [e] at h5; exact absurd h5 (by decide)
          rw [if_pos ⟨h1, h2, h3, h4, h5⟩] at haw
          rw [ob_h haw, if_neg (by decide), ob_h t3, gd_in u0] at ah
          rw [if_pos ⟨h2.symm, h1, h3.symm, h4.symm, h5⟩] at be
          obtain ⟨vq, tq, sq, w1, w2, w3, w4, -⟩ := h.2.2.2.2.2 q hq hn
          rw [mI_r (by omega)] at w3 w4
          obtain ⟨tt, ss, a1, a2, a3, a4, a5, a6, a7⟩ := hv q hq hn euq tq sq w1 w2 w3 w4
          have ett : tt = tq := (ev_L3 (by omega) (by omega)).mp (by rw [← a3, h3, w3])
          have ess : ss = sq := (ev_L3 (by omega) (by omega)).mp (by rw [← a4, h4, w4])
          have hs' : mI A Ic Ir 238 q = 0 := by rw [mI_r (by omega)]; exact h1
          have ho := (vq.2.2 hs').1
          have a8 := a7 ett ess hs'
          rw [mI_r (by omega)] at a8 ho
          have hkd : nI ka = Ir (A 242) q + 1 ∧ VAn (mI A Ic Ir) q f (fz q) (Ir (A 262) 0) (Ir (A 262) 1) (nI al) := by
            rcases a8 with ⟨b1, -⟩ | ⟨b1, b2⟩
            · refine absurd b1 (fun e => ?_)
              have hodd : ∀ k, k < 13 → k % 2 = 0 → (nI k = 1 ∨ nI k = 3 ∨ nI k = 5 ∨ nI k = 7 ∨ nI k = 9 ∨ nI k = 11) → False := by
                intro k hk
                have : ∀ k : Fin 13, k.val % 2 = 0 → (nI k.val = 1 ∨ nI k.val = 3 ∨ nI k.val = 5 ∨ nI k.val = 7 ∨ nI k.val = 9 ∨ nI k.val = 11) → False := by decide
                exact this ⟨k, hk⟩
              rw [← e] at ho
              exact hodd ka (by omega) ev ho
            · exact ⟨b1, b2 f hf rfl⟩
          obtain ⟨Ic1, Jc1, Ic', Jc', Ir', Jr', g1, g2, g3, g4⟩ := arr_hear hL hb h hH hf hq he hn h1 hcf hkd.1 hkd.2
          rw [b2_h g1] at ah
          exact ⟨Ic', Jc', Ir', Jr', ah.trans g2, be.trans g3, g4⟩
        · rw [if_neg hE] at haw
          rw [ob_h haw, if_pos rfl, f_H_arrive_b82] at ah
          rw [if_neg (fun e => hE ⟨e.2.1, e.1.symm, e.2.2.1.symm, e.2.2.2.1.symm, e.2.2.2.2⟩)] at be
          exact stay ah be
      · have ev1 : ka % 2 = 1 := by omega
        rw [ev1] at hpar ah
        rw [if_neg (by decide)] at ah
        have be := br_odd (I := Ir) (J := Jr) (tn := tn) (st := st) (fr := nI f) (kd := nI ka) hL hq ht (f3 Jr) up2 (by rw [hpar]; decide)
        subst euq
        obtain ⟨Ic', Jc', Ir', Jr', g1, g2, g3, g4⟩ := arr_ask hL h hc hH (by omega) hf ht hq he hn (hv q hq hn rfl)
        rw [b2_h g1, f_H_arrive_b82] at ah
        have up : Rel (mI A Ic' Ir') (mJ A Jc' Jr') ex (b + 1) := by
          obtain ⟨sz, c, pi, am, fz, cm, gc, nu, N, hh⟩ := g3.ghosts
          exact (R4.up hh).rel
        exact ⟨Ic', Jc', Ir', Jr', ah, be.trans g2, up, g4⟩
    · rw [if_pos up1, f_H_arrive_b28] at ah
      refine stay ah ?_
      have hd0 : ¬ Ir (A 227) t = 0 := by rw [up2]; decide
      rw [brT, ob_h (f3 Jr), if_neg (q_m1 hq), ew_mr hL (by omega), gd_in (ev_mz hL (by omega)), gd_in (by rw [ev_n8 hL (by omega)]; exact nI_in (by omega) (by omega)), nI_clamp (by omega), if_neg hd0, f_M_bring_b163]
  · refine stay ?_ ?_
    · rw [f_H_arrive, gd_in (ev_lt1 hL p96), gd_0 hL, i4, ob_h (f2 Jc), gm_none, f_H_arrive_b28]
    · rw [brT, ob_h (f3 Jr), if_pos rfl, f_M_bring_b163]
end ARR
