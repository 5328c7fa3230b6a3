-- ask, as the law sees it
section ASKD
variable {S : gS} {A : Nat → Nat} {ex ex2 : Nat → Bool} {b b' q : Nat} {nu : Nat → Nat} {I Ic Ir : gMI} {J Jc Jr : gMJ}
theorem seq_of2 {α β : Type} {F : α → gMI → gMJ → Prop} {G : gMI → gMJ → β → gMI → gMJ → Prop} {P : α → β → Prop} (hL : Lay S A ex2) (hF : ∀ x I1 J1 x' I2 J2, F x I1 J1 → F x' I2 J2 → x = x' ∧ I1 = I2 ∧ J1 = J2) (hr : Rel (cI A I) (cJ A J) ex b)
    (hj : ∀ Ir Jr, Rel (mI A I Ir) (mJ A J Jr) ex b → ∃ x Ic' Jc' y Ir' Jr', F x Ic' Jc' ∧ G Ir Jr y Ir' Jr' ∧ P x y ∧ Ir' (A 6) 0 = 0 ∧ Rel (mI A Ic' Ir') (mJ A Jc' Jr') ex2 b' ∧ FrC A I Ic' ∧ FrC A J Jc' ∧ FrR A Ir Ir' ∧ FrR A Jr Jr') (w : α → Int64) :
    ∃ x Ic' Jc' y I2 J2, F x Ic' Jc' ∧ G Ic' (upJ Jc' (A 7) 0 (w x)) y I2 J2 ∧ P x y ∧ I2 (A 6) 0 = 0 ∧ J2 (A 7) 0 = w x ∧ Rel (cI A I2) (cJ A J2) ex2 b' := by
  obtain ⟨x, Ic', Jc', -, -, -, f1, -, -, -, -, f2, f3, -, -⟩ := hj I J (by rw [mI_self, mJ_self]; exact hr)
  have e1 : mI A I Ic' = cI A I := by
    funext d k
    by_cases e : d = 6 ∨ (226 ≤ d ∧ d < 263)
    · rw [mI_r e]; exact f2 d k (by omega)
    · rw [mI_c e]; rfl
  have e2 : mJ A J (upJ Jc' (A 7) 0 (w x)) = cJ A J := by
    funext d k
    by_cases e : d = 6 ∨ (226 ≤ d ∧ d < 263)
    · rw [mJ_r e, ev_uJ hL (by omega)]; exact f3 d k (by omega)
    · rw [mJ_c e]; rfl
  obtain ⟨x', Ic2, Jc2, y, I2, J2, g1, g2, g3, g4, g5, -, -, g8, g9⟩ := hj Ic' (upJ Jc' (A 7) 0 (w x)) (by rw [e1, e2]; exact hr)
  obtain ⟨rfl, rfl, rfl⟩ := hF _ _ _ _ _ _ f1 g1
  refine ⟨x, Ic', Jc', y, I2, J2, f1, g2, g3, g4, ?_, ?_⟩
  · rw [g9 7 0 (by omega), ev_uK]
  · obtain ⟨sz, c, pi, am, fz, cm, gc, nu, N, h⟩ := g5.ghosts
    refine (h.buf (fun d k _ _ => ?_) (fun d k d1 d2 => ?_)).rel
    · by_cases e : d = 6 ∨ (226 ≤ d ∧ d < 263)
      · rw [mI_r e]; rfl
      · rw [mI_c e]; exact g8 d k e
    · by_cases e : d = 6 ∨ (226 ≤ d ∧ d < 263)
      · rw [mJ_r e]; rfl
      · rw [mJ_c e]
        show J2 (A d) k = _
        rw [g9 d k e, ev_uJ hL (by omega)]
theorem b55_to (hL : Lay S A ex) (hnu : ∀ p, p < 8 → nu p < 2 ^ 20 ∧ I (A 231) p = nI (nu p)) (d k a bb l5 : Int32) : f_M_ask_b55 S I J l5 (A 6) d k a bb = f_M_ask_b64 S (0 + 1) I J (A 6) d k a bb l5 (pick nu 8 (-1)) (-1) := by
  rw [f_M_ask_b55, ← b64_loop hL hnu d k a bb l5 8 gFuel (-1) (Nat.le_refl 8) (by unfold gFuel; omega)]
  rfl
theorem b135_thr (hL : Lay S A ex) {e : Int32} (he : ¬ e ≤ 0) (d k a bb l6 : Int32) : f_M_ask_b135 S I J e (A 6) (A 6) d k a bb l6 = some (0, upI I (A 6) 0 e, J) := by
  rw [f_M_ask_b135, gd_m hL, bnd_in, gd_m hL, ev_uE, if_neg he]
/-- the place is there: all the rest -/
theorem ask_succ {ex1 : Nat → Bool} {S1 : gS} {A1 : Nat → Nat} {I1 : gMI} {J1 : gMJ} (hL : Lay S1 A1 ex1) (hb : b + 1 < 2 ^ 20) (hq : q < 8) (he : ex1 q = true) (hex : ∀ p, p ≠ q → ex1 p = ex p) (hr : Rel (cI A1 I1) (cJ A1 J1) ex b) (hnu : ∀ p, p < 8 → (ex p = true → I1 (A1 (300 + 40 * p)) 6 = nI (nu p) ∧ nu p < 2 ^ 20) ∧ (ex p = false → nu p = 0)) (hn : nu q = 0) (hlt : ∀ p, p < q → 0 < nu p) {dr : Nat} (hd8 : dr < 8) (hup : I1 (A1 (8 + dr)) 1 = 1) {k a : Int32} (hk : k = 0 ∨ k = 1 ∨ k = 2 ∨ k = 3 ∨ k = 4) (bb : Int32) (hM : ∀ I' J' p0 d bb, f_M_ask S1 I' J' p0 d k a bb = f_M_ask_b55 S1 I' J' 1 p0 d k a bb) :
    ∃ x I' J' y I2 J2, f_ask2 S1 I1 J1 (A1 0) (nI dr) k a bb (A1 (300 + 40 * q)) = some (x, I', J') ∧ f_M_ask S1 I' (upJ J' (A1 7) 0 x.toInt64) (A1 6) (nI dr) k a bb = some (y, I2, J2) ∧ I2 (A1 6) 0 = 0 ∧ J2 (A1 7) 0 = y.toInt64 ∧ Rel (cI A1 I2) (cJ A1 J2) ex1 (b + 1) := by
  obtain ⟨x, I', J', y, I2, J2, g1, g2, g3, g4, g5, g6⟩ := seq_of2 (ex2 := ex1) (b' := b + 1) (F := fun x I' J' => f_ask2 S1 I1 J1 (A1 0) (nI dr) k a bb (A1 (300 + 40 * q)) = some (x, I', J')) (G := fun Ir Jr y Ir' Jr' => f_M_ask S1 Ir Jr (A1 6) (nI dr) k a bb = some (y, Ir', Jr')) (P := fun x y => x = y) hL (fun x I1 J1 x' I2 J2 a1 a2 => by
      rw [a1] at a2
      simp only [Option.some.injEq, Prod.mk.injEq] at a2
      exact a2) hr (fun Ir Jr h' => by
    obtain ⟨sz, c, pi, am, fz, cm, gc, nu', N, h'⟩ := h'.ghosts
    obtain ⟨a1, a2, a3, a4, a5, a6⟩ := h'.2.2.2.1
    have en : ∀ p, p < 8 → nu' p = nu p := fun p hp => by
      cases e : ex p with
      | false => rw [(a6 p hp).2 e, (hnu p hp).2 e]
      | true =>
        have h1 := ((a6 p hp).1 e).1.1
        rw [mI_c (by omega), (a4 p hp).1, ((hnu p hp).1 e).1] at h1
        have l1 := (a4 p hp).2
        have l2 := ((hnu p hp).1 e).2
        exact ((ev_L3 (by omega) (by omega)).mp h1).symm
    have hn' : nu' q = 0 := by rw [en q hq]; exact hn
    have hu := (h'.2.1 dr hd8).1
    unfold RUp at hu
    simp (disch := omega) only [mI_c, mI_r, mJ_c, mJ_r] at hu
    have hdn : Ir (A1 227) dr = 0 := by
      rcases hu with ⟨_, u2⟩ | ⟨u1, _⟩
      · exact u2
      · rw [hup] at u1; exact absurd u1 (by decide)
    have hnm : ∀ p, p < 8 → nu' p < 2 ^ 20 ∧ Ir (A1 231) p = nI (nu' p) := fun p hp => ⟨by have := (a4 p hp).2; omega, h'.num hp⟩
    have hpk : pick nu' 8 (-1) = nI q := by
      rcases pick_spec (nu := nu') 8 (-1) with ⟨q', h1, h2, h3, h4⟩ | ⟨h1, -⟩
      · rw [h4]
        have : q' = q := by
          by_cases e1 : q' < q
          · have := hlt q' e1
            rw [← en q' h1] at this
            omega
          · by_cases e2 : q < q'
            · have := h3 q e2
              omega
            · omega
        rw [this]
      · have := h1 q hq
        omega
    obtain ⟨x, Ic', Jc', Ir', Jr', s1, s2, s3, s4, s5, s6, s7, s8⟩ := ask_core hL hb hq he hex hn' hd8 hk a bb h'
    refine ⟨x, Ic', Jc', x, Ir', Jr', s1, ?_, rfl, s8, s3, s4, s5, s6, s7⟩
    rw [hM, b55_to hL hnm, hpk, f_M_ask_b64, if_pos (by decide), ob_h (M_isLogger_in hd8), if_neg (by decide), if_neg (by decide), gd_m hL, ew_mr hL (by omega), gd_in (ev_mz hL (by omega)), gd_in (by rw [ev_n8 hL (by omega)]; exact nI_in (by omega) (by omega)), nI_clamp (by omega), if_pos hdn, if_neg (q_m1 hq)]
    exact s2) (fun x => x.toInt64)
  subst g3
  exact ⟨x, I', J', x, I2, J2, g1, g2, g4, g5, g6⟩
theorem op_ask {L : List Nat} (hL : Lay S A ex) (hr : Rel (cI A I) (cJ A J) ex b) (hb : b + 1 < 2 ^ 20) (hm : ∀ a, S.1 a ≠ 0 → a ∈ L) (d k a bb : Int32) : ∃ e PP, e < 4 ∧ askOK (L, S, I, J) (A 0) d k a bb e PP ∧ (∀ x w, PP x w → w.2.1.1 (A 7) = 23 ∧ 0 < w.2.1.2.1 (A 7)) ∧ ∀ r v, PL (L, S, I, J) (A 7) e PP r v → ∃ A' ex' y I2 J2, A' 0 = A 0 ∧ A' 6 = A 6 ∧ A' 7 = A 7 ∧ Lay v.2.1 A' ex' ∧ f_M_ask v.2.1 v.2.2.1 v.2.2.2 (A 6) d k a bb = some (y, I2, J2) ∧ I2 (A 6) 0 = r ∧ (r = 0 → J2 (A 7) 0 = y.toInt64) ∧ Rel (cI A' I2) (cJ A' J2) ex' (b + 1) := by
  have hr0 := hr
  rw [← mI_self, ← mJ_self] at hr0
  obtain ⟨sz, c, pi, am, fz, cm, gc, nu, N, h⟩ := hr0.ghosts
  obtain ⟨a1, a2, a3, a4, a5, a6⟩ := h.2.2.2.1
  have hnm : ∀ p, p < 8 → nu p < 2 ^ 20 ∧ I (A 231) p = nI (nu p) := fun p hp => ⟨by have := (a4 p hp).2; omega, h.num hp⟩
  have hcn : ∀ p, p < 8 → ex p = true → I (A (300 + 40 * p)) 6 = nI (nu p) := fun p hp he => by
    have h1 := ((a6 p hp).1 he).1.1
    rw [mI_c (by omega), (a4 p hp).1] at h1
    exact h1
  -- what a throw comes to
  have thr : ∀ (e : Nat) (l6 : Int32), (e = 1 ∨ e = 2 ∨ e = 3) → askOK (L, S, I, J) (A 0) d k a bb e (fun _ _ => False) → f_M_ask S I J (A 6) d k a bb = f_M_ask_b135 S I J (nI e) (A 6) (A 6) d k a bb l6 → ∃ e PP, e < 4 ∧ askOK (L, S, I, J) (A 0) d k a bb e PP ∧ (∀ x w, PP x w → w.2.1.1 (A 7) = 23 ∧ 0 < w.2.1.2.1 (A 7)) ∧ ∀ r v, PL (L, S, I, J) (A 7) e PP r v → ∃ A' ex' y I2 J2, A' 0 = A 0 ∧ A' 6 = A 6 ∧ A' 7 = A 7 ∧ Lay v.2.1 A' ex' ∧ f_M_ask v.2.1 v.2.2.1 v.2.2.2 (A 6) d k a bb = some (y, I2, J2) ∧ I2 (A 6) 0 = r ∧ (r = 0 → J2 (A 7) 0 = y.toInt64) ∧ Rel (cI A' I2) (cJ A' J2) ex' (b + 1) := fun e l6 he hok hMe => by
    refine ⟨e, fun _ _ => False, by omega, hok, fun x w hf => hf.elim, fun r v hPL => ?_⟩
    rcases hPL with ⟨e0, -⟩ | ⟨hne, rfl, rfl⟩
    · omega
    · have hle : ¬ nI e ≤ 0 := fun hh => by
        have := (nI_leI (a := e) (b := 0) (by omega) (by omega)).mp hh
        omega
      refine ⟨A, ex, 0, upI I (A 6) 0 (nI e), J, rfl, rfl, rfl, hL, ?_, ev_uE, fun e0 => ?_, (hr.th hL (nI e)).mono (by omega)⟩
      · show f_M_ask S I J (A 6) d k a bb = _
        rw [hMe, b135_thr hL hle]
      · have := (ev_L3 (a := e) (b := 0) (by omega) (by omega)).mp e0
        omega
  rcases H_needLogger (S := S) (I := I) (J := J) d with ⟨dr, hd8, rfl, hl⟩ | ⟨ho, hl⟩
  · have hlo := H_loggerOf_in (I := I) (J := J) hL hd8
    have hnu := H_needUp (I := I) (J := J) hL hd8
    rcases askable k a I J S with ⟨hk, hya, hM⟩ | ⟨hna, hM⟩
    · have hu := (h.2.1 dr hd8).1
      unfold RUp at hu
      simp (disch := omega) only [mI_c, mI_r, mJ_c, mJ_r] at hu
      have hMu : ∀ x, pick nu 8 (-1) = x → f_M_ask S I J (A 6) (nI dr) k a bb = if I (A 227) dr = 0 then (if x = -1 then f_M_ask_b130 S I J (A 6) (A 6) (nI dr) k a bb x else f_M_ask_b135 S I J 0 (A 6) (A 6) (nI dr) k a bb x) else f_M_ask_b130 S I J (A 6) (A 6) (nI dr) k a bb x := fun x hx => by
        rw [hM, b55_to hL hnm, hx, f_M_ask_b64, if_pos (by decide), ob_h (M_isLogger_in hd8), if_neg (by decide), if_neg (by decide), gd_m hL, ew_mr hL (by omega), gd_in (ev_mz hL (by omega)), gd_in (by rw [ev_n8 hL (by omega)]; exact nI_in (by omega) (by omega)), nI_clamp (by omega)]
      rcases hu with ⟨u1, u2⟩ | ⟨u1, u2⟩
      · rw [u1, if_neg (by decide)] at hnu
        have hqa : ∀ p, p < 8 → 0 < nu p → ex p = true := fun p hp hpos => by
          cases e : ex p with
          | true => rfl
          | false => have := (a6 p hp).2 e; omega
        have hthere : ∀ p, p < 8 → 0 < nu p → ∃ b0, (gAt (L, S, I, J) (A 2)).2.2.1 p = some b0 ∧ (gAt (L, S, I, J) b0).1 = 4 ∧ ¬ (gAt (L, S, I, J) b0).2.2.2.1 6 ≤ 0 := fun p hp hpos => by
          have he := hqa p hp hpos
          refine ⟨A (300 + 40 * p), (hL.qy hp he).1, (hL.qy hp he).2.1.1, fun hh => ?_⟩
          have hh : I (A (300 + 40 * p)) 6 ≤ 0 := hh
          rw [hcn p hp he] at hh
          have l1 := (hnm p hp).1
          have := (nI_leI (a := nu p) (b := 0) (by omega) (by omega)).mp hh
          omega
        rcases pick_spec (nu := nu) 8 (-1) with ⟨q, hq, hn, hlt, hpk⟩ | ⟨hall, hpk⟩
        · cases he : ex q with
          | true =>
            have hsucc := ask_succ (ex := ex) (ex1 := ex) (nu := nu) hL hb hq he (fun _ _ => rfl) hr (fun p hp => ⟨fun e => ⟨hcn p hp e, (hnm p hp).1⟩, fun e => (a6 p hp).2 e⟩) hn hlt hd8 u1 hk bb hM
            obtain ⟨x, I', J', y, I2, J2, g1, g2, g3, g4, g5⟩ := hsucc
            refine ⟨0, fun x w => ∃ I' J', f_ask2 S I J (A 0) (nI dr) k a bb (A (300 + 40 * q)) = some (x, I', J') ∧ w = (L, S, I', J'), by omega, Or.inr ⟨A (8 + dr), hlo, Or.inr ⟨hya, Or.inr ⟨hnu, fun r v => r = some (A (300 + 40 * q)) ∧ v = (L, S, I, J), ⟨A 2, q, ev_0 hL, ev_01 hL, ev_2 hL, ev_2n hL, fun j hj => hthere j (by omega) (hlt j hj), Or.inl ⟨hq, rfl, A (300 + 40 * q), (hL.qy hq he).1, (hL.qy hq he).2.1.1, ?_, rfl, rfl⟩⟩, fun r v hP => ?_⟩⟩⟩, fun x w hw => ?_, fun r v hPL => ?_⟩
            · show I (A (300 + 40 * q)) 6 = 0
              rw [hcn q hq he, hn]; rfl
            · obtain ⟨rfl, rfl⟩ := hP
              exact ⟨_, x, I', J', rfl, g1, I', J', g1, rfl⟩
            · obtain ⟨I', J', -, rfl⟩ := hw
              exact ⟨ev_7 hL, by show 0 < S.2.1 (A 7); rw [ev_7n hL]; decide⟩
            · rcases hPL with ⟨-, rfl, x', w, ⟨I'', J'', g1', rfl⟩, rfl⟩ | ⟨hne, -⟩
              · rw [g1] at g1'
                simp only [Option.some.injEq, Prod.mk.injEq] at g1'
                obtain ⟨rfl, rfl, rfl⟩ := g1'
                exact ⟨A, ex, y, I2, J2, rfl, rfl, rfl, hL, g2, g3, fun _ => g4, g5⟩
              · exact absurd rfl hne
          | false =>
            have core : ∀ b0 v, P_free (L, S, I, J) (A 2) q b0 v → ∃ A', A' 0 = A 0 ∧ A' 6 = A 6 ∧ A' 7 = A 7 ∧ Lay v.2.1 A' (fun p => if p = q then true else ex p) ∧ ∃ x I' J' y I2 J2, f_ask2 v.2.1 v.2.2.1 v.2.2.2 (A 0) (nI dr) k a bb b0 = some (x, I', J') ∧ f_M_ask v.2.1 I' (upJ J' (A 7) 0 x.toInt64) (A 6) (nI dr) k a bb = some (y, I2, J2) ∧ I2 (A 6) 0 = 0 ∧ J2 (A 7) 0 = y.toInt64 ∧ Rel (cI A' I2) (cJ A' J2) (fun p => if p = q then true else ex p) (b + 1) := fun b0 v hP => by
              obtain ⟨A', f1, f2, f3, f4⟩ := fresh (u := (L, S, I, J)) hL hq he hm hP
              have u0 : ∀ c, c < 263 ∧ c ≠ 226 ∧ c ≠ 230 ∧ c ≠ 258 → A' c = A c := fun c hc => f1 c (Or.inl hc)
              have nq : ∀ c, usd ex c → ¬ (300 + 40 * q ≤ c ∧ c < 340 + 40 * q) := fun c hc hh => by
                rcases hc with hc | ⟨p, hp, he', h1, h2⟩
                · omega
                · have : p = q := by omega
                  rw [this, he] at he'
                  cases he'
              have hr1 : Rel (cI A' v.2.2.1) (cJ A' v.2.2.2) ex b := hr.used (fun c k hc => by
                  show v.2.2.1 (A' c) k = I (A c) k
                  rw [(f4 c (nq c hc)).1, f1 c hc]) (fun c k hc => by
                  show v.2.2.2 (A' c) k = J (A c) k
                  rw [(f4 c (nq c hc)).2, f1 c hc])
              have hup : v.2.2.1 (A' (8 + dr)) 1 = 1 := by
                rw [(f4 (8 + dr) (by omega)).1, u0 (8 + dr) (by omega)]
                exact u1
              have hs := ask_succ (ex := ex) (nu := nu) f3 hb hq (by rw [if_pos rfl]) (fun p hp => by rw [if_neg hp]) hr1 (fun p hp => ⟨fun e => ⟨by
                have hne : p ≠ q := fun e2 => by rw [e2, he] at e; cases e
                rw [(f4 (300 + 40 * p) (by omega)).1, f1 _ (Or.inr ⟨p, hp, e, by omega, by omega⟩)]
                exact hcn p hp e, (hnm p hp).1⟩, fun e => (a6 p hp).2 e⟩) hn hlt hd8 hup hk bb (by
                rcases askable k a I J v.2.1 with ⟨-, -, hM'⟩ | ⟨hna', -⟩
                · exact hM'
                · have hi : ∀ S' : gS, f_H_isAskable S' I J k a = f_H_isAskable S I J k a := fun S' => rfl
                  rw [hi, hya] at hna'
                  exact absurd (Option.some.inj hna') (by decide))
              rw [u0 0 (by omega), u0 6 (by omega), u0 7 (by omega), f2] at hs
              exact ⟨A', u0 0 (by omega), u0 6 (by omega), u0 7 (by omega), f3, hs⟩
            refine ⟨0, fun x w => ∃ b0 v I' J', P_free (L, S, I, J) (A 2) q b0 v ∧ f_ask2 v.2.1 v.2.2.1 v.2.2.2 (A 0) (nI dr) k a bb b0 = some (x, I', J') ∧ w = (v.1, v.2.1, I', J'), by omega, Or.inr ⟨A (8 + dr), hlo, Or.inr ⟨hya, Or.inr ⟨hnu, fun r v => ∃ b0, r = some b0 ∧ P_free (L, S, I, J) (A 2) q b0 v, ⟨A 2, q, ev_0 hL, ev_01 hL, ev_2 hL, ev_2n hL, fun j hj => hthere j (by omega) (hlt j hj), Or.inr (Or.inl ⟨hq, rfl, hL.qn hq he, fun b0 v hP => ⟨b0, rfl, hP⟩⟩)⟩, fun r v hP => ?_⟩⟩⟩, fun x w hw => ?_, fun r v hPL => ?_⟩
            · obtain ⟨b0, rfl, hP⟩ := hP
              obtain ⟨A', -, -, -, -, x, I', J', y, I2, J2, g1, -⟩ := core b0 v hP
              exact ⟨b0, x, I', J', rfl, g1, b0, v, I', J', hP, g1, rfl⟩
            · obtain ⟨b0, v, I', J', hP, -, rfl⟩ := hw
              obtain ⟨A', -, -, e7, hL', -⟩ := core b0 v hP
              rw [← e7]
              exact ⟨ev_7 hL', by show 0 < v.2.1.2.1 (A' 7); rw [ev_7n hL']; decide⟩
            · rcases hPL with ⟨-, rfl, x', w, ⟨b0, v0, I'', J'', hP, g1', rfl⟩, rfl⟩ | ⟨hne, -⟩
              · obtain ⟨A', e0, e6, e7, hL', x, I', J', y, I2, J2, g1, g2, g3, g4, g5⟩ := core b0 v0 hP
                rw [g1] at g1'
                simp only [Option.some.injEq, Prod.mk.injEq] at g1'
                obtain ⟨rfl, rfl, rfl⟩ := g1'
                exact ⟨A', _, y, I2, J2, e0, e6, e7, hL', g2, g3, fun _ => g4, g5⟩
              · exact absurd rfl hne
        · refine thr 3 (-1) (by omega) (Or.inr ⟨A (8 + dr), hlo, Or.inr ⟨hya, Or.inr ⟨hnu, fun _ _ => False, ⟨A 2, 8, ev_0 hL, ev_01 hL, ev_2 hL, ev_2n hL, fun j hj => hthere j hj (hall j hj), Or.inr (Or.inr ⟨rfl, rfl⟩)⟩, fun r v hf => hf.elim⟩⟩⟩) ?_
          rw [hMu _ hpk, if_pos u2, if_pos rfl, f_M_ask_b130]
          rfl
      · rw [u1, if_pos rfl] at hnu
        have hd0 : ¬ I (A 227) dr = 0 := by rw [u2]; decide
        refine thr 3 (pick nu 8 (-1)) (by omega) (Or.inr ⟨A (8 + dr), hlo, Or.inr ⟨hya, Or.inl ⟨3, by decide, hnu, rfl⟩⟩⟩) ?_
        rw [hMu _ rfl, if_neg hd0, f_M_ask_b130]
        rfl
    · refine thr 2 (pick nu 8 (-1)) (by omega) (Or.inr ⟨A (8 + dr), hlo, Or.inl ⟨hna, rfl⟩⟩) ?_
      rw [hM, b55_to hL hnm, f_M_ask_b64, if_pos (by decide), ob_h (M_isLogger_in hd8), if_neg (by decide), if_pos rfl]
      rfl
  · have hMl : f_M_isLogger S I J d = some 0 := M_isLogger_out ho
    refine thr 1 (pick nu 8 (-1)) (by omega) (Or.inl ⟨1, by decide, H_loggerOf_out hl, rfl⟩) ?_
    have hany : ∃ l5, f_M_ask S I J (A 6) d k a bb = f_M_ask_b55 S I J l5 (A 6) d k a bb := by
      rcases askable k a I J S with ⟨-, -, hM⟩ | ⟨-, hM⟩
      · exact ⟨1, hM _ _ _ _ _⟩
      · exact ⟨0, hM _ _ _ _ _⟩
    obtain ⟨l5, hM⟩ := hany
    rw [hM, b55_to hL hnm, f_M_ask_b64, if_pos (by decide), ob_h hMl, if_pos rfl]
    rfl
end ASKD
