-- Calls that concern loggers alone: size, restart, record, fill; and letters
theorem Rel.out {M : gMI} {K K' : gMJ} {ex : Nat → Bool} {b : Nat} (h : agr (fun c _ => c = 7) K K') (hr : Rel M K ex b) : Rel M K' ex b := by
  obtain ⟨sz, c, pi, am, fz, cm, gc, nu, N, hN, h1, h2, h3, h4⟩ := hr
  unfold agr at h
  refine ⟨sz, c, pi, am, fz, cm, gc, nu, N, hN, h1, ?_, ?_, h4⟩
  · unfold RPost RLet at h2 ⊢
    simp (disch := omega) only [h _ _]
    exact h2
  · unfold RQs RQ RRe RAn at h3 ⊢
    simp (disch := omega) only [h _ _]
    exact h3
theorem agr_th {M : gMI} {x : Int32} : agr pTh M (upI M 6 0 x) := fun c k h => by
  rw [upI_to, if_neg (show ¬ (c = 6 ∧ k = 0) from h)]
theorem agr_out {K : gMJ} {k0 : Nat} {x : Int64} : agr (fun c _ => c = 7) K (upJ K 7 k0 x) := fun c k h => by
  rw [upJ_to, if_neg (fun q => h q.1)]
section LG
variable {S : gS} {A : Nat → Nat} {ex : Nat → Bool} {I I' : gMI} {J : gMJ} {b : Nat}
theorem Lay.o1 (h : Lay S A ex) : S.1 (A 7) = 23 := h.2.2.2.2.2.2.2.2.2.2.1
theorem Lay.o2 (h : Lay S A ex) : ¬ ((0 : Int32) < 0 ∨ S.2.1 (A 7) ≤ (0 : Int32).toNatClampNeg) := by
  rw [h.2.2.2.2.2.2.2.2.2.2.2]; decide
theorem Rel.th (hL : Lay S A ex) (hr : Rel (cI A I) (cJ A J) ex b) (x : Int32) : Rel (cI A (upI I (A 6) 0 x)) (cJ A J) ex b := by
  rw [cI_up hL.1]
  exact hr.thr agr_th
theorem Rel.ou (hL : Lay S A ex) {M : gMI} (hr : Rel M (cJ A J) ex b) (x : Int64) : Rel M (cJ A (upJ J (A 7) 0 x)) ex b := by
  rw [cJ_up hL.1]
  exact hr.out agr_out
theorem op_size (hL : Lay S A ex) (hr : Rel (cI A I) (cJ A J) ex b) (i : Int32) : ∃ k J1 r I2, f_L_size S I J (A 0) i (A 7) = some (k, J1) ∧ f_M_size S I J1 (A 6) i = some (r, I2) ∧ I2 (A 6) 0 = k ∧ (k = 0 → J1 (A 7) 0 = r.toInt64) ∧ Rel (cI A I2) (cJ A J1) ex b := by
  have hR := hL.ref
  rcases H_needLogger (S := S) (I := I) (J := J) i with ⟨l, hl, rfl, -⟩ | ⟨ho, hn⟩
  · obtain ⟨g1, g2, g3, g4, g5, g6, g7⟩ := hL.lg hl
    have hr0 := hr
    obtain ⟨sz, c, pi, am, fz, cm, gc, nu, N, hN, h1, h2, h3, h4⟩ := hr0
    have hs1 : I (A (16 + l)) 1 = nI (sz l) := (h1 l hl).2.2.1
    have hs2 : I (A 228) l = nI (sz l) := (h1 l hl).2.2.2.1
    refine ⟨0, upJ J (A 7) 0 (nI (sz l)).toInt64, nI (sz l), upI I (A 6) 0 0, ?_, ?_, by rw [upI_at, pk_us], fun _ => by rw [upJ_at, pk_uLs], (hr.th hL 0).ou hL _⟩
    · rw [f_L_size, gd_in hL.2.1.1, f_H_size, gd_in hL.2.1.1, H_loggerOf_in hL hl, bd2_some, if_pos rfl, Option.bind_some, gd_in g2, g3, Option.bind_some, gd_in g4, hs1, bd2_some, if_pos rfl, gd_in hL.o1, gd_in hL.o2]; rfl
    · rw [f_M_size, M_isLogger_in hl, Option.bind_some, if_neg (by decide), f_M_size_b13, gd_in hR.1, bnd, gd_in hR.1, upI_at, pk_us, if_pos (by decide), hR.r 2, Option.bind_some, gd_in (hR.t 2), gd_in (by rw [hR.n 2 (t := 8)]; exact nI_in hl (by decide)), nI_clamp (by omega), f_M_size_b33, upI_ne (hL.inj (by decide)), hs2]
  · refine ⟨1, J, 0, upI I (A 6) 0 1, ?_, ?_, by rw [upI_at, pk_us], fun q => absurd q (by decide), hr.th hL 1⟩
    · rw [f_L_size, gd_in hL.2.1.1, f_H_size, gd_in hL.2.1.1, H_loggerOf_out hn, bd2_some, if_neg (by decide), bd2_some, if_neg (by decide), if_pos rfl]
    · rw [f_M_size, M_isLogger_out ho, Option.bind_some, if_pos rfl, f_M_size_b13, gd_in hR.1, bnd, gd_in hR.1, upI_at, pk_us, if_neg (by decide), f_M_size_b33]
theorem op_letters (hL : Lay S A ex) (hr : Rel (cI A I) (cJ A J) ex b) : ∃ r I2, f_H_letters S I J (A 0) = some r ∧ f_M_letters S I J (A 6) = some (r, I2) ∧ Rel (cI A I2) (cJ A J) ex b := by
  have hR := hL.ref
  have hr0 := hr
  obtain ⟨sz, c, pi, am, fz, cm, gc, nu, N, hN, h1, h2, h3, h4⟩ := hr0
  have e1 : I (A 3) 2 = nI c := h2.2.1
  have e2 : I (A 6) 32 = nI c := h2.2.2.1
  refine ⟨nI c, upI I (A 6) 0 0, ?_, ?_, hr.th hL 0⟩
  · rw [f_H_letters, gd_in hL.2.1.1, hL.2.1.2.2.2, Option.bind_some, gd_in hL.2.2.2.2.2.2.1.1, e1]
  · rw [f_M_letters, gd_in hR.1, bnd, upI_at, pk_un (by decide), e2]
end LG
