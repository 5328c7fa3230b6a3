-- ask: a place is made
section ASKC
variable {S S' : gS} {A A' : Nat → Nat} {ex : Nat → Bool} {b q : Nat}
theorem Lay.tag (hL : Lay S A ex) {c : Nat} (hc : usd ex c) : S.1 (A c) ≠ 0 := by
  rcases hc with ⟨h1, h2, h3, h4⟩ | ⟨p, hp, he, h1, h2⟩
  · by_cases c8 : c < 8
    · have : c = 0 ∨ c = 1 ∨ c = 2 ∨ c = 3 ∨ c = 4 ∨ c = 5 ∨ c = 6 ∨ c = 7 := by omega
      rcases this with rfl | rfl | rfl | rfl | rfl | rfl | rfl | rfl
      · rw [ev_0 hL]; decide
      · rw [ev_1 hL]; decide
      · rw [ev_2 hL]; decide
      · rw [ev_3 hL]; decide
      · rw [ev_4 hL]; decide
      · rw [ev_5 hL]; decide
      · rw [ev_m hL]; decide
      · rw [ev_7 hL]; decide
    · by_cases c32 : c < 32
      · by_cases c16 : c < 16
        · obtain ⟨l, rfl⟩ : ∃ l, c = 8 + l := ⟨c - 8, by omega⟩
          rw [(hL.lg (show l < 8 by omega)).2.1]; decide
        · by_cases c24 : c < 24
          · obtain ⟨l, rfl⟩ : ∃ l, c = 16 + l := ⟨c - 16, by omega⟩
            rw [(hL.lg (show l < 8 by omega)).2.2.2.1]; decide
          · obtain ⟨l, rfl⟩ : ∃ l, c = 24 + l := ⟨c - 24, by omega⟩
            rw [(hL.lg (show l < 8 by omega)).2.2.2.2.2.1]; decide
      · by_cases c129 : c < 129
        · obtain ⟨k, rfl⟩ : ∃ k, c = 32 + k := ⟨c - 32, by omega⟩
          rw [(hL.lt (show k < 97 by omega)).2.1]; decide
        · by_cases c226 : c < 226
          · obtain ⟨k, rfl⟩ : ∃ k, c = 129 + k := ⟨c - 129, by omega⟩
            rw [(hL.lt (show k < 97 by omega)).2.2.2.1]; decide
          · obtain ⟨f, rfl⟩ : ∃ f, c = 226 + f := ⟨c - 226, by omega⟩
            have := (hL.ref.2.1 f ⟨by omega, by omega, by omega, by omega⟩).2.1
            dsimp only at this
            rw [this]
            unfold rT
            split
            · decide
            · split <;> decide
  · obtain ⟨⟨t0, -⟩, ⟨m0, -⟩, ⟨d0, -⟩, d2, ⟨u0, -⟩, w0, ⟨v0, -⟩, ⟨c0, -⟩, ⟨o0, -⟩, o2, ⟨g0, -, g2, -⟩⟩ := (hL.qy hp he).2
    obtain ⟨j, hj, rfl⟩ : ∃ j, j < 34 ∧ c = 300 + 40 * p + j := ⟨c - (300 + 40 * p), by omega, by omega⟩
    by_cases j10 : j < 10
    · have : j = 0 ∨ j = 1 ∨ j = 2 ∨ j = 3 ∨ j = 4 ∨ j = 5 ∨ j = 6 ∨ j = 7 ∨ j = 8 ∨ j = 9 := by omega
      rcases this with rfl | rfl | rfl | rfl | rfl | rfl | rfl | rfl | rfl | rfl
      · rw [Nat.add_zero, t0]; decide
      · rw [m0]; decide
      · rw [d0]; decide
      · rw [u0]; decide
      · rw [w0]; decide
      · rw [v0]; decide
      · rw [c0]; decide
      · rw [o0]; decide
      · rw [g0]; decide
      · rw [g2]; decide
    · by_cases j18 : j < 18
      · obtain ⟨l, rfl⟩ : ∃ l, j = 10 + l := ⟨j - 10, by omega⟩
        rw [← Nat.add_assoc, (o2 l (by omega)).2.1]; decide
      · by_cases j26 : j < 26
        · obtain ⟨l, rfl⟩ : ∃ l, j = 18 + l := ⟨j - 18, by omega⟩
          rw [← Nat.add_assoc, (d2 l (by omega)).2.1]; decide
        · obtain ⟨l, rfl⟩ : ∃ l, j = 26 + l := ⟨j - 26, by omega⟩
          rw [← Nat.add_assoc, (d2 l (by omega)).2.2.2.1]; decide
theorem QL.move {p : Nat} (h : QL S A (300 + 40 * p)) (hA : ∀ j, j < 34 → A' (300 + 40 * p + j) = A (300 + 40 * p + j)) (hS : ∀ j, j < 34 → S'.1 (A (300 + 40 * p + j)) = S.1 (A (300 + 40 * p + j)) ∧ S'.2.1 (A (300 + 40 * p + j)) = S.2.1 (A (300 + 40 * p + j)) ∧ S'.2.2 (A (300 + 40 * p + j)) = S.2.2 (A (300 + 40 * p + j))) : QL S' A' (300 + 40 * p) := by
  obtain ⟨⟨t0, t1, t2, t3, t4, t5⟩, ⟨m0, m1⟩, ⟨d0, d1⟩, d2, ⟨u0, u1, u2, u3⟩, w0, ⟨v0, v1⟩, ⟨c0, c1⟩, ⟨o0, o1⟩, o2, ⟨g0, g1, g2, g3⟩⟩ := h
  have a0 := hA 0 (by omega)
  have s0 := hS 0 (by omega)
  rw [Nat.add_zero] at a0 s0
  refine ⟨⟨?_, ?_, ?_, ?_, ?_, ?_⟩, ⟨?_, ?_⟩, ⟨?_, ?_⟩, fun l hl => ?_, ⟨?_, ?_, ?_, ?_⟩, ?_, ⟨?_, ?_⟩, ⟨?_, ?_⟩, ⟨?_, ?_⟩, fun l hl => ?_, ⟨?_, ?_, ?_, ?_⟩⟩
  · rw [a0, s0.1]; exact t0
  · rw [a0, s0.2.2, hA 1 (by omega)]; exact t1
  · rw [a0, s0.2.2, hA 2 (by omega)]; exact t2
  · rw [a0, s0.2.2, hA 3 (by omega)]; exact t3
  · rw [a0, s0.2.2, hA 4 (by omega)]; exact t4
  · rw [a0, s0.2.2, hA 5 (by omega)]; exact t5
  · rw [hA 1 (by omega), (hS 1 (by omega)).1]; exact m0
  · rw [hA 1 (by omega), (hS 1 (by omega)).2.1]; exact m1
  · rw [hA 2 (by omega), (hS 2 (by omega)).1]; exact d0
  · rw [hA 2 (by omega), (hS 2 (by omega)).2.1]; exact d1
  · have A1 := hA (18 + l) (by omega)
    have A2 := hA (26 + l) (by omega)
    have S1 := hS (18 + l) (by omega)
    have S2 := hS (26 + l) (by omega)
    rw [← Nat.add_assoc] at A1 A2 S1 S2
    obtain ⟨x1, x2, x3, x4, x5⟩ := d2 l hl
    rw [hA 2 (by omega), (hS 2 (by omega)).2.2, A1, A2, S1.1, S1.2.2, S2.1, S2.2.1]
    exact ⟨x1, x2, x3, x4, x5⟩
  · rw [hA 3 (by omega), (hS 3 (by omega)).1]; exact u0
  · rw [hA 3 (by omega), (hS 3 (by omega)).2.2, hA 6 (by omega)]; exact u1
  · rw [hA 3 (by omega), (hS 3 (by omega)).2.2, hA 7 (by omega)]; exact u2
  · rw [hA 3 (by omega), (hS 3 (by omega)).2.2, hA 8 (by omega)]; exact u3
  · rw [hA 4 (by omega), (hS 4 (by omega)).1]; exact w0
  · rw [hA 5 (by omega), (hS 5 (by omega)).1]; exact v0
  · rw [hA 5 (by omega), (hS 5 (by omega)).2.1]; exact v1
  · rw [hA 6 (by omega), (hS 6 (by omega)).1]; exact c0
  · rw [hA 6 (by omega), (hS 6 (by omega)).2.1]; exact c1
  · rw [hA 7 (by omega), (hS 7 (by omega)).1]; exact o0
  · rw [hA 7 (by omega), (hS 7 (by omega)).2.1]; exact o1
  · have A1 := hA (10 + l) (by omega)
    have S1 := hS (10 + l) (by omega)
    rw [← Nat.add_assoc] at A1 S1
    obtain ⟨x1, x2, x3⟩ := o2 l hl
    rw [hA 7 (by omega), (hS 7 (by omega)).2.2, A1, S1.1, S1.2.1]
    exact ⟨x1, x2, x3⟩
  · rw [hA 8 (by omega), (hS 8 (by omega)).1]; exact g0
  · rw [hA 8 (by omega), (hS 8 (by omega)).2.2, hA 9 (by omega)]; exact g1
  · rw [hA 9 (by omega), (hS 9 (by omega)).1]; exact g2
  · rw [hA 9 (by omega), (hS 9 (by omega)).2.1]; exact g3
/-- the layout with one place more -/
theorem Lay.more (hL : Lay S A ex) (hq : q < 8) (hex : ex q = false) (hinj : ∀ c d, A' c = A' d → c = d) (hA : ∀ c, usd ex c → A' c = A c) (hS : ∀ c, usd ex c → c ≠ 2 → S'.1 (A c) = S.1 (A c) ∧ S'.2.1 (A c) = S.2.1 (A c) ∧ S'.2.2 (A c) = S.2.2 (A c)) (h2 : S'.1 (A 2) = S.1 (A 2) ∧ S'.2.1 (A 2) = S.2.1 (A 2)) (h3 : ∀ p, p < 8 → p ≠ q → S'.2.2 (A 2) p = S.2.2 (A 2) p) (h4 : S'.2.2 (A 2) q = some (A' (300 + 40 * q))) (h5 : QL S' A' (300 + 40 * q)) : Lay S' A' (fun p => if p = q then true else ex p) := by
  have a : ∀ c, c < 263 ∧ c ≠ 226 ∧ c ≠ 230 ∧ c ≠ 258 → A' c = A c := fun c hc => hA c (Or.inl hc)
  have s : ∀ c, c < 263 ∧ c ≠ 226 ∧ c ≠ 230 ∧ c ≠ 258 ∧ c ≠ 2 → S'.1 (A c) = S.1 (A c) ∧ S'.2.1 (A c) = S.2.1 (A c) ∧ S'.2.2 (A c) = S.2.2 (A c) := fun c hc => hS c (Or.inl ⟨hc.1, hc.2.1, hc.2.2.1, hc.2.2.2.1⟩) hc.2.2.2.2
  refine ⟨hinj, ⟨?_, ?_, ?_, ?_⟩, ⟨?_, ?_⟩, fun l hl => ?_, ⟨?_, ?_⟩, fun p hp => ⟨fun he => ?_, fun he => ?_⟩, ⟨?_, ?_, ?_⟩, ⟨?_, ?_, ?_, ?_⟩, fun k hk => ?_, ⟨?_, fun f hf => ?_, fun f g hf hg e => ?_⟩, ⟨?_, ?_⟩⟩
  · rw [a 0 (by omega), (s 0 (by omega)).1]; exact ev_0 hL
  · rw [a 0 (by omega), (s 0 (by omega)).2.2, a 1 (by omega)]; exact ev_00 hL
  · rw [a 0 (by omega), (s 0 (by omega)).2.2, a 2 (by omega)]; exact ev_01 hL
  · rw [a 0 (by omega), (s 0 (by omega)).2.2, a 3 (by omega)]; exact ev_02 hL
  · rw [a 1 (by omega), (s 1 (by omega)).1]; exact ev_1 hL
  · rw [a 1 (by omega), (s 1 (by omega)).2.1]; exact ev_1n hL
  · rw [a 1 (by omega), (s 1 (by omega)).2.2, a (8 + l) (by omega), (s (8 + l) (by omega)).1, (s (8 + l) (by omega)).2.2, a (16 + l) (by omega), (s (16 + l) (by omega)).1, (s (16 + l) (by omega)).2.2, a (24 + l) (by omega), (s (24 + l) (by omega)).1, (s (24 + l) (by omega)).2.1]
    exact hL.lg hl
  · rw [a 2 (by omega), h2.1]; exact ev_2 hL
  · rw [a 2 (by omega), h2.2]; exact ev_2n hL
  · by_cases e : p = q
    · subst e
      exact ⟨by rw [a 2 (by omega)]; exact h4, h5⟩
    · dsimp only at he
      rw [if_neg e] at he
      obtain ⟨x1, x2⟩ := hL.qy hp he
      have ua : ∀ j, j < 34 → usd ex (300 + 40 * p + j) := fun j hj => Or.inr ⟨p, hp, he, by omega, by omega⟩
      refine ⟨?_, x2.move (fun j hj => hA _ (ua j hj)) (fun j hj => hS _ (ua j hj) (by omega))⟩
      have := hA _ (ua 0 (by omega))
      rw [Nat.add_zero] at this
      rw [a 2 (by omega), h3 p hp e, this]
      exact x1
  · by_cases e : p = q
    · dsimp only at he
      rw [if_pos e] at he
      cases he
    · dsimp only at he
      rw [if_neg e] at he
      rw [a 2 (by omega), h3 p hp e]
      exact hL.qn hp he
  · rw [a 3 (by omega), (s 3 (by omega)).1]; exact ev_3 hL
  · rw [a 3 (by omega), (s 3 (by omega)).2.2, a 4 (by omega)]; exact ev_30 hL
  · rw [a 3 (by omega), (s 3 (by omega)).2.2, a 5 (by omega)]; exact ev_31 hL
  · rw [a 4 (by omega), (s 4 (by omega)).1]; exact ev_4 hL
  · rw [a 4 (by omega), (s 4 (by omega)).2.1]; exact ev_4n hL
  · rw [a 5 (by omega), (s 5 (by omega)).1]; exact ev_5 hL
  · rw [a 5 (by omega), (s 5 (by omega)).2.1]; exact ev_5n hL
  · rw [a 4 (by omega), (s 4 (by omega)).2.2, a (32 + k) (by omega), (s (32 + k) (by omega)).1, (s (32 + k) (by omega)).2.2, a (129 + k) (by omega), (s (129 + k) (by omega)).1, (s (129 + k) (by omega)).2.1]
    exact hL.lt hk
  · rw [a 6 (by omega), (s 6 (by omega)).1]; exact ev_m hL
  · dsimp only
    unfold rA at hf
    rw [a 6 (by omega), (s 6 (by omega)).2.2, a (226 + f) (by omega), (s (226 + f) (by omega)).1, (s (226 + f) (by omega)).2.1]
    exact hL.ref.2.1 f hf
  · have := hinj _ _ e
    omega
  · rw [a 7 (by omega), (s 7 (by omega)).1]; exact ev_7 hL
  · rw [a 7 (by omega), (s 7 (by omega)).2.1]; exact ev_7n hL
/-- where the new question's cells lie in the row of new cells -/
def posQ (j : Nat) : Nat := if j < 4 then j else if j = 4 then 16 else if j = 5 then 17 else if j = 6 then 4 else if j = 7 then 5 else if j = 8 then 14 else if j = 9 then 15 else if j < 18 then j - 4 else if j < 26 then 18 + 2 * (j - 18) else 19 + 2 * (j - 26)
set_option maxRecDepth 100000 in
theorem posQ_inj : ∀ i j, i < 34 → j < 34 → posQ i = posQ j → i = j := by
  intro i j hi hj
  have : ∀ i j : Fin 34, posQ i.val = posQ j.val → i.val = j.val := by decide +kernel
  exact this ⟨i, hi⟩ ⟨j, hj⟩
theorem posQ_lt : ∀ j, j < 34 → posQ j < 34 := by
  intro j hj
  have : ∀ j : Fin 34, posQ j.val < 34 := by decide +kernel
  exact this ⟨j, hj⟩
theorem getD_inj {L : List Nat} (h : L.Nodup) {i j : Nat} (hi : i < L.length) (hj : j < L.length) (e : L.getD i 0 = L.getD j 0) : i = j := by
  rw [List.getD_eq_getElem?_getD, List.getD_eq_getElem?_getD, List.getElem?_eq_getElem hi, List.getElem?_eq_getElem hj] at e
  have hp := List.pairwise_iff_getElem.mp h
  have e : L[i] = L[j] := e
  by_cases h1 : i < j
  · exact absurd e (hp i j hi hj h1)
  · by_cases h2 : j < i
    · exact absurd e.symm (hp j i hj hi h2)
    · omega
theorem getD_mem {L : List Nat} {i : Nat} (hi : i < L.length) : L.getD i 0 ∈ L := by
  rw [List.getD_eq_getElem?_getD, List.getElem?_eq_getElem hi]
  exact List.getElem_mem hi
theorem bound_list : ∀ L : List Nat, ∃ K, ∀ a, a ∈ L → a < K
  | [] => ⟨0, fun a h => absurd h List.not_mem_nil⟩
  | x :: L => by
    obtain ⟨K, hK⟩ := bound_list L
    refine ⟨max K (x + 1), fun a ha => ?_⟩
    rcases List.mem_cons.mp ha with rfl | h
    · omega
    · have := hK a h
      omega
theorem gAt_eq {u v : gG} {a : Nat} (h : gAt v a = gAt u a) : v.2.1.1 a = u.2.1.1 a ∧ v.2.1.2.1 a = u.2.1.2.1 a ∧ v.2.1.2.2 a = u.2.1.2.2 a ∧ v.2.2.1 a = u.2.2.1 a ∧ v.2.2.2 a = u.2.2.2 a := by
  unfold gAt at h
  simp only [Prod.mk.injEq] at h
  exact h
theorem fresh {u v : gG} {b0 : Nat} (hL : Lay u.2.1 A ex) (hq : q < 8) (hex : ex q = false) (hm : ∀ a, u.2.1.1 a ≠ 0 → a ∈ u.1) (hP : P_free u (A 2) q b0 v) : ∃ A', (∀ c, usd ex c → A' c = A c) ∧ A' (300 + 40 * q) = b0 ∧ Lay v.2.1 A' (fun p => if p = q then true else ex p) ∧ ∀ d, ¬ (300 + 40 * q ≤ d ∧ d < 340 + 40 * q) → v.2.2.1 (A' d) = u.2.2.1 (A' d) ∧ v.2.2.2 (A' d) = u.2.2.2 (A' d) := by
  obtain ⟨u1, u2, k1, k2, k3, k4, ⟨mk, fr, rp, q1, h, g, w, sc, as, rr, vv, nn, f0, f1, f2, f3, f4, f5, f6, f7, f8, f9, f10, f11⟩, k5, k6, k7⟩ := hP
  obtain ⟨NQ, hNQ⟩ : ∃ NQ, NQ = [mk, fr, rp] ++ ([q1] ++ (List.range 9).map (fun j => h + j) ++ [g, w]) ++ [sc, as] ++ (List.range 8).flatMap (fun l => [rr l, vv l]) := ⟨_, rfl⟩
  rw [← hNQ] at nn
  have hb1 : b0 ∈ u1.1 := by rw [k2]; exact List.mem_append_right _ (List.mem_singleton.mpr rfl)
  have hlen : (b0 :: NQ).length = 34 := by rw [hNQ]; rfl
  have hnd : (b0 :: NQ).Nodup := List.nodup_cons.mpr ⟨fun hh => nn.2.1 b0 hh hb1, nn.2.2.1⟩
  have hNL : ∀ a, a ∈ b0 :: NQ → a ∉ u.1 := fun a ha hu => by
    rcases List.mem_cons.mp ha with rfl | hh
    · exact k1 hu
    · exact nn.2.1 a hh (by rw [k2]; exact List.mem_append_left _ hu)
  have hv1 : v.1 = u.1 ++ (b0 :: NQ) := by rw [k5, nn.1, k2, List.append_assoc]; rfl
  have hUL : ∀ c, usd ex c → A c ∈ u.1 := fun c hc => hm _ (hL.tag hc)
  obtain ⟨K, hK⟩ := bound_list v.1
  have same : ∀ a, a ∉ b0 :: NQ → a ≠ A 2 → gAt v a = gAt u a := fun a ha hne => by
    have e1 : a ≠ b0 := fun e => ha (by rw [e]; exact List.mem_cons_self)
    have e2 : a ∉ NQ := fun e => ha (List.mem_cons_of_mem _ e)
    rw [k7 a hne, nn.2.2.2 a e2 e1, k4 a e1]
  have h2L : A 2 ∈ u.1 := hUL 2 (Or.inl ⟨by omega, by omega, by omega, by omega⟩)
  have h2n : A 2 ∉ b0 :: NQ := fun hh => hNL _ hh h2L
  have h2g : gAt v (A 2) = gPut (gAt u (A 2)) q b0 := by
    rw [k6, nn.2.2.2 _ (fun e => h2n (List.mem_cons_of_mem _ e)) (fun e => h2n (by rw [e]; exact List.mem_cons_self)), k4 _ (fun e => h2n (by rw [e]; exact List.mem_cons_self))]
  obtain ⟨A', hA'⟩ : ∃ A' : Nat → Nat, ∀ c, A' c = if 300 + 40 * q ≤ c ∧ c < 334 + 40 * q then (b0 :: NQ).getD (posQ (c - (300 + 40 * q))) 0 else @ite Nat (usd ex c) (Classical.propDecidable _) (A c) (K + c) := ⟨_, fun _ => rfl⟩
  have aQ : ∀ j, j < 34 → A' (300 + 40 * q + j) = (b0 :: NQ).getD (posQ j) 0 := fun j hj => by
    rw [hA', if_pos (by omega), show 300 + 40 * q + j - (300 + 40 * q) = j by omega]
  have nq : ∀ c, usd ex c → ¬ (300 + 40 * q ≤ c ∧ c < 334 + 40 * q) := fun c hc hh => by
    rcases hc with hc | ⟨p, hp, he, h1, h2⟩
    · omega
    · have : p = q := by omega
      rw [this, hex] at he
      cases he
  have aU : ∀ c, usd ex c → A' c = A c := fun c hc => by
    rw [hA', if_neg (nq c hc), if_pos hc]
  have aN : ∀ c, ¬ usd ex c → ¬ (300 + 40 * q ≤ c ∧ c < 334 + 40 * q) → A' c = K + c := fun c hc hh => by
    rw [hA', if_neg hh, if_neg hc]
  have mQ : ∀ c, (300 + 40 * q ≤ c ∧ c < 334 + 40 * q) → A' c ∈ b0 :: NQ := fun c hc => by
    rw [hA', if_pos hc]
    exact getD_mem (by rw [hlen]; exact posQ_lt _ (by omega))
  have hinj : ∀ c d, A' c = A' d → c = d := by
    intro c d e
    by_cases c1 : 300 + 40 * q ≤ c ∧ c < 334 + 40 * q
    · by_cases d1 : 300 + 40 * q ≤ d ∧ d < 334 + 40 * q
      · rw [hA', hA', if_pos c1, if_pos d1] at e
        have := posQ_inj _ _ (by omega) (by omega) (getD_inj hnd (by rw [hlen]; exact posQ_lt _ (by omega)) (by rw [hlen]; exact posQ_lt _ (by omega)) e)
        omega
      · have m1 := mQ c c1
        by_cases d2 : usd ex d
        · rw [e, aU d d2] at m1
          exact absurd (hUL d d2) (hNL _ m1)
        · rw [e, aN d d2 d1] at m1
          have := hK _ (by rw [hv1]; exact List.mem_append_right _ m1)
          omega
    · by_cases d1 : 300 + 40 * q ≤ d ∧ d < 334 + 40 * q
      · have m1 := mQ d d1
        by_cases c2 : usd ex c
        · rw [← e, aU c c2] at m1
          exact absurd (hUL c c2) (hNL _ m1)
        · rw [← e, aN c c2 c1] at m1
          have := hK _ (by rw [hv1]; exact List.mem_append_right _ m1)
          omega
      · by_cases c2 : usd ex c
        · by_cases d2 : usd ex d
          · rw [aU c c2, aU d d2] at e
            exact hL.1 _ _ e
          · rw [aU c c2, aN d d2 d1] at e
            have := hK _ (by rw [hv1]; exact List.mem_append_left _ (hUL c c2))
            omega
        · by_cases d2 : usd ex d
          · rw [aN c c2 c1, aU d d2] at e
            have := hK _ (by rw [hv1]; exact List.mem_append_left _ (hUL d d2))
            omega
          · rw [aN c c2 c1, aN d d2 d1] at e
            omega
  have oldS : ∀ c, usd ex c → c ≠ 2 → gAt v (A c) = gAt u (A c) := fun c hc hne => same _ (fun hh => hNL _ hh (hUL c hc)) (fun e => hne (hL.1 _ _ e))
  -- the new cells, by name
  have n0 : A' (300 + 40 * q) = b0 := by have := aQ 0 (by omega); rw [Nat.add_zero] at this; rw [this]; rfl
  have n1 : A' (300 + 40 * q + 1) = mk := by rw [aQ 1 (by omega), hNQ]; rfl
  have n2 : A' (300 + 40 * q + 2) = fr := by rw [aQ 2 (by omega), hNQ]; rfl
  have n3 : A' (300 + 40 * q + 3) = rp := by rw [aQ 3 (by omega), hNQ]; rfl
  have n4 : A' (300 + 40 * q + 4) = sc := by rw [aQ 4 (by omega), hNQ]; rfl
  have n5 : A' (300 + 40 * q + 5) = as := by rw [aQ 5 (by omega), hNQ]; rfl
  have n6 : A' (300 + 40 * q + 6) = q1 := by rw [aQ 6 (by omega), hNQ]; rfl
  have n7 : A' (300 + 40 * q + 7) = h := by rw [aQ 7 (by omega), hNQ]; rfl
  have n8 : A' (300 + 40 * q + 8) = g := by rw [aQ 8 (by omega), hNQ]; rfl
  have n9 : A' (300 + 40 * q + 9) = w := by rw [aQ 9 (by omega), hNQ]; rfl
  have n10 : ∀ l, l < 8 → A' (300 + 40 * q + 10 + l) = h + 1 + l := fun l hl => by
    rw [Nat.add_assoc (300 + 40 * q), aQ (10 + l) (by omega), hNQ]
    have : l = 0 ∨ l = 1 ∨ l = 2 ∨ l = 3 ∨ l = 4 ∨ l = 5 ∨ l = 6 ∨ l = 7 := by omega
    rcases this with rfl | rfl | rfl | rfl | rfl | rfl | rfl | rfl <;> rfl
  have n18 : ∀ l, l < 8 → A' (300 + 40 * q + 18 + l) = rr l := fun l hl => by
    rw [Nat.add_assoc (300 + 40 * q), aQ (18 + l) (by omega), hNQ]
    have : l = 0 ∨ l = 1 ∨ l = 2 ∨ l = 3 ∨ l = 4 ∨ l = 5 ∨ l = 6 ∨ l = 7 := by omega
    rcases this with rfl | rfl | rfl | rfl | rfl | rfl | rfl | rfl <;> rfl
  have n26 : ∀ l, l < 8 → A' (300 + 40 * q + 26 + l) = vv l := fun l hl => by
    rw [Nat.add_assoc (300 + 40 * q), aQ (26 + l) (by omega), hNQ]
    have : l = 0 ∨ l = 1 ∨ l = 2 ∨ l = 3 ∨ l = 4 ∨ l = 5 ∨ l = 6 ∨ l = 7 := by omega
    rcases this with rfl | rfl | rfl | rfl | rfl | rfl | rfl | rfl <;> rfl
  have q2 : ∀ c, (300 + 40 * q ≤ c ∧ c < 334 + 40 * q) → gAt v (A' c) = gAt u2 (A' c) := fun c hc => k7 _ (fun e => hNL _ (mQ c hc) (by rw [e]; exact h2L))
  rw [k3] at f0
  have hQL : QL v.2.1 A' (300 + 40 * q) := by
    have w0 := q2 (300 + 40 * q) (by omega)
    have w1 := q2 (300 + 40 * q + 1) (by omega)
    have w2 := q2 (300 + 40 * q + 2) (by omega)
    have w3 := q2 (300 + 40 * q + 3) (by omega)
    have w4 := q2 (300 + 40 * q + 4) (by omega)
    have w5 := q2 (300 + 40 * q + 5) (by omega)
    have w6 := q2 (300 + 40 * q + 6) (by omega)
    have w7 := q2 (300 + 40 * q + 7) (by omega)
    have w8 := q2 (300 + 40 * q + 8) (by omega)
    have w9 := q2 (300 + 40 * q + 9) (by omega)
    rw [n0, f0] at w0
    rw [n1, f1] at w1
    rw [n2, f2] at w2
    rw [n3, f3] at w3
    rw [n4, f9] at w4
    rw [n5, f10] at w5
    rw [n6, f4] at w6
    rw [n7, f5] at w7
    rw [n8, f7] at w8
    rw [n9, f8] at w9
    have t : ∀ {a : Nat} {x : gCell}, gAt v a = x → v.2.1.1 a = x.1 ∧ v.2.1.2.1 a = x.2.1 ∧ v.2.1.2.2 a = x.2.2.1 := fun hx => by rw [← hx]; exact ⟨rfl, rfl, rfl⟩
    refine ⟨⟨?_, ?_, ?_, ?_, ?_, ?_⟩, ⟨?_, ?_⟩, ⟨?_, ?_⟩, fun l hl => ?_, ⟨?_, ?_, ?_, ?_⟩, ?_, ⟨?_, ?_⟩, ⟨?_, ?_⟩, ⟨?_, ?_⟩, fun l hl => ?_, ⟨?_, ?_, ?_, ?_⟩⟩
    · rw [n0, (t w0).1]; rfl
    · rw [n0, (t w0).2.2, n1]; rfl
    · rw [n0, (t w0).2.2, n2]; rfl
    · rw [n0, (t w0).2.2, n3]; rfl
    · rw [n0, (t w0).2.2, n4]; rfl
    · rw [n0, (t w0).2.2, n5]; rfl
    · rw [n1, (t w1).1]; rfl
    · rw [n1, (t w1).2.1]; rfl
    · rw [n2, (t w2).1]; rfl
    · rw [n2, (t w2).2.1]; rfl
    · have z1 := q2 (300 + 40 * q + 18 + l) (by omega)
      have z2 := q2 (300 + 40 * q + 26 + l) (by omega)
      rw [n18 l hl, (f11 l hl).1] at z1
      rw [n26 l hl, (f11 l hl).2] at z2
      rw [n2, (t w2).2.2, n18 l hl, (t z1).1, (t z1).2.2, n26 l hl, (t z2).1, (t z2).2.1]
      refine ⟨?_, rfl, rfl, rfl, rfl⟩
      show (if l < 8 then some (rr l) else none) = _
      rw [if_pos hl]
    · rw [n3, (t w3).1]; rfl
    · rw [n3, (t w3).2.2, n6]; rfl
    · rw [n3, (t w3).2.2, n7]; rfl
    · rw [n3, (t w3).2.2, n8]; rfl
    · rw [n4, (t w4).1]; rfl
    · rw [n5, (t w5).1]; rfl
    · rw [n5, (t w5).2.1]; rfl
    · rw [n6, (t w6).1]; rfl
    · rw [n6, (t w6).2.1]; rfl
    · rw [n7, (t w7).1]; rfl
    · rw [n7, (t w7).2.1]; rfl
    · have z1 := q2 (300 + 40 * q + 10 + l) (by omega)
      rw [n10 l hl, f6 l hl] at z1
      rw [n7, (t w7).2.2, n10 l hl, (t z1).1, (t z1).2.1]
      refine ⟨?_, rfl, rfl⟩
      show (if l < 8 then some (h + 1 + l) else none) = _
      rw [if_pos hl]
    · rw [n8, (t w8).1]; rfl
    · rw [n8, (t w8).2.2, n9]; rfl
    · rw [n9, (t w9).1]; rfl
    · rw [n9, (t w9).2.1]; rfl
  have t2 : v.2.1.1 (A 2) = u.2.1.1 (A 2) ∧ v.2.1.2.1 (A 2) = u.2.1.2.1 (A 2) ∧ v.2.1.2.2 (A 2) = va_up (u.2.1.2.2 (A 2)) q (some b0) ∧ v.2.2.1 (A 2) = u.2.2.1 (A 2) ∧ v.2.2.2 (A 2) = u.2.2.2 (A 2) := by
    unfold gAt gPut at h2g
    simp only [Prod.mk.injEq] at h2g
    exact h2g
  refine ⟨A', aU, n0, hL.more hq hex hinj aU (fun c hc hne => ?_) ⟨t2.1, t2.2.1⟩ (fun p hp hne => ?_) ?_ hQL, fun d hd => ?_⟩
  · have := gAt_eq (oldS c hc hne)
    exact ⟨this.1, this.2.1, this.2.2.1⟩
  · rw [t2.2.2.1, va_up_ne _ _ hne]
  · rw [t2.2.2.1, va_up_self, n0]
  · by_cases hc : usd ex d
    · rw [aU d hc]
      by_cases e : d = 2
      · rw [e]; exact ⟨t2.2.2.2.1, t2.2.2.2.2⟩
      · have := gAt_eq (oldS d hc e)
        exact ⟨this.2.2.2.1, this.2.2.2.2⟩
    · have hK' : ∀ a, a ∈ v.1 → K + d ≠ a := fun a ha e => by have := hK a ha; omega
      rw [aN d hc (by omega)]
      have := gAt_eq (same (K + d) (fun hh => hK' _ (by rw [hv1]; exact List.mem_append_right _ hh) rfl) (hK' _ (by rw [hv1]; exact List.mem_append_left _ h2L)))
      exact ⟨this.2.2.2.1, this.2.2.2.2⟩
end ASKC
