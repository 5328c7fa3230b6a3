theorem pu_same_0 (f g : Nat → Int) : pu_same f g 0 := fun φ => by rw [pu_tot, pu_tot]
set_option maxHeartbeats 4000000 in
set_option maxRecDepth 100000 in
theorem st_b {u5 : gG} {A : Nat → Nat} {h g o : Nat} (hn : stN u5 A h g o) : (∀ l, l < 8 → u5.2.2.1 (A (8 + l)) 1 = 1) ∧ (∀ l : Nat, u5.2.2.1 (A 227) l = 0) ∧ (∀ l, l < 8 → u5.2.2.1 (A (16 + l)) 1 = nI 0) ∧ (∀ l : Nat, u5.2.2.1 (A 228) l = nI 0) ∧ u5.2.2.1 (A 3) 2 = nI 0 ∧ (∀ k : Nat, u5.2.2.1 (A 6) k = nI 0) ∧ (∀ i, i < 97 → u5.2.2.1 (A 5) i = nI i) ∧ u5.2.2.1 (A 0) 3 = nI 0 ∧ (∀ l : Nat, u5.2.2.1 (A 231) l = nI 0) := by
  obtain ⟨la, qa, po, sh, od, Lg, Sr, Vl, rr, ww, R, hinj, ⟨A0, A1, A2, A3, A4, A5, A6, A7⟩, aL, aK, AR, ⟨c0, c1, c2, c3, c4, c5⟩, cL, cK, ⟨q0, q2, q1⟩, cR, o3⟩ := hn
  have A8 := fun l hl => (aL l hl).1
  have A16 := fun l hl => (aL l hl).2.1
  have A24 := fun l hl => (aL l hl).2.2
  have A32 := fun k hk => (aK k hk).1
  have A129 := fun k hk => (aK k hk).2
  have cg : gAt u5 g = gAt u5 g := rfl
  have t : ∀ {a : Nat} {x : gCell}, gAt u5 a = x → u5.2.1.1 a = x.1 ∧ u5.2.1.2.1 a = x.2.1 ∧ u5.2.1.2.2 a = x.2.2.1 ∧ u5.2.2.1 a = x.2.2.2.1 := fun hx => by rw [← hx]; exact ⟨rfl, rfl, rfl, rfl⟩
  have r1 : rA 1 := by unfold rA; omega
  have r2 : rA 2 := by unfold rA; omega
  have r5 : rA 5 := by unfold rA; omega
  have hg0 : u5.2.2.1 g = fun _ => 0 := q1
  have b1 : ∀ l, l < 8 → u5.2.2.1 (A (8 + l)) 1 = 1 := fun l hl => by
    rw [A8 l hl, (t (cL l hl).1).2.2.2]; rfl
  have b2 : ∀ l : Nat, u5.2.2.1 (A 227) l = 0 := fun l => by
    rw [show (227 : Nat) = 226 + 1 from rfl, AR 1 r1, (t (cR 1 r1)).2.2.2]; rfl
  have b3 : ∀ l, l < 8 → u5.2.2.1 (A (16 + l)) 1 = nI 0 := fun l hl => by
    rw [A16 l hl, (t (cL l hl).2.1).2.2.2]; rfl
  have b4 : ∀ l : Nat, u5.2.2.1 (A 228) l = nI 0 := fun l => by
    rw [show (228 : Nat) = 226 + 2 from rfl, AR 2 r2, (t (cR 2 r2)).2.2.2]; rfl
  have b5 : u5.2.2.1 (A 3) 2 = nI 0 := by
    rw [A3, (t c3).2.2.2]; rfl
  have b6 : ∀ k : Nat, u5.2.2.1 (A 6) k = nI 0 := fun k => by
    rw [A6, hg0]; rfl
  have b7 : ∀ i, i < 97 → u5.2.2.1 (A 5) i = nI i := fun i hi => by
    rw [A5, (t c5).2.2.2]
    show (if i < 97 then nI i else 0) = nI i
    rw [if_pos hi]
  have b8 : u5.2.2.1 (A 0) 3 = nI 0 := by
    rw [A0, (t c0).2.2.2]; rfl
  have b9 : ∀ l : Nat, u5.2.2.1 (A 231) l = nI 0 := fun l => by
    rw [show (231 : Nat) = 226 + 5 from rfl, AR 5 r5, (t (cR 5 r5)).2.2.2]; rfl
  exact ⟨b1, b2, b3, b4, b5, b6, b7, b8, b9⟩
theorem st_w1 {u5 : gG} {A : Nat → Nat} {h g o : Nat} (hn : stN u5 A h g o) : RLgs (cI A u5.2.2.1) (fun _ => 0) := by
  obtain ⟨b1, b2, b3, b4, b5, b6, b7, b8, b9⟩ := st_b hn
  exact fun l hl => ⟨Or.inl ⟨b1 l hl, b2 l⟩, Nat.zero_le _, b3 l hl, b4 l, fun i j _ hj => absurd hj (Nat.not_lt_zero j), pu_same_0 _ _⟩
theorem st_w2 {u5 : gG} {A : Nat → Nat} {h g o : Nat} (hn : stN u5 A h g o) : RPost (cI A u5.2.2.1) (cJ A u5.2.2.2) 0 (fun i => i) (fun _ => 0) := by
  obtain ⟨b1, b2, b3, b4, b5, b6, b7, b8, b9⟩ := st_b hn
  exact ⟨Nat.zero_le _, b5, b6 32, fun i hi => ⟨hi, b7 i hi⟩, fun i j _ _ e => e, fun i hi => absurd hi (Nat.not_lt_zero i)⟩
theorem st_w3 {u5 : gG} {A : Nat → Nat} {h g o : Nat} (hn : stN u5 A h g o) : RQs (cI A u5.2.2.1) (cJ A u5.2.2.2) (fun _ => false) (fun _ => 0) (fun _ _ => none) (fun _ _ => false) (fun _ _ => 0) (fun _ => 0) 0 := by
  obtain ⟨b1, b2, b3, b4, b5, b6, b7, b8, b9⟩ := st_b hn
  exact ⟨b8, b6 4, by omega, fun q hq => ⟨b9 q, Nat.le_refl 0⟩, fun q p _ _ _ hp => absurd hp (Nat.lt_irrefl 0), fun q hq => ⟨fun he => absurd (show false = true from he) Bool.false_ne_true, fun _ => rfl⟩⟩
theorem st_w4 {u5 : gG} {A : Nat → Nat} {h g o : Nat} (hn : stN u5 A h g o) : Inv (cI A u5.2.2.1) 0 0 0 (fun _ => 0) (fun _ _ => none) (fun _ _ => false) := by
  obtain ⟨b1, b2, b3, b4, b5, b6, b7, b8, b9⟩ := st_b hn
  exact ⟨fun i hi => absurd hi (Nat.not_lt_zero i), fun q _ hp => absurd hp (Nat.lt_irrefl 0)⟩
theorem start_rel {u5 : gG} {A : Nat → Nat} {h g o : Nat} (hn : stN u5 A h g o) : Rel (cI A u5.2.2.1) (cJ A u5.2.2.2) (fun _ => false) 0 := ⟨fun _ => 0, 0, fun i => i, fun _ => 0, fun _ _ => none, fun _ _ => false, fun _ _ => 0, fun _ => 0, 0, Nat.le_refl 0, st_w1 hn, st_w2 hn, st_w3 hn, st_w4 hn⟩
