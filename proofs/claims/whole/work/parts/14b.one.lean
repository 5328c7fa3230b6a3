-- One letter that asks, class and reference side by side
def mI (A : Nat → Nat) (Ic Ir : gMI) : gMI := mx (cI A Ic) (cI A Ir)
def mJ (A : Nat → Nat) (Jc Jr : gMJ) : gMJ := mx (cJ A Jc) (cJ A Jr)
theorem mI_r {A : Nat → Nat} {Ic Ir : gMI} {c k : Nat} (h : c = 6 ∨ (226 ≤ c ∧ c < 263)) : mI A Ic Ir c k = Ir (A c) k := if_pos h
theorem mI_c {A : Nat → Nat} {Ic Ir : gMI} {c k : Nat} (h : ¬ (c = 6 ∨ (226 ≤ c ∧ c < 263))) : mI A Ic Ir c k = Ic (A c) k := if_neg h
theorem mJ_r {A : Nat → Nat} {Ic Ir : gMJ} {c k : Nat} (h : c = 6 ∨ (226 ≤ c ∧ c < 263)) : mJ A Ic Ir c k = Ir (A c) k := if_pos h
theorem mJ_c {A : Nat → Nat} {Ic Ir : gMJ} {c k : Nat} (h : ¬ (c = 6 ∨ (226 ≤ c ∧ c < 263))) : mJ A Ic Ir c k = Ic (A c) k := if_neg h
/-- Rel with its ghosts -/
def R4 (M : gMI) (K : gMJ) (ex : Nat → Bool) (b : Nat) (sz : Nat → Nat) (c : Nat) (pi am : Nat → Nat) (fz : Nat → Nat → Option Nat) (cm : Nat → Nat → Bool) (gc : Nat → Nat → Nat) (nu : Nat → Nat) (N : Nat) : Prop := N ≤ b ∧ RLgs M sz ∧ RPost M K c pi am ∧ RQs M K ex sz fz cm gc nu N ∧ Inv M c N b nu fz cm
/-- the class's side leaves the reference's memory and the out row alone -/
def FrC {α : Type} (A : Nat → Nat) (I I' : Nat → Nat → α) : Prop := ∀ d k, (d = 6 ∨ d = 7 ∨ (226 ≤ d ∧ d < 263)) → I' (A d) k = I (A d) k
/-- the reference's side leaves the class's memory alone -/
def FrR {α : Type} (A : Nat → Nat) (I I' : Nat → Nat → α) : Prop := ∀ d k, ¬ (d = 6 ∨ (226 ≤ d ∧ d < 263)) → I' (A d) k = I (A d) k
theorem FrC.trans {α : Type} {A : Nat → Nat} {I I1 I2 : Nat → Nat → α} (h : FrC A I I1) (h' : FrC A I1 I2) : FrC A I I2 := fun d k hd => (h' d k hd).trans (h d k hd)
theorem FrR.trans {α : Type} {A : Nat → Nat} {I I1 I2 : Nat → Nat → α} (h : FrR A I I1) (h' : FrR A I1 I2) : FrR A I I2 := fun d k hd => (h' d k hd).trans (h d k hd)
theorem FrC.rfl {α : Type} {A : Nat → Nat} {I : Nat → Nat → α} : FrC A I I := fun _ _ _ => Eq.refl _
theorem FrR.rfl {α : Type} {A : Nat → Nat} {I : Nat → Nat → α} : FrR A I I := fun _ _ _ => Eq.refl _
section ONE
variable {S : gS} {A : Nat → Nat} {ex : Nat → Bool} {b c N : Nat} {sz pi am nu : Nat → Nat} {fz : Nat → Nat → Option Nat} {cm : Nat → Nat → Bool} {gc : Nat → Nat → Nat} {Ic Ic' Ir Ir' : gMI} {Jc Jc' Jr Jr' : gMJ}
theorem snd_rel (h : R4 (mI A Ic Ir) (mJ A Jc Jr) ex b sz c pi am fz cm gc nu N) (hc : c < 96) {a : Nat}
    (kc : ∀ d k, ¬ (d = 3 ∧ k = 2) → d ≠ 32 + pi c → d ≠ 129 + pi c → Ic' (A d) k = Ic (A d) k)
    (kr : ∀ d k, ¬ (d = 6 ∧ (k = 0 ∨ k = 32 ∨ k = 37)) → ¬ (d = 259 ∧ 7 * c ≤ k) → ¬ (d = 260 ∧ 64 * c ≤ k) → d ≠ 262 → Ir' (A d) k = Ir (A d) k)
    (jc : ∀ d k, d ≠ 32 + pi c → d ≠ 7 → Jc' (A d) k = Jc (A d) k) (jr : ∀ d k, ¬ (d = 261 ∧ c ≤ k) → d ≠ 6 → Jr' (A d) k = Jr (A d) k)
    (e3 : Ic' (A 3) 2 = nI (c + 1)) (e6 : Ir' (A 6) 32 = nI (c + 1)) (hl : RLet (mI A Ic' Ir') (mJ A Jc' Jr') (pi c) c a) (hv : VLt (mI A Ic' Ir') c N)
    (hq : ∀ q, q < 8 → 0 < nu q → Ir' (A 259) (7 * c + 1) = Ir (A 231) q → ∀ tq sq, tq ≤ b → sq ≤ b → Ir (A 236) q = nI tq → Ir (A 237) q = nI sq → VLq (mI A Ic' Ir') c q (fz q) tq sq) :
    R4 (mI A Ic' Ir') (mJ A Jc' Jr') ex b sz (c + 1) pi (fun i => if i = c then a else am i) fz cm gc nu N := by
  obtain ⟨h0, h1, h2, h3, h4⟩ := h
  refine ⟨h0, add_rel h1 h2 h3 h4 hc (fun d k hd => ?_) (fun d k hd => ?_) (by rw [mI_c (by omega)]; exact e3) (by rw [mI_r (by omega)]; exact e6) hl hv (fun q hq8 hn he tq sq w1 w2 w3 w4 => ?_)⟩
  · by_cases e : d = 6 ∨ (226 ≤ d ∧ d < 263)
    · rw [mI_r e, mI_r e]; exact kr _ _ (by omega) (by omega) (by omega) (by omega)
    · rw [mI_c e, mI_c e]; exact kc _ _ (by omega) (by omega) (by omega)
  · by_cases e : d = 6 ∨ (226 ≤ d ∧ d < 263)
    · rw [mJ_r e, mJ_r e]; exact jr _ _ (by omega) (by omega)
    · rw [mJ_c e, mJ_c e]; exact jc _ _ (by omega) (by omega)
  · rw [mI_r (by omega), mI_r (by omega)] at he
    rw [mI_r (by omega)] at w3 w4
    exact hq q hq8 hn he tq sq w1 w2 w3 w4
/-- the reference has made ready what question q asks -/
def RDY (A : Nat → Nat) (q na : Nat) (Ic Ir : gMI) (Jr : gMJ) : Prop := NA (Ic (A (300 + 40 * q)) 5) na ∧ Ir (A 6) 37 = nI na ∧ (∀ j, j < na → Ir (A 262) j = Ic (A (300 + 40 * q + 5)) j) ∧ Jr (A 6) 38 = 0
theorem lcn_nn (M : gMI) (l : Nat) (z : Option Nat) (a b : Int) : 0 ≤ lcn M l z a b := (pu_cnt_nn _ _ _ _).1
theorem lcs_ge {M : gMI} {z : Nat → Option Nat} {a b : Int} : ∀ {n l : Nat}, l < n → lcn M l (z l) a b ≤ lcs M z a b n
  | 0, l, h => by omega
  | n + 1, l, h => by
    have h0 : ∀ m, 0 ≤ lcs M z a b m := fun m => by
      induction m with
      | zero => exact Int.le_refl 0
      | succ m ih =>
        have := lcn_nn M m (z m) a b
        show 0 ≤ _ + _
        omega
    show _ ≤ lcs M z a b n + lcn M n (z n) a b
    by_cases e : l = n
    · subst e
      have := h0 l
      omega
    · have := lcs_ge (M := M) (z := z) (a := a) (b := b) (show l < n by omega)
      have := lcn_nn M n (z n) a b
      omega
theorem lcn_mx {Ic' Ir' : gMI} (h : ∀ k, Ir' (A 229) k = Ir (A 229) k) (l : Nat) (z : Option Nat) (a b : Int) : lcn (mI A Ic' Ir') l z a b = lcn (mI A Ic Ir) l z a b := by
  unfold lcn
  have : rdM (mI A Ic' Ir') l = rdM (mI A Ic Ir) l := by
    funext i
    unfold rdM
    rw [mI_r (by omega), mI_r (by omega), h]
  rw [this]
theorem ask_one (hL : Lay S A ex) (hb : b < 2 ^ 30) {q na to : Nat} (hq : q < 8) (he : ex q = true) (hn : 0 < nu q) (h : R4 (mI A Ic Ir) (mJ A Jc Jr) ex b sz c pi am fz cm gc nu N) (hs : Ir (A 238) q = 0) (hR : RDY A q na Ic Ir Jr) (ht : to < 8) :
    ∃ s Ic1 Ic' Jc' Ir' Jr' c' am', f_Post_send S Ic Jc (A 3) = some (s, Ic1) ∧ f_Question_writeAsking S Ic1 Jc (A (300 + 40 * q)) s (nI to) = some (Ic', Jc') ∧ f_M_send S Ir Jr (A 6) (Ir (A 242) q) (nI (nu q)) (Ir (A 236) q) (Ir (A 237) q) (Ir (A 235) q) (nI to) = some (Ir', Jr') ∧ R4 (mI A Ic' Ir') (mJ A Jc' Jr') ex b sz c' pi am' fz cm gc nu N ∧ RDY A q na Ic' Ir' Jr' ∧ FrC A Ic Ic' ∧ FrC A Jc Jc' ∧ FrR A Ir Ir' ∧ FrR A Jr Jr' ∧ (∀ d k, 226 ≤ d → d < 259 → Ir' (A d) k = Ir (A d) k) ∧ Ir' (A 6) 0 = Ir (A 6) 0 := by
  obtain ⟨h0, h1, h2, h3, h4⟩ := h
  have hp := h2
  obtain ⟨p1, p2, p3, p4, p5, p6⟩ := hp
  rw [mI_c (by omega)] at p2
  rw [mI_r (by omega)] at p3
  by_cases hc : c < 96
  · have pc := (p4 c (by omega)).1
    have ec := (p4 c (by omega)).2
    rw [mI_c (by omega)] at ec
    obtain ⟨r0, r1, r2, r3⟩ := hR
    have hna := r0.le
    have s1 := Post_send_in (J := Jc) hL hc pc p2 ec
    obtain ⟨Ic1, hI1⟩ : ∃ I1 : gMI, I1 = upI Ic (A 3) 2 (nI (c + 1)) := ⟨_, rfl⟩
    rw [← hI1] at s1
    have k1 : ∀ d k, d ≠ 3 → Ic1 (A d) k = Ic (A d) k := fun d k hd => by rw [hI1, ev_uI hL (by omega)]
    obtain ⟨Ic', w1, w2, w3, w4, w5⟩ := write_ask (I := Ic1) (J := Jc) hL hq he pc (by rw [k1 _ _ (by omega)]; exact r0) (nI to)
    obtain ⟨Ir', m1, m2, m3, m4, m5⟩ := M_send_in (I := Ir) (J := Jr) hL hc (show na ≤ 64 by omega) p3 r1 (Ir (A 242) q) (nI (nu q)) (Ir (A 236) q) (Ir (A 237) q) (Ir (A 235) q) (nI to)
    obtain ⟨a1, a2, a3, a4, a5, a6⟩ := h3
    have hq3 := (a6 q hq).1 he
    obtain ⟨b1, b2, b3, b4, b5, b6⟩ := hq3
    unfold RQf at b1
    simp (disch := omega) only [mI_c, mI_r, mJ_c, mJ_r] at b1
    obtain ⟨f6, -, -, -, f10, f11, f12, -, -, -, -, f5⟩ := b1
    have n231 : Ir (A 231) q = nI (nu q) := by have := (a4 q hq).1; rw [mI_r (by omega)] at this; exact this
    obtain ⟨w31, w32, w33, w34, w35, w36⟩ := w3
    obtain ⟨m20, m21, m22, m23, m24, m25, m26⟩ := m2
    rw [k1 _ _ (by omega)] at w31 w32 w33 w34 w35
    obtain ⟨v1, tq, sq, u1, u2, u3, u4, u5⟩ := h4.2 q hq hn
    rw [mI_r (by omega)] at u3 u4
    have v1' := v1
    unfold VQq at v1'
    obtain ⟨x1, ⟨⟨dr, hd8, x2⟩, -⟩, x3⟩ := v1'
    rw [mI_r (by omega)] at x2
    obtain ⟨y1, y2, -, y4, -⟩ := x3 (by rw [mI_r (by omega)]; exact hs)
    rw [mI_r (by omega)] at y1 y2 y4
    have b5 := b5 (by rw [mI_r (by omega)]; exact hs)
    have el := lcn_mx (A := A) (Ic := Ic) (Ir := Ir) (Ic' := Ic') (Ir' := Ir') (fun k => m5 229 k (by omega) (by omega) (by omega))
    have num : ∀ j, j < na → Ir' (A 260) (64 * c + j) = Ic (A (300 + 40 * q + 5)) j := fun j hj => by rw [m3 j (by omega), if_pos hj, r2 j hj]
    have num37 : (Ir (A 242) q = 3 ∨ Ir (A 242) q = 7) → Ir' (A 260) (64 * c) = Ir (A 244) q ∧ Ir' (A 260) (64 * c + 1) = Ir (A 245) q := fun hk => by
      have hn2 : na = 2 := by
        rw [f5] at r0
        rcases r0 with ⟨e, _⟩ | ⟨e, _⟩ | ⟨_, _, e⟩
        · rw [e] at hk; exact absurd hk (by decide)
        · rw [e] at hk; exact absurd hk (by decide)
        · exact e
      have := b5.1 (by rw [mI_r (by omega)]; rcases hk with e | e <;> simp [e])
      obtain ⟨-, -, -, -, -, -, z1, z2⟩ := this
      simp (disch := omega) only [mI_c, mI_r, mJ_c, mJ_r] at z1 z2
      exact ⟨(num 0 (by omega)).trans z1, (num 1 (by omega)).trans z2⟩
    have hrel := snd_rel (Ic' := Ic') (Ir' := Ir') (Jc' := upJ Jc (A (32 + pi c)) 2 0) (Jr' := upJ Jr (A 261) c (Jr (A 6) 38)) (a := na) ⟨h0, h1, h2, ⟨a1, a2, a3, a4, a5, a6⟩, h4⟩ hc
      (fun d k e1 e2 e3 => by rw [w5 d k e2 e3, hI1, ev_uI hL (by omega)]) (fun d k e1 e2 e3 e4 => m5 d k (by omega) e2 e3)
      (fun d k e1 e2 => by rw [ev_uJ hL (by omega)]) (fun d k e1 e2 => by rw [ev_uJ hL (by omega)])
      (by rw [w5 _ _ (by omega) (by omega), hI1, ev_uE]) m4
      (by
        refine ⟨by omega, by rw [mI_c (by omega)]; exact w2, by rw [mI_r (by omega)]; exact m26, ?_, ?_, ?_, ?_, ?_, ?_, ?_, fun j hj => ?_⟩
        · simp (disch := omega) only [mI_c, mI_r, mJ_c, mJ_r]; rw [w31, m20, f5]
        · simp (disch := omega) only [mI_c, mI_r, mJ_c, mJ_r]; rw [w32, m21, f6, n231]
        · simp (disch := omega) only [mI_c, mI_r, mJ_c, mJ_r]; rw [w33, m22, f11]
        · simp (disch := omega) only [mI_c, mI_r, mJ_c, mJ_r]; rw [w34, m23, f12]
        · simp (disch := omega) only [mI_c, mI_r, mJ_c, mJ_r]; rw [w35, m24, f10]
        · simp (disch := omega) only [mI_c, mI_r, mJ_c, mJ_r]; rw [w36, m25]
        · simp (disch := omega) only [mI_c, mI_r, mJ_c, mJ_r]; rw [ev_uK, ev_uK, r3]
        · rw [mI_r (by omega), m3 j hj]
          by_cases e : j < na
          · rw [if_pos e, if_pos e, mI_c (by omega), w4 j e, k1 _ _ (by omega), r2 j e]
          · rw [if_neg e, if_neg e])
      (by
        have hka : ∃ ka : Nat, 1 ≤ ka ∧ ka ≤ 12 ∧ Ir (A 242) q = nI ka := by
          rcases y1 with e | e | e | e | e | e
          · exact ⟨1, by omega, by omega, e⟩
          · exact ⟨3, by omega, by omega, e⟩
          · exact ⟨5, by omega, by omega, e⟩
          · exact ⟨7, by omega, by omega, e⟩
          · exact ⟨9, by omega, by omega, e⟩
          · exact ⟨11, by omega, by omega, e⟩
        obtain ⟨ka, g1, g2, g3⟩ := hka
        exact ⟨ka, dr, to, nu q, g1, g2, hd8, ht, (a4 q hq).2, by rw [mI_r (by omega), m20, g3], by rw [mI_r (by omega), m24, x2], by rw [mI_r (by omega), m25], by rw [mI_r (by omega), m21]⟩)
      (fun p hp8 hnp hep tp sp c1 c2 c3 c4 => by
        have epq : p = q := by
          have hp1 : Ir (A 231) p = nI (nu p) := by have := (a4 p hp8).1; rw [mI_r (by omega)] at this; exact this
          have l1 := (a4 p hp8).2
          have l2 := (a4 q hq).2
          rw [m21, hp1] at hep
          have := (nI_eq (by omega) (by omega)).mp hep
          exact a5 p q hp8 hq this.symm hnp
        subst epq
        refine ⟨tp, sp, Nat.le_refl _, by omega, by rw [mI_r (by omega), m22, c3], by rw [mI_r (by omega), m23, c4], fun _ => Nat.le_refl _, fun h7 t ht8 _ => ?_, fun _ _ _ => Or.inl ⟨?_, fun hk => ?_⟩⟩
        · rw [mI_r (by omega), m20] at h7
          have hz := y2 (by rw [h7]; decide) t ht8
          refine ⟨hz, ?_⟩
          obtain ⟨z1, z2⟩ := num37 (Or.inr h7)
          rw [el, mI_r (by omega), mI_r (by omega), z1, z2]
          have y4 := y4 h7
          rw [mI_r (by omega), mI_r (by omega)] at y4
          exact Int.le_trans (lcs_ge (M := mI A Ic Ir) (z := fz p) ht8) y4
        · rw [mI_r (by omega), mI_r (by omega), m20, m5 _ _ (by omega) (by omega) (by omega)]
        · rw [mI_r (by omega), m5 _ _ (by omega) (by omega) (by omega)] at hk
          obtain ⟨z1, z2⟩ := num37 hk
          rw [mI_r (by omega), mI_r (by omega), mI_r (by omega), mI_r (by omega), z1, z2, m5 _ _ (by omega) (by omega) (by omega), m5 _ _ (by omega) (by omega) (by omega)]
          exact ⟨rfl, rfl⟩)
    refine ⟨_, _, Ic', _, Ir', _, _, _, s1, w1, m1, hrel, ⟨?_, ?_, fun j hj => ?_, ?_⟩, fun d k hd => ?_, fun d k hd => ?_, fun d k hd => ?_, fun d k hd => ?_, fun d k d1 d2 => ?_, ?_⟩
    · rw [w5 _ _ (by omega) (by omega), k1 _ _ (by omega)]; exact r0
    · rw [m5 _ _ (by omega) (by omega) (by omega)]; exact r1
    · rw [m5 _ _ (by omega) (by omega) (by omega), w5 _ _ (by omega) (by omega), k1 _ _ (by omega)]; exact r2 j hj
    · rw [ev_uJ hL (by omega)]; exact r3
    · rw [w5 _ _ (by omega) (by omega), k1 _ _ (by omega)]
    · rw [ev_uJ hL (by omega)]
    · exact m5 _ _ (by omega) (by omega) (by omega)
    · rw [ev_uJ hL (by omega)]
    · exact m5 _ _ (by omega) (by omega) (by omega)
    · exact m5 _ _ (by omega) (by omega) (by omega)
  · have e96 : c = 96 := by omega
    subst e96
    refine ⟨none, Ic, Ic, Jc, Ir, Jr, 96, am, Post_send_full hL p2, ?_, M_send_full hL p3 _ _ _ _ _ _, ⟨h0, h1, h2, h3, h4⟩, hR, FrC.rfl, FrC.rfl, FrR.rfl, FrR.rfl, fun _ _ _ _ => rfl, rfl⟩
    rw [f_Question_writeAsking, gm_none]
end ONE
