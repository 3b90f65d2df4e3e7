/-! a new array for the rounds -/
def al (B r : Nat) (σ : gS) : gS := sR (sNw σ 21 r r) (B + 45) 5 (some (gn σ))
section
variable {B r : Nat} {σ τ : gS}
theorem al_K {a : Nat} (h : a ≠ gn σ) : gK (al B r σ) a = gK σ a := by
  simp only [al, n_K_R, n_K_N, if_neg h]
theorem al_N {a : Nat} (h : a ≠ gn σ) : gN (al B r σ) a = gN σ a := by
  simp only [al, n_N_R, n_N_N, if_neg h]
theorem al_I {a : Nat} (h : a ≠ gn σ) : gI (al B r σ) a = gI σ a := by
  funext j
  simp only [al, n_I_R, n_I_N, if_neg h]
theorem al_R {a : Nat} (h : a ≠ gn σ) (h2 : a ≠ B + 45) : gR (al B r σ) a = gR σ a := by
  funext j
  simp only [al, n_R_R, n_R_N, if_neg h]
  rw [if_neg (fun z => h2 z.1)]
theorem al_R2 {j : Nat} (h : B + 45 ≠ gn σ) (h2 : j ≠ 5) : gR (al B r σ) (B + 45) j = gR σ (B + 45) j := by
  simp only [al, n_R_R, n_R_N, if_neg h]
  rw [if_neg (fun z => h2 z.2)]
theorem al_R5 : gR (al B r σ) (B + 45) 5 = some (gn σ) := by
  simp only [al, n_R_R, and_self, if_true]
theorem al_l : gK (al B r σ) (gn σ) = 21 ∧ gN (al B r σ) (gn σ) = r := by
  simp only [al, n_K_R, n_K_N, n_N_R, n_N_N, if_true, and_self]
theorem al_n : gn (al B r σ) = gn σ + 1 ∧ gw (al B r σ) = gw σ + r ∧ gT (al B r σ) = gT σ := by
  simp only [al, n_n_R, n_n_N, n_w_R, n_w_N, n_T_R, n_T_N, and_self]
theorem Sm_al {P : Nat → Prop} (h : Sm P σ τ) : Sm P (al B r σ) (al B r τ) := by
  obtain ⟨h1, h2, h3, h4, h5, h6, h7, h8⟩ := h
  refine ⟨?_, ?_, ?_, ?_, ?_, ?_, ?_, ?_⟩
  · funext a
    simp only [al, n_K_R, n_K_N, h1, h4]
  · funext a
    simp only [al, n_N_R, n_N_N, h2, h4]
  · funext a j
    simp only [al, n_R_R, n_R_N, h3, h4]
  · simp only [al, n_n_R, n_n_N, h4]
  · simp only [al, n_w_R, n_w_N, h5]
  · simp only [al, n_T_R, n_T_N, h6]
  · intro a ha
    funext j
    simp only [al, n_I_R, n_I_N, h4, h7 a ha]
  · intro a ha
    funext j
    simp only [al, n_J_R, n_J_N, h4, h8 a ha]
theorem IvS_al (hv : IvS B σ) (hn : B + 80 ≤ gn σ) : IvS B (al B r σ) := by
  obtain ⟨h1, h2⟩ := hv
  refine ⟨?_, ?_⟩
  · intro o ho
    rw [al_K (by omega), al_N (by omega)]
    exact h1 o ho
  · intro e he
    have lt : ∀ e ∈ rT, e.1 < 80 ∧ (e.1 = 45 → e.2.1 ≠ 5) := by decide
    obtain ⟨l1, l2⟩ := lt e he
    by_cases c : e.1 = 45
    · have := h2 e he
      rw [c] at this ⊢
      rw [al_R2 (by omega) (l2 c)]
      exact this
    · rw [al_R (by omega) (by omega)]
      exact h2 e he
end
section
variable {LS : (Nat → Int32) → (Nat → Int32) → Nat → (Nat → Int32) → Nat → (Nat → Int32) → Nat → (Nat → Int32) → (Nat → Int32) → Nat → Prop} {CV : Nat → (Nat → Int32) → (Nat → Nat → Int32) → Prop} {MV : (Nat → Int32) → Int32 → (Nat → Int32) → (Nat → Int32) → (Nat → Int32) → Prop}
theorem fr_Lawx {own own' : Nat → Nat} {p t : Nat} {σ τ : gS} {A A' : Nat → Int32} (ho : ∀ a, own a = 1 → own' a = 1) (hK : ∀ a, own a = 1 → gK τ a = gK σ a) (hN : ∀ a, own a = 1 → gN τ a = gN σ a) (hR : ∀ a, own a = 1 → gR τ a = gR σ a) (hr : ∀ a, own a = 1 → gI τ a = gI σ a) (h : ∀ j, 256 ≤ j → A' j = A j) (w : LawR LS own p σ A t) : LawR LS own' p τ A' t := by
  obtain ⟨⟨w1, w2, w3, w4⟩, w5, w6⟩ := w
  refine ⟨⟨ho _ w1, ho _ w2, ho _ w3, ho _ w4⟩, by rw [hK p w1, hK _ w2, hK _ w3, hK _ w4, hR p w1]; exact w5, ?_⟩
  rw [hN _ w2, hN _ w3, hN _ w4, hr p w1, hr _ w2, hr _ w3, hr _ w4, an_c (h _ (by omega))]
  have e1 : (fun j => A' (262 + 400 * t + j)) = fun j => A (262 + 400 * t + j) := funext fun j => h _ (by omega)
  have e2 : (fun j => A' (2662 + 400 * t + j)) = fun j => A (2662 + 400 * t + j) := funext fun j => h _ (by omega)
  rw [e1, e2]
  exact w6
theorem fr_Lwx {own own' : Nat → Nat} {t : Nat} {σ τ : gS} {A A' : Nat → Int32} (ho : ∀ a, own a = 1 → own' a = 1) (hK : ∀ a, own a = 1 → gK τ a = gK σ a) (hN : ∀ a, own a = 1 → gN τ a = gN σ a) (hR : ∀ a, own a = 1 → gR τ a = gR σ a) (hR7 : gR τ (t + 7) = gR σ (t + 7)) (hr : ∀ a, own a = 1 → gI τ a = gI σ a) (h1 : A' 254 = A 254) (h : ∀ j, 256 ≤ j → A' j = A j) (w : LwR LS own t σ A) : LwR LS own' t τ A' := by
  obtain ⟨w, w0⟩ := w
  refine ⟨?_, ?_⟩
  · intro i hi
    rw [an_c h1] at hi
    obtain ⟨p, w1, w2⟩ := w i hi
    exact ⟨p, by rw [hR7]; exact w1, fr_Lawx ho hK hN hR hr h w2⟩
  · intro i hi hi6
    rw [an_c h1] at hi
    rw [hR7]
    exact w0 i hi hi6
theorem fr_I4x {own own' : Nat → Nat} {t : Nat} {σ τ : gS} {A : Nat → Int32} (ho : ∀ a, own a = 1 → own' a = 1) (hK : ∀ a, own a = 1 → gK τ a = gK σ a) (hN : ∀ a, own a = 1 → gN τ a = gN σ a) (hR : ∀ a, own a = 1 → gR τ a = gR σ a) (hR7 : gR τ (t + 7) = gR σ (t + 7)) (hr : ∀ o, o < 17 → gI τ (t + o) = gI σ (t + o)) (hl : ∀ a, own a = 1 → gI τ a = gI σ a) (w : I4 LS own t σ A) : I4 LS own' t τ A := by
  obtain ⟨⟨a1, a2, a3, a4, a5⟩, ⟨b1, b2, b3, b4, b5⟩, c⟩ := w
  have e0 := hr 0 (by omega)
  rw [Nat.add_zero] at e0
  have hh := hn_le a1
  exact ⟨⟨a1, a2, a3, a4, a5⟩, ⟨fr_Th (by rw [e0]; exact ⟨rfl, rfl⟩) (fun o _ _ => hr o (by omega)) (fun _ _ => rfl) rfl hh b1, fr_Td (by rw [e0]) (hr 6 (by omega)) (fun _ _ _ => rfl) rfl hh b2, fr_Tt (by rw [e0]) (by rw [e0]) rfl rfl b3, fr_Tp (fun o _ _ => hr o (by omega)) (fun _ _ _ => rfl) rfl rfl rfl a4 b4, fr_Tl (by rw [e0]) (by rw [e0]) rfl rfl b5⟩, fr_Lwx ho hK hN hR hR7 hl rfl (fun _ _ => rfl) c⟩
theorem fr_I5x {B : Nat} {own own' : Nat → Nat} {σ τ : gS} (ho : ∀ a, own a ≠ 0 → own' a = own a) (hK : ∀ a, own a ≠ 0 → gK τ a = gK σ a) (hN : ∀ a, own a ≠ 0 → gN τ a = gN σ a) (hR : ∀ a, own a ≠ 0 → gR τ a = gR σ a) (h18 : gR τ (B + 18) = gR σ (B + 18)) (h57 : gI τ (B + 57) = gI σ (B + 57)) (h58 : gI τ (B + 58) = gI σ (B + 58)) (hl : ∀ a, own a ≠ 0 → own a ≠ 4 → gI τ a = gI σ a) (w : I5 LS B own σ) : I5 LS B own' τ := by
  intro i hi
  rw [h58, h57, h18]
  rcases w i hi with u | ⟨u1, t, u2, u3, u4, u5, u6⟩
  · exact Or.inl u
  · have o5 : ∀ o, o < 17 → own (t + o) ≠ 0 := fun o ho => by have := u5 o ho; omega
    have t0 : own t ≠ 0 := o5 0 (by omega)
    refine Or.inr ⟨u1, t, u2, ?_, ?_, ?_, fr_I4x (fun a ha => by rw [ho a (by omega)]; exact ha) (fun a ha => hK a (by omega)) (fun a ha => hN a (by omega)) (fun a ha => hR a (by omega)) (hR _ (o5 7 (by omega))) ?_ ?_ u6⟩
    · intro o ho'
      rw [hK _ (o5 o ho'), hN _ (o5 o ho')]
      exact u3 o ho'
    · simp only [TwF, hR t t0, hR _ (o5 8 (by omega)), hR _ (o5 11 (by omega)), hR _ (o5 14 (by omega))]
      exact u4
    · intro o ho'
      rw [ho _ (o5 o ho')]
      exact u5 o ho'
    · intro o ho'
      have := u5 o ho'
      exact hl _ (by omega) (by omega)
    · intro a ha
      exact hl _ (by omega) (by omega)
theorem fr_rows {B k : Nat} {σ τ : gS} (h : ∀ o, o < 80 → gI τ (B + o) = gI σ (B + o)) : (I3 B σ k → I3 B τ k) ∧ (I6 B σ → I6 B τ) ∧ (I7 B σ → I7 B τ) ∧ (I8 B σ → I8 B τ) ∧ (I9 CV B σ → I9 CV B τ) ∧ (I10 MV B σ → I10 MV B τ) := by
  have h0 : gI τ B = gI σ B := h 0 (by omega)
  have h1 := h 1 (by omega)
  have h54 := h 54 (by omega)
  refine ⟨?_, ?_, ?_, ?_, ?_, ?_⟩
  · rintro ⟨⟨c, c1, c2, c3⟩, v, v1, v2, v3⟩
    refine ⟨⟨c, by rw [h1]; exact c1, c2, ?_⟩, v, by rw [h54]; exact v1, v2, by rw [h54]; exact v3⟩
    intro i hi
    have := cO_in i hi
    rw [h _ (by omega)]
    exact c3 i hi
  · rintro ⟨q, q1, q2, q3, q4⟩
    exact ⟨q, q1, by rw [h0]; exact q2, by rw [h54]; exact q3, by rw [h 19 (by omega), h 60 (by omega)]; exact q4⟩
  · intro w
    simp only [I7] at w ⊢
    rw [h0, h54, h 24 (by omega), h 55 (by omega)]
    exact w
  · rintro ⟨q, q1, q2, q3, q4⟩
    exact ⟨q, q1, by rw [h 50 (by omega)]; exact q2, by rw [h54]; exact q3, by rw [h 52 (by omega), h 53 (by omega), h 78 (by omega), h 79 (by omega)]; exact q4⟩
  · intro w c hc z
    have := cO_in c hc
    rw [h _ (by omega), h1] at z
    rw [h 56 (by omega), cw_c (fun o h1 h2 => h o (by omega))]
    exact w c hc z
  · intro w z
    rw [h54] at z ⊢
    rw [h 56 (by omega), h 66 (by omega), h 67 (by omega), h 68 (by omega)]
    exact w z
theorem pw_mono {s q : Nat} (h : s * 2 ^ s < q * 2 ^ q) : 2 * (s * 2 ^ s) ≤ q * 2 ^ q := by
  have hlt : s < q := by
    by_cases c : s < q
    · exact c
    · have := Nat.mul_le_mul (show q ≤ s by omega) (Nat.pow_le_pow_right (n := 2) (by decide) (show q ≤ s by omega))
      omega
  obtain ⟨t, rfl⟩ : ∃ t, q = t + 1 := ⟨q - 1, by omega⟩
  have h1 := Nat.mul_le_mul (show s ≤ t by omega) (Nat.pow_le_pow_right (n := 2) (by decide) (show s ≤ t by omega))
  have h2 : (t + 1) * 2 ^ (t + 1) = 2 * (t * 2 ^ t) + 2 * 2 ^ t := by
    rw [Nat.pow_succ, Nat.add_mul, Nat.one_mul]
    have : t * (2 ^ t * 2) = 2 * (t * 2 ^ t) := by
      rw [← Nat.mul_assoc, Nat.mul_comm]
    omega
  omega
theorem Inv_al {G : gG} {σ : gS} {k q l0 : Nat} (hI : Inv LS CV MV G σ k) (hgn : gn σ + 1 ≤ gB G + 100 + 60 * k) (h0 : gR σ (gB G + 45) 5 = some l0) (hq : q ≤ 11) (hlt : gN σ l0 < q * 2 ^ q) : Inv LS CV MV G (al (gB G) (q * 2 ^ q) σ) k := by
  obtain ⟨own, i1, i2, i3, i4, i5, i6, i7, i8, i9, i10, i11⟩ := hI
  have n80 : gB G + 80 ≤ gn σ := i1.2.2.2.2.2.2.1
  have hb : gb G < gB G := i1.2.2.2.2.2.1
  have og : ∀ a, own a ≠ 0 → a ≠ gn σ ∧ a ≠ gB G + 45 := fun a ha => by
    have := i2.1 a ha
    omega
  have rows : ∀ o, o < 80 → gI (al (gB G) (q * 2 ^ q) σ) (gB G + o) = gI σ (gB G + o) := fun o ho => al_I (by omega)
  obtain ⟨r3, r6, r7, r8, r9, r10⟩ := fr_rows (CV := CV) (MV := MV) (k := k) rows
  obtain ⟨n1, n2, n3⟩ := al_n (B := gB G) (r := q * 2 ^ q) (σ := σ)
  have ho : ∀ a, own a ≠ 0 → (fun a => if a = gn σ then 4 else own a) a = own a := fun a ha => if_neg (og a ha).1
  refine ⟨fun a => if a = gn σ then 4 else own a, ?_, ?_, r3 i3, ?_, ?_, r6 i6, r7 i7, r8 i8, r9 i9, r10 i10, ?_⟩
  · obtain ⟨w1, w2, w3, w4, w5, w6, w7, w8⟩ := i1
    exact ⟨IvS_al w1 n80, by rw [n3]; exact w2, by rw [al_K (by omega)]; exact w3, by rw [al_N (by omega)]; exact w4, by rw [al_I (by omega)]; exact w5, w6, by rw [n1]; omega, by rw [n1]; exact hgn⟩
  · obtain ⟨w1, l, s, w2, w3, w4, w5, w6, w7⟩ := i2
    refine ⟨?_, gn σ, q, al_R5, al_l.1, al_l.2, hq, Or.inr (if_pos rfl), ?_⟩
    · intro a ha
      rw [n1]
      by_cases c : a = gn σ
      · omega
      · have ha : own a ≠ 0 := by
          simp only [if_neg c] at ha
          exact ha
        have := w1 a ha
        omega
    · rw [n2]
      rw [h0] at w2
      have e : l0 = l := by simpa using w2
      rw [e, w4] at hlt
      have := pw_mono hlt
      omega
  · rw [rows 56 (by omega)]
    refine fr_I4x (fun a ha => ?_) (fun a ha => al_K (og a (by omega)).1) (fun a ha => al_N (og a (by omega)).1) (fun a ha => al_R (og a (by omega)).1 (og a (by omega)).2) (al_R (by omega) (by omega)) (fun o ho => al_I (by omega)) (fun a ha => al_I (og a (by omega)).1) i4
    exact (ho a (by omega)).trans ha
  · exact fr_I5x ho (fun a ha => al_K (og a ha).1) (fun a ha => al_N (og a ha).1) (fun a ha => al_R (og a ha).1 (og a ha).2) (al_R (by omega) (by omega)) (rows 57 (by omega)) (rows 58 (by omega)) (fun a ha _ => al_I (og a ha).1) i5
  · obtain ⟨z1, z2, z3, z4⟩ := i11
    refine ⟨by rw [rows 54 (by omega)]; exact z1, by rw [rows 54 (by omega)]; exact z2, by rw [rows 59 (by omega)]; exact z3, ?_⟩
    obtain ⟨y1, y2, y3⟩ := z4
    refine ⟨by rw [n3]; exact y1, by rw [n3]; exact y2, ?_⟩
    rw [n3]
    intro j hj
    have := y3 j hj
    exact ⟨this.1, by rw [al_K (by omega)]; exact this.2⟩
end
section
variable {CV : Nat → (Nat → Int32) → (Nat → Nat → Int32) → Prop} {G : gG} {σ : gS} {k : Nat}
/-- a question that may write the rounds' own array too -/
theorem Inv_qr2 {σ1 σ2 : gS} {cc : Nat} (hk : k ≤ 512) (hI : Inv LSx CV MVx G σ k) (hS1 : Sm (fun a => gB G + 25 ≤ a ∧ a < gB G + 50 ∨ gR σ (gB G + 45) 5 = some a) σ σ1) (hCa : Ca CV (gB G) (gI σ (gB G + 56)) σ1 cc) (hS2 : Sm (fun a => a = gB G + 54 ∨ gB G + 61 ≤ a ∧ a < gB G + 78) σ1 σ2)
    (hf : ∀ j, j = 0 ∨ j = 1 ∨ j = 6 ∨ j = 10 ∨ j = 11 ∨ j = 30 ∨ j = 32 ∨ j = 48 → gI σ2 (gB G + 54) j = gI σ (gB G + 54) j)
    (hm : (gI σ2 (gB G + 54) 28 = gI σ (gB G + 54) 28 ∧ gI σ2 (gB G + 54) 29 = gI σ (gB G + 54) 29 ∧ gI σ2 (gB G + 66) = gI σ (gB G + 66) ∧ gI σ2 (gB G + 67) = gI σ (gB G + 67) ∧ gI σ2 (gB G + 68) = gI σ (gB G + 68)) ∨ (gI σ2 (gB G + 54) 28 = gI σ (gB G + 54) 1 ∧ MVx (gI σ (gB G + 56)) (gI σ2 (gB G + 54) 29) (gI σ2 (gB G + 66)) (gI σ2 (gB G + 67)) (gI σ2 (gB G + 68)))) : Inv LSx CV MVx G σ2 k := by
  obtain ⟨own, i1, i2, i3, i4, i5, i6, i7, i8, i9, i10, i11⟩ := hI
  have hl5 : ∀ a, gR σ (gB G + 45) 5 = some a → a = gB G + 49 ∨ own a = 4 ∧ gB G + 80 ≤ a := by
    intro a ha
    obtain ⟨w1, l, s, w2, w3, w4, w5, w6, w7⟩ := i2
    rw [w2] at ha
    have e : l = a := by simpa using ha
    rcases w6 with w6 | w6
    · exact Or.inl (by omega)
    · have := w1 l (by omega)
      rw [← e]
      exact Or.inr ⟨w6, by omega⟩
  have e0 : ∀ a, (a < gB G + 25 ∨ gB G + 50 ≤ a ∧ a < gB G + 80 ∨ own a ≠ 0 ∧ own a ≠ 4) → gI σ1 a = gI σ a := by
    intro a ha
    refine hS1.2.2.2.2.2.2.1 a ?_
    rintro (z | z)
    · rcases ha with ha | ha | ha
      · omega
      · omega
      · have := i2.1 a ha.1
        omega
    · rcases hl5 a z with y | ⟨y1, y2⟩
      · rcases ha with ha | ha | ha
        · omega
        · omega
        · have := i2.1 a ha.1
          omega
      · rcases ha with ha | ha | ha
        · omega
        · omega
        · omega
  have eC : ∀ a, ¬ (a = gB G + 54 ∨ gB G + 61 ≤ a ∧ a < gB G + 78) → gI σ2 a = gI σ1 a := fun a h2 => hS2.2.2.2.2.2.2.1 a h2
  have e1 : ∀ a, (a < gB G + 25 ∨ gB G + 50 ≤ a ∧ a < gB G + 80) → ¬ (a = gB G + 54 ∨ gB G + 61 ≤ a ∧ a < gB G + 78) → gI σ2 a = gI σ a := fun a h1 h2 => (eC a h2).trans (e0 a (by omega))
  have hK : gK σ2 = gK σ := hS2.1.trans hS1.1
  have hN : gN σ2 = gN σ := hS2.2.1.trans hS1.2.1
  have hR : gR σ2 = gR σ := hS2.2.2.1.trans hS1.2.2.1
  have hnn : gn σ2 = gn σ := hS2.2.2.2.1.trans hS1.2.2.2.1
  have hw : gw σ2 = gw σ := hS2.2.2.2.2.1.trans hS1.2.2.2.2.1
  have hT : gT σ2 = gT σ := hS2.2.2.2.2.2.1.trans hS1.2.2.2.2.2.1
  have hb := i1.2.2.2.2.2.1
  have hl : ∀ a, own a ≠ 0 → own a ≠ 4 → gI σ2 a = gI σ a := fun a ha h4 => (eC a (by have := i2.1 a ha; omega)).trans (e0 a (Or.inr (Or.inr ⟨ha, h4⟩)))
  have e56 : gI σ2 (gB G + 56) = gI σ (gB G + 56) := e1 _ (by omega) (by omega)
  have e17 : gI σ2 (gB G + 1) = gI σ (gB G + 1) := e1 _ (by omega) (by omega)
  refine ⟨own, ?_, ?_, ?_, ?_, fr_I5 hK hN hR (e1 _ (by omega) (by omega)) (e1 _ (by omega) (by omega)) hl i5, ?_, ?_, ?_, ?_, ?_, ?_⟩
  · obtain ⟨w1, w2, w3, w4, w5, w6, w7, w8⟩ := i1
    exact ⟨fr_IvS hK hN hR w1, hT.trans w2, by rw [hK]; exact w3, by rw [hN]; exact w4, (e1 _ (by omega) (by omega)).trans w5, w6, by rw [hnn]; exact w7, by rw [hnn]; exact w8⟩
  · obtain ⟨w1, l, s, w2, w3, w4, w5, w6, w7⟩ := i2
    exact ⟨by rw [hnn]; exact w1, l, s, by rw [hR]; exact w2, by rw [hK]; exact w3, by rw [hN]; exact w4, w5, w6, by rw [hw]; exact w7⟩
  · obtain ⟨⟨c, c1, c2, c3⟩, v, v1, v2, v3⟩ := i3
    refine ⟨⟨c, by rw [e17]; exact c1, by omega, ?_⟩, v, by rw [hf 1 (by omega)]; exact v1, by omega, ?_⟩
    · have ec : cc = c := by
        have := hCa.1
        rw [e0 (gB G + 1) (by omega), c1] at this
        have := hCa.2.1
        rw [nI_eq (by omega) (by omega)] at *
        omega
      intro i hi
      have := cO_in i hi
      have h3 := (hCa.2.2 i hi).1
      rw [eC _ (by omega)]
      rw [ec] at h3
      exact h3
    · rcases hm with ⟨m1, _⟩ | ⟨m1, _⟩
      · rw [m1]; exact v3
      · rw [m1, v1]; exact Or.inr ⟨v, rfl, Nat.le_refl _⟩
  · rw [e56]
    refine fr_I4 hK hN hR ?_ (fun a ha => hl a (by omega) (by omega)) i4
    intro o ho
    exact e1 _ (by omega) (by omega)
  · obtain ⟨q, q1, q2, q3, q4⟩ := i6
    exact ⟨q, q1, by rw [e1 (gB G) (by omega) (by omega)]; exact q2, by rw [hf 10 (by omega)]; exact q3, by rw [e1 (gB G + 19) (by omega) (by omega), e1 (gB G + 60) (by omega) (by omega)]; exact q4⟩
  · simp only [I7] at i7 ⊢
    rw [e1 (gB G) (by omega) (by omega), e1 (gB G + 24) (by omega) (by omega), e1 (gB G + 55) (by omega) (by omega), hf 11 (by omega), hf 6 (by omega), hf 0 (by omega)]
    exact i7
  · obtain ⟨q, q1, q2, q3, q4⟩ := i8
    exact ⟨q, q1, by rw [e1 (gB G + 50) (by omega) (by omega)]; exact q2, by rw [hf 48 (by omega)]; exact q3, by rw [e1 (gB G + 52) (by omega) (by omega), e1 (gB G + 53) (by omega) (by omega), e1 (gB G + 78) (by omega) (by omega), e1 (gB G + 79) (by omega) (by omega)]; exact q4⟩
  · intro c hc z
    have := cO_in c hc
    rw [e17, eC _ (by omega)] at z
    have h17 := hCa.1
    rw [e0 (gB G + 1) (by omega)] at h17
    rw [h17] at z
    have := (hCa.2.2 c hc).2 z
    rw [e56, cw_c (fun o h1 h2 => eC _ (by omega))]
    exact this
  · intro z
    rw [e56]
    rcases hm with ⟨m1, m2, m3, m4, m5⟩ | ⟨m1, m2⟩
    · rw [m2, m3, m4, m5]
      exact i10 (by rw [← m1, z, hf 1 (by omega)])
    · exact m2
  · obtain ⟨z1, z2, z3, z4⟩ := i11
    exact ⟨(hf 30 (by omega)).trans z1, (hf 32 (by omega)).trans z2, by rw [e1 (gB G + 59) (by omega) (by omega)]; exact z3, fr_I12 hK hT z4⟩
end
