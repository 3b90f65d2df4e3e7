/-! what stays -/
theorem an_c {A A' : Nat → Int32} {k : Nat} (h : A' k = A k) : an A' k = an A k := by simp only [an, h]
theorem hn_c {A A' : Nat → Int32} (h : A' 250 = A 250) : hn A' = hn A := an_c h
theorem fr_Wh {A A' : Nat → Int32} (h : ∀ j, j < 72 → A' j = A j) (h1 : A' 250 = A 250) (w : Wh A) : Wh A' := by
  obtain ⟨⟨n, w1, w2⟩, w3, w4⟩ := w
  have e : hn A = n := by simp only [hn, an, w1]; exact nI_clamp (by omega)
  refine ⟨⟨n, h1.trans w1, w2⟩, ?_, ?_⟩
  · intro a ha
    rw [hn_c h1] at ha
    have ha' : a < 12 := by omega
    obtain ⟨x, y, w, d, r, s, u⟩ := w3 a ha
    exact ⟨x, y, w, d, r, s, by rw [h _ (by omega), h _ (by omega), h _ (by omega), h _ (by omega), h _ (by omega), h _ (by omega)]; exact u⟩
  · intro a b ha hb hab
    rw [hn_c h1] at ha hb
    have := w4 a b ha hb hab
    rw [an_c (h _ (by omega)), an_c (h _ (by omega)), an_c (h _ (by omega)), an_c (h _ (by omega)), an_c (h _ (by omega)), an_c (h _ (by omega)), an_c (h _ (by omega)), an_c (h _ (by omega))]
    exact this
theorem Dr_c {A A' : Nat → Int32} {a b : Nat} (h : A' (72 + 12 * a + b) = A (72 + 12 * a + b)) : Dr A' a b = Dr A a b := by simp only [Dr, h]
theorem drc_c {A A' : Nat → Int32} {a b : Nat} (h : ∀ j, j < b → Dr A' a j = Dr A a j) : drc A' a b = drc A a b := by
  induction b with
  | zero => rfl
  | succ b ih =>
    simp only [drc]
    rw [ih (fun j hj => h j (by omega)), h b (by omega)]
theorem dcs_c {A A' : Nat → Int32} {n : Nat} (h : ∀ a b, a < n → b < a → Dr A' a b = Dr A a b) : dcs A' n = dcs A n := by
  induction n with
  | zero => rfl
  | succ n ih =>
    simp only [dcs]
    rw [ih (fun a b ha hb => h a b (by omega) hb), drc_c (fun j hj => h n j (by omega) hj)]
theorem dc_c {A A' : Nat → Int32} (h : ∀ a b, a < hn A → b < a → Dr A' a b = Dr A a b) (h1 : hn A' = hn A) : dc A' = dc A := by
  simp only [dc, h1]
  exact dcs_c h
theorem fr_Wd {A A' : Nat → Int32} (h : ∀ j, 72 ≤ j → j < 216 → A' j = A j) (h1 : A' 250 = A 250) (h2 : hn A ≤ 12) (w : Wd A) : Wd A' := by
  obtain ⟨w1, w2⟩ := w
  refine ⟨?_, ?_⟩
  · intro a b ha hb
    rw [h _ (by omega) (by omega), h _ (by omega) (by omega), hn_c h1]
    exact w1 a b ha hb
  · rw [dc_c (fun a b ha hb => Dr_c (h _ (by omega) (by omega))) (hn_c h1)]
    exact w2
theorem fr_Wt {A A' : Nat → Int32} (h : A' 248 = A 248) (h1 : A' 249 = A 249) (w : Wt A) : Wt A' := by
  simp only [Wt, h, h1]
  exact w
theorem an_le {A : Nat → Int32} {k m : Nat} (h : ∃ n : Nat, A k = nI n ∧ n ≤ m) (hm : m < 2147483648) : an A k ≤ m ∧ A k = nI (an A k) := by
  obtain ⟨n, h1, h2⟩ := h
  have : an A k = n := by simp only [an, h1]; exact nI_clamp (by omega)
  rw [this]
  exact ⟨h2, h1⟩
theorem fr_Wp {A A' : Nat → Int32} (h : ∀ j, 216 ≤ j → j < 248 → A' j = A j) (h1 : A' 251 = A 251) (h2 : A' 252 = A 252) (h3 : A' 253 = A 253) (h4 : hn A ≤ hn A') (w : Wp A) : Wp A' := by
  obtain ⟨w1, w2, w3, w4, w5, w6⟩ := w
  have q1 := (an_le w1 (by omega)).1
  have q2 := (an_le w2 (by omega)).1
  have q3 := (an_le w3 (by omega)).1
  refine ⟨by rw [h1]; exact w1, by rw [h2]; exact w2, by rw [h3]; exact w3, ?_, ?_, ?_⟩
  · intro k hk
    rw [an_c h1] at hk
    obtain ⟨f, t, u1, u2, u3, u4⟩ := w4 k hk
    exact ⟨f, t, by rw [h _ (by omega) (by omega)]; exact u1, by rw [h _ (by omega) (by omega)]; exact u2, by omega, by omega⟩
  · intro k hk
    rw [an_c h2] at hk
    obtain ⟨f, t, u1, u2, u3, u4⟩ := w5 k hk
    exact ⟨f, t, by rw [h _ (by omega) (by omega)]; exact u1, by rw [h _ (by omega) (by omega)]; exact u2, by omega, by omega⟩
  · intro k hk
    rw [an_c h3] at hk
    obtain ⟨f, u1, u3⟩ := w6 k hk
    exact ⟨f, by rw [h _ (by omega) (by omega)]; exact u1, by omega⟩
theorem fr_Wl {A A' : Nat → Int32} (h : ∀ j, 254 ≤ j → j < 262 → A' j = A j) (w : Wl A) : Wl A' := by
  obtain ⟨w1, w2, w3⟩ := w
  have q1 := (an_le w1 (by omega)).1
  refine ⟨by rw [h _ (by omega) (by omega)]; exact w1, by rw [h 255 (by omega) (by omega), an_c (h 254 (by omega) (by omega))]; exact w2, ?_⟩
  intro t ht
  rw [an_c (h 254 (by omega) (by omega))] at ht
  rw [h _ (by omega) (by omega)]
  exact w3 t ht
/-- the town's rows, by the row kept -/
theorem fr_Th {t : Nat} {σ τ : gS} {A A' : Nat → Int32} (hf : gI τ t 5 = gI σ t 5 ∧ gI τ t 6 = gI σ t 6) (hr : ∀ o, 1 ≤ o → o ≤ 5 → gI τ (t + o) = gI σ (t + o)) (h : ∀ j, j < 72 → A' j = A j) (h1 : A' 250 = A 250) (h2 : hn A ≤ 12) (w : Th t σ A) : Th t τ A' := by
  obtain ⟨w1, w2, w3⟩ := w
  refine ⟨by rw [hf.1, h1]; exact w1, ?_, ?_⟩
  · rw [hf.2, hn_c h1, w2]
    congr 1
    refine mk_c ?_
    intro j hj
    simp only [St, h (6 * j + 5) (by omega)]
  · intro a ha
    rw [hn_c h1] at ha
    rw [hr 1 (by omega) (by omega), hr 2 (by omega) (by omega), hr 3 (by omega) (by omega), hr 4 (by omega) (by omega), hr 5 (by omega) (by omega), h _ (by omega), h _ (by omega), h _ (by omega), h _ (by omega), h _ (by omega)]
    exact w3 a ha
theorem fr_Td {t : Nat} {σ τ : gS} {A A' : Nat → Int32} (hf : gI τ t 8 = gI σ t 8) (hr : gI τ (t + 6) = gI σ (t + 6)) (h : ∀ j, 72 ≤ j → j < 216 → A' j = A j) (h1 : A' 250 = A 250) (h2 : hn A ≤ 12) (w : Td t σ A) : Td t τ A' := by
  obtain ⟨w1, w2⟩ := w
  refine ⟨?_, ?_⟩
  · rw [hf, dc_c (fun a b ha hb => Dr_c (h _ (by omega) (by omega))) (hn_c h1)]
    exact w1
  · intro a ha
    rw [hn_c h1] at ha
    rw [hr, w2 a ha]
    congr 1
    exact mk_c (fun j hj => (Dr_c (h _ (by omega) (by omega))).symm)
theorem fr_Tt {t : Nat} {σ τ : gS} {A A' : Nat → Int32} (hf : gI τ t 12 = gI σ t 12) (hg : gI τ t 13 = gI σ t 13) (h : A' 248 = A 248) (h1 : A' 249 = A 249) (w : Tt t σ A) : Tt t τ A' := by
  simp only [Tt, hf, hg, h, h1]
  exact w
theorem fr_Tp {t : Nat} {σ τ : gS} {A A' : Nat → Int32} (hr : ∀ o, 8 ≤ o → o < 17 → gI τ (t + o) = gI σ (t + o)) (h : ∀ j, 216 ≤ j → j < 248 → A' j = A j) (h1 : A' 251 = A 251) (h2 : A' 252 = A 252) (h3 : A' 253 = A 253) (v : Wp A) (w : Tp t σ A) : Tp t τ A' := by
  obtain ⟨⟨w1, w2⟩, ⟨w3, w4⟩, w5, w6⟩ := w
  have q1 := (an_le v.1 (by omega)).1
  have q2 := (an_le v.2.1 (by omega)).1
  have q3 := (an_le v.2.2.1 (by omega)).1
  refine ⟨⟨by rw [hr 8 (by omega) (by omega), h1]; exact w1, ?_⟩, ⟨by rw [hr 11 (by omega) (by omega), h2]; exact w3, ?_⟩, by rw [hr 14 (by omega) (by omega), h3]; exact w5, ?_⟩
  · intro k hk
    rw [an_c h1] at hk
    rw [hr 9 (by omega) (by omega), hr 10 (by omega) (by omega), h _ (by omega) (by omega), h _ (by omega) (by omega)]
    exact w2 k hk
  · intro k hk
    rw [an_c h2] at hk
    rw [hr 12 (by omega) (by omega), hr 13 (by omega) (by omega), h _ (by omega) (by omega), h _ (by omega) (by omega)]
    exact w4 k hk
  · intro k hk
    rw [an_c h3] at hk
    rw [hr 15 (by omega) (by omega), hr 16 (by omega) (by omega), h _ (by omega) (by omega), h _ (by omega) (by omega)]
    exact w6 k hk
theorem fr_Tl {t : Nat} {σ τ : gS} {A A' : Nat → Int32} (hf : gI τ t 10 = gI σ t 10) (hg : gI τ t 11 = gI σ t 11) (h : A' 254 = A 254) (h1 : A' 255 = A 255) (w : Tl t σ A) : Tl t τ A' := by
  simp only [Tl, hf, hg, h, h1]
  exact w
section
variable {LS : (Nat → Int32) → (Nat → Int32) → Nat → (Nat → Int32) → Nat → (Nat → Int32) → Nat → (Nat → Int32) → (Nat → Int32) → Nat → Prop} {CV : Nat → (Nat → Int32) → (Nat → Nat → Int32) → Prop} {MV : (Nat → Int32) → Int32 → (Nat → Int32) → (Nat → Int32) → (Nat → Int32) → Prop}
theorem fr_Law {own : Nat → Nat} {p : Nat} {σ τ : gS} {A A' : Nat → Int32} {t : Nat} (hK : gK τ = gK σ) (hN : gN τ = gN σ) (hR : ∀ a, own a = 1 → gR τ a = gR σ a) (hr : ∀ a, own a = 1 → gI τ a = gI σ a) (h : ∀ j, 256 ≤ j → A' j = A j) (w : LawR LS own p σ A t) : LawR LS own p τ A' t := by
  obtain ⟨⟨w1, w2, w3, w4⟩, w5, w6⟩ := w
  refine ⟨⟨w1, w2, w3, w4⟩, by rw [hK, hR p w1]; exact w5, ?_⟩
  rw [hN, hr p w1, hr _ w2, hr _ w3, hr _ w4, an_c (h _ (by omega))]
  have e1 : (fun j => A' (262 + 400 * t + j)) = fun j => A (262 + 400 * t + j) := funext fun j => h _ (by omega)
  have e2 : (fun j => A' (2662 + 400 * t + j)) = fun j => A (2662 + 400 * t + j) := funext fun j => h _ (by omega)
  rw [e1, e2]
  exact w6
theorem fr_Lw {own : Nat → Nat} {t : Nat} {σ τ : gS} {A A' : Nat → Int32} (hK : gK τ = gK σ) (hN : gN τ = gN σ) (hR : ∀ a, own a = 1 → gR τ a = gR σ a) (hR7 : gR τ (t + 7) = gR σ (t + 7)) (hr : ∀ a, own a = 1 → gI τ a = gI σ a) (h1 : A' 254 = A 254) (h : ∀ j, 256 ≤ j → A' j = A j) (w : LwR LS own t σ A) : LwR LS own t τ A' := by
  obtain ⟨w, w0⟩ := w
  refine ⟨?_, ?_⟩
  · intro i hi
    rw [an_c h1] at hi
    obtain ⟨p, w1, w2⟩ := w i hi
    exact ⟨p, by rw [hR7]; exact w1, fr_Law hK hN hR hr h w2⟩
  · intro i hi hi6
    rw [an_c h1] at hi
    rw [hR7]
    exact w0 i hi hi6
theorem hn_le {A : Nat → Int32} (w : Wh A) : hn A ≤ 12 := (an_le w.1 (by omega)).1
theorem hn_eq {A : Nat → Int32} (w : Wh A) : A 250 = nI (hn A) := (an_le w.1 (by omega)).2
theorem fr_I4 {own : Nat → Nat} {t : Nat} {σ τ : gS} {A : Nat → Int32} (hK : gK τ = gK σ) (hN : gN τ = gN σ) (hR : gR τ = gR σ) (hr : ∀ o, o < 17 → gI τ (t + o) = gI σ (t + o)) (hl : ∀ a, own a = 1 → gI τ a = gI σ a) (w : I4 LS own t σ A) : I4 LS own t τ A := by
  obtain ⟨⟨a1, a2, a3, a4, a5⟩, ⟨b1, b2, b3, b4, b5⟩, c⟩ := w
  have e0 := hr 0 (by omega)
  rw [Nat.add_zero] at e0
  have hh := hn_le a1
  exact ⟨⟨a1, a2, a3, a4, a5⟩, ⟨fr_Th (by rw [e0]; exact ⟨rfl, rfl⟩) (fun o _ _ => hr o (by omega)) (fun _ _ => rfl) rfl hh b1, fr_Td (by rw [e0]) (hr 6 (by omega)) (fun _ _ _ => rfl) rfl hh b2, fr_Tt (by rw [e0]) (by rw [e0]) rfl rfl b3, fr_Tp (fun o _ _ => hr o (by omega)) (fun _ _ _ => rfl) rfl rfl rfl a4 b4, fr_Tl (by rw [e0]) (by rw [e0]) rfl rfl b5⟩, fr_Lw hK hN (fun a _ => by rw [hR]) (by rw [hR]) hl rfl (fun _ _ => rfl) c⟩
theorem fr_IvS {B : Nat} {σ τ : gS} (hK : gK τ = gK σ) (hN : gN τ = gN σ) (hR : gR τ = gR σ) (w : IvS B σ) : IvS B τ := by
  simp only [IvS, hK, hN, hR]
  exact w
theorem fr_I5 {B : Nat} {own : Nat → Nat} {σ τ : gS} (hK : gK τ = gK σ) (hN : gN τ = gN σ) (hR : gR τ = gR σ) (h57 : gI τ (B + 57) = gI σ (B + 57)) (h58 : gI τ (B + 58) = gI σ (B + 58)) (hl : ∀ a, own a ≠ 0 → own a ≠ 4 → gI τ a = gI σ a) (w : I5 LS B own σ) : I5 LS B own τ := by
  intro i hi
  rw [h58, h57, hR]
  rcases w i hi with u | ⟨u1, t, u2, u3, u4, u5, u6⟩
  · exact Or.inl u
  · refine Or.inr ⟨u1, t, u2, ?_, ?_, u5, fr_I4 hK hN hR ?_ ?_ u6⟩
    · simp only [TwS, hK, hN]; exact u3
    · simp only [TwF, hR]; exact u4
    · intro o ho
      have := u5 o ho
      exact hl _ (by omega) (by omega)
    · intro a ha
      exact hl _ (by omega) (by omega)
theorem fr_I1 {G : gG} {σ τ : gS} {k : Nat} (hS : Sm (fun a => gB G ≤ a) σ τ) (w : I1 G σ k) : I1 G τ (k + 1) := by
  obtain ⟨h1, h2, h3, h4, h5, h6, h7, h8⟩ := hS
  obtain ⟨w1, w2, w3, w4, w5, w6, w7, w8⟩ := w
  exact ⟨fr_IvS h1 h2 h3 w1, h6.trans w2, by rw [h1]; exact w3, by rw [h2]; exact w4, (h7 _ (by omega)).trans w5, w6, by rw [h4]; exact w7, by rw [h4]; omega⟩
theorem fr_I2 {B : Nat} {own : Nat → Nat} {σ τ : gS} {k : Nat} (hK : gK τ = gK σ) (hN : gN τ = gN σ) (hR : gR τ = gR σ) (hn : gn τ = gn σ) (hw : gw τ = gw σ) (w : I2 B own σ k) : I2 B own τ (k + 1) := by
  obtain ⟨w1, l, s, w2, w3, w4, w5, w6, w7⟩ := w
  exact ⟨by rw [hn]; exact w1, l, s, by rw [hR]; exact w2, by rw [hK]; exact w3, by rw [hN]; exact w4, w5, w6, by rw [hw]; omega⟩
theorem fr_I12 {B : Nat} {σ τ : gS} (hK : gK τ = gK σ) (hT : gT τ = gT σ) (w : I12 B σ) : I12 B τ := by
  simp only [I12, hK, hT]
  exact w
theorem cw_c {B : Nat} {σ τ : gS} (h : ∀ o, 25 ≤ o → o < 54 → gI τ (B + o) = gI σ (B + o)) : cw B τ = cw B σ := by
  funext o
  simp only [cw]
  by_cases ho : o < 29
  · have := h (25 + o) (by omega) (by omega)
    rw [if_pos ho, if_pos ho, Nat.add_assoc, this]
  · rw [if_neg ho, if_neg ho]
theorem cO_in : ∀ i, i < 6 → 25 ≤ cO i ∧ cO i < 54 := by decide
/-- a step that changes none of what later calls ask of the state but refusals -/
theorem Inv_same6 {G : gG} {σ τ : gS} {k : Nat} (hS : Sm (fun a => gB G ≤ a ∧ a < gB G + 80) σ τ) (hI : Inv LS CV MV G σ k)
    (hr : ∀ o, 1 ≤ o → o < 80 → o ≠ 19 → o ≠ 24 → o ≠ 54 → o ≠ 55 → (o < 60 ∨ 66 ≤ o ∧ o < 69 ∨ 78 ≤ o) → gI τ (gB G + o) = gI σ (gB G + o)) (h6 : I6 (gB G) σ → I6 (gB G) τ) (hm : ∀ j, j = 28 ∨ j = 29 ∨ j = 30 ∨ j = 32 ∨ j = 48 → gI τ (gB G + 54) j = gI σ (gB G + 54) j)
    (hv : gI τ (gB G + 54) 1 = gI σ (gB G + 54) 1 ∨ gI τ (gB G + 54) 1 = gI σ (gB G + 54) 1 + nI 1) (h7 : I7 (gB G) σ → I7 (gB G) τ) (hk : k < 512) : Inv LS CV MV G τ (k + 1) := by
  obtain ⟨own, i1, i2, i3, i4, i5, i6, i7, i8, i9, i10, i11⟩ := hI
  have hS' := hS
  obtain ⟨s1, s2, s3, s4, s5, s6, s7, s8⟩ := hS'
  have hl : ∀ a, own a ≠ 0 → gI τ a = gI σ a := fun a ha => s7 a (by have := i2.1 a ha; omega)
  have e56 := hr 56 (by omega) (by omega) (by omega) (by omega) (by omega) (by omega) (by omega)
  refine ⟨own, fr_I1 (Sm_mono hS (fun a ha => ha.1)) i1, fr_I2 s1 s2 s3 s4 s5 i2, ?_, ?_, fr_I5 s1 s2 s3 (hr 57 (by omega) (by omega) (by omega) (by omega) (by omega) (by omega) (by omega)) (hr 58 (by omega) (by omega) (by omega) (by omega) (by omega) (by omega) (by omega)) (fun a ha _ => hl a ha) i5, ?_, h7 i7, ?_, ?_, ?_, ?_⟩
  · obtain ⟨⟨c, c1, c2, c3⟩, v, v1, v2, v3⟩ := i3
    refine ⟨⟨c, by rw [hr 1 (by omega) (by omega) (by omega) (by omega) (by omega) (by omega) (by omega)]; exact c1, by omega, ?_⟩, ?_⟩
    · intro i hi
      have := cO_in i hi
      rw [hr (cO i) (by omega) (by omega) (by omega) (by omega) (by omega) (by omega) (by omega)]
      exact c3 i hi
    · rw [hm 28 (by omega)]
      rcases hv with hv | hv
      · exact ⟨v, hv.trans v1, by omega, v3⟩
      · refine ⟨v + 1, by rw [hv, v1, nI_add], by omega, ?_⟩
        rcases v3 with v3 | ⟨a, v3, v4⟩
        · exact Or.inl v3
        · exact Or.inr ⟨a, v3, by omega⟩
  · rw [e56]
    refine fr_I4 s1 s2 s3 ?_ (fun a ha => hl a (by omega)) i4
    intro o ho
    rw [Nat.add_assoc]
    exact hr (1 + o) (by omega) (by omega) (by omega) (by omega) (by omega) (by omega) (by omega)
  · exact h6 i6
  · obtain ⟨q, q1, q2, q3, q4⟩ := i8
    exact ⟨q, q1, by rw [hr 50 (by omega) (by omega) (by omega) (by omega) (by omega) (by omega) (by omega)]; exact q2, by rw [hm 48 (by omega)]; exact q3, by rw [hr 52 (by omega) (by omega) (by omega) (by omega) (by omega) (by omega) (by omega), hr 53 (by omega) (by omega) (by omega) (by omega) (by omega) (by omega) (by omega), hr 78 (by omega) (by omega) (by omega) (by omega) (by omega) (by omega) (by omega), hr 79 (by omega) (by omega) (by omega) (by omega) (by omega) (by omega) (by omega)]; exact q4⟩
  · intro c hc
    have := cO_in c hc
    rw [hr (cO c) (by omega) (by omega) (by omega) (by omega) (by omega) (by omega) (by omega), hr 1 (by omega) (by omega) (by omega) (by omega) (by omega) (by omega) (by omega), e56, cw_c (fun o h1 h2 => hr o (by omega) (by omega) (by omega) (by omega) (by omega) (by omega) (by omega))]
    exact i9 c hc
  · intro z
    rw [hm 29 (by omega), e56, hr 66 (by omega) (by omega) (by omega) (by omega) (by omega) (by omega) (by omega), hr 67 (by omega) (by omega) (by omega) (by omega) (by omega) (by omega) (by omega), hr 68 (by omega) (by omega) (by omega) (by omega) (by omega) (by omega) (by omega)]
    rw [hm 28 (by omega)] at z
    rcases hv with hv | hv
    · exact i10 (z.trans hv)
    · exfalso
      obtain ⟨_, v, v1, v2, v3⟩ := i3
      rw [hv, v1, nI_add] at z
      rcases v3 with v3 | ⟨a, v3, v4⟩
      · rw [v3] at z
        exact ng_ne 1 (v + 1) (by omega) (by omega) (by omega) z
      · rw [v3, nI_eq (by omega) (by omega)] at z
        omega
  · obtain ⟨z1, z2, z3⟩ := i11
    exact ⟨(hm 30 (by omega)).trans z1, (hm 32 (by omega)).trans z2, by rw [hr 59 (by omega) (by omega) (by omega) (by omega) (by omega) (by omega) (by omega)]; exact z3.1, fr_I12 s1 s6 z3.2⟩
/-- a step that changes none of what later calls ask of the state but refusals -/
theorem Inv_same {G : gG} {σ τ : gS} {k : Nat} (hS : Sm (fun a => gB G ≤ a ∧ a < gB G + 80) σ τ) (hI : Inv LS CV MV G σ k)
    (hr : ∀ o, 1 ≤ o → o < 80 → o ≠ 24 → o ≠ 54 → o ≠ 55 → (o < 60 ∨ 66 ≤ o ∧ o < 69 ∨ 78 ≤ o) → gI τ (gB G + o) = gI σ (gB G + o)) (h60 : gI τ (gB G + 60) = gI σ (gB G + 60))
    (hb : gI τ (gB G) 3 = gI σ (gB G) 3) (hm : ∀ j, j = 10 ∨ j = 28 ∨ j = 29 ∨ j = 30 ∨ j = 32 ∨ j = 48 → gI τ (gB G + 54) j = gI σ (gB G + 54) j)
    (hv : gI τ (gB G + 54) 1 = gI σ (gB G + 54) 1 ∨ gI τ (gB G + 54) 1 = gI σ (gB G + 54) 1 + nI 1) (h7 : I7 (gB G) σ → I7 (gB G) τ) (hk : k < 512) : Inv LS CV MV G τ (k + 1) := by
  refine Inv_same6 hS hI (fun o h1 h2 _ h3 h4 h5 h6 => hr o h1 h2 h3 h4 h5 h6) ?_ (fun j hj => hm j (by omega)) hv h7 hk
  rintro ⟨q, q1, q2, q3, q4⟩
  exact ⟨q, q1, by rw [hb]; exact q2, by rw [hm 10 (by omega)]; exact q3, by rw [hr 19 (by omega) (by omega) (by omega) (by omega) (by omega) (by omega), h60]; exact q4⟩
/-- a step that changes the row kept -/
theorem Inv_A {G : gG} {σ τ : gS} {k : Nat} (hS : Sm (fun a => gB G ≤ a ∧ a < gB G + 80) σ τ) (hI : Inv LS CV MV G σ k)
    (hr : ∀ o, (25 ≤ o ∧ o < 54 ∨ 57 ≤ o ∧ o < 60 ∨ 78 ≤ o ∧ o < 80) → gI τ (gB G + o) = gI σ (gB G + o))
    (h6 : I6 (gB G) σ → I6 (gB G) τ) (hm : ∀ j, j = 28 ∨ j = 30 ∨ j = 32 ∨ j = 48 → gI τ (gB G + 54) j = gI σ (gB G + 54) j)
    (hc : ∃ e : Nat, 0 < e ∧ e ≤ 100 ∧ gI τ (gB G + 1) 17 = gI σ (gB G + 1) 17 + nI e) (hv : gI τ (gB G + 54) 1 = gI σ (gB G + 54) 1 + nI 1) (h7 : I7 (gB G) σ → I7 (gB G) τ)
    (h4 : ∀ own : Nat → Nat, (∀ a, own a ≠ 0 → gI τ a = gI σ a) → I4 LS own (gB G + 1) σ (gI σ (gB G + 56)) → I4 LS own (gB G + 1) τ (gI τ (gB G + 56))) (hk : k < 512) : Inv LS CV MV G τ (k + 1) := by
  obtain ⟨own, i1, i2, i3, i4, i5, i6, i7, i8, i9, i10, i11⟩ := hI
  have hS' := hS
  obtain ⟨s1, s2, s3, s4, s5, s6, s7, s8⟩ := hS'
  have hl : ∀ a, own a ≠ 0 → gI τ a = gI σ a := fun a ha => s7 a (by have := i2.1 a ha; omega)
  obtain ⟨e, e0, e1, e2⟩ := hc
  refine ⟨own, fr_I1 (Sm_mono hS (fun a ha => ha.1)) i1, fr_I2 s1 s2 s3 s4 s5 i2, ?_, h4 own hl i4, fr_I5 s1 s2 s3 (hr 57 (by omega)) (hr 58 (by omega)) (fun a ha _ => hl a ha) i5, h6 i6, h7 i7, ?_, ?_, ?_, ?_⟩
  · obtain ⟨⟨c, c1, c2, c3⟩, v, v1, v2, v3⟩ := i3
    refine ⟨⟨c + e, by rw [e2, c1, nI_add], by omega, ?_⟩, ?_⟩
    · intro i hi
      have := cO_in i hi
      rw [hr (cO i) (by omega)]
      rcases c3 i hi with z | ⟨a, z1, z2⟩
      · exact Or.inl z
      · exact Or.inr ⟨a, z1, by omega⟩
    · rw [hm 28 (by omega)]
      refine ⟨v + 1, by rw [hv, v1, nI_add], by omega, ?_⟩
      rcases v3 with v3 | ⟨a, v3, v4⟩
      · exact Or.inl v3
      · exact Or.inr ⟨a, v3, by omega⟩
  · obtain ⟨q, q1, q2, q3, q4⟩ := i8
    exact ⟨q, q1, by rw [hr 50 (by omega)]; exact q2, by rw [hm 48 (by omega)]; exact q3, by rw [hr 52 (by omega), hr 53 (by omega), hr 78 (by omega), hr 79 (by omega)]; exact q4⟩
  · intro i hi z
    exfalso
    obtain ⟨⟨c, c1, c2, c3⟩, _⟩ := i3
    have := cO_in i hi
    rw [hr (cO i) (by omega), e2, c1, nI_add] at z
    rcases c3 i hi with y | ⟨a, y1, y2⟩
    · rw [y] at z
      exact ng_ne 1 (c + e) (by omega) (by omega) (by omega) z
    · rw [y1, nI_eq (by omega) (by omega)] at z
      omega
  · intro z
    exfalso
    obtain ⟨_, v, v1, v2, v3⟩ := i3
    rw [hm 28 (by omega), hv, v1, nI_add] at z
    rcases v3 with v3 | ⟨a, v3, v4⟩
    · rw [v3] at z
      exact ng_ne 1 (v + 1) (by omega) (by omega) (by omega) z
    · rw [v3, nI_eq (by omega) (by omega)] at z
      omega
  · obtain ⟨z1, z2, z3⟩ := i11
    exact ⟨(hm 30 (by omega)).trans z1, (hm 32 (by omega)).trans z2, by rw [hr 59 (by omega)]; exact z3.1, fr_I12 s1 s6 z3.2⟩
theorem Inv_up {G : gG} {σ : gS} {k : Nat} (hI : Inv LS CV MV G σ k) : Inv LS CV MV G σ (k + 1) := by
  obtain ⟨own, i1, i2, i3, i4, i5, i6, i7, i8, i9, i10, i11⟩ := hI
  refine ⟨own, fr_I1 (Sm_refl _ _) i1, fr_I2 rfl rfl rfl rfl rfl i2, ?_, i4, i5, i6, i7, i8, i9, i10, i11⟩
  obtain ⟨⟨c, c1, c2, c3⟩, v, v1, v2, v3⟩ := i3
  exact ⟨⟨c, c1, by omega, c3⟩, v, v1, by omega, v3⟩
theorem Inv_Sh {G : gG} {σ : gS} {k : Nat} (hI : Inv LS CV MV G σ k) : IvS (gB G) σ := by
  obtain ⟨own, i1, _⟩ := hI
  exact i1.1
theorem Inv_b {G : gG} {σ : gS} {k : Nat} (hI : Inv LS CV MV G σ k) : gb G < gB G := by
  obtain ⟨own, i1, _⟩ := hI
  exact i1.2.2.2.2.2.1
theorem Inv_i4 {G : gG} {σ : gS} {k : Nat} (hI : Inv LS CV MV G σ k) : ∃ own, I4 LS own (gB G + 1) σ (gI σ (gB G + 56)) := by
  obtain ⟨own, i1, i2, i3, i4, _⟩ := hI
  exact ⟨own, i4⟩
theorem Inv_i7 {G : gG} {σ : gS} {k : Nat} (hI : Inv LS CV MV G σ k) : I7 (gB G) σ := by
  obtain ⟨own, i1, i2, i3, i4, i5, i6, i7, _⟩ := hI
  exact i7
theorem Inv_i6 {G : gG} {σ : gS} {k : Nat} (hI : Inv LS CV MV G σ k) : I6 (gB G) σ := by
  obtain ⟨own, i1, i2, i3, i4, i5, i6, i7, _⟩ := hI
  exact i6
theorem Inv_i8 {G : gG} {σ : gS} {k : Nat} (hI : Inv LS CV MV G σ k) : I8 (gB G) σ := by
  obtain ⟨own, i1, i2, i3, i4, i5, i6, i7, i8, _⟩ := hI
  exact i8
theorem Inv_h {G : gG} {σ : gS} {k : Nat} (hI : Inv LS CV MV G σ k) : gK σ (gb G) = 26 ∧ gN σ (gb G) = gLn G ∧ gK σ (gB G) = 12 := by
  obtain ⟨own, i1, _⟩ := hI
  exact ⟨i1.2.2.1, i1.2.2.2.1, sk_0 i1.1⟩
theorem Inv_q {G : gG} {σ : gS} {k : Nat} (hI : Inv LS CV MV G σ k) (hk : k ≤ 512) : gn σ ≤ gB G + 600000 ∧ gw σ ≤ 7302250 := by
  obtain ⟨own, i1, ⟨_, l, s, _, _, _, h1, _, h2⟩, _⟩ := hI
  have h3 := i1.2.2.2.2.2.2.2
  have h4 : s * 2 ^ s ≤ 11 * 2 ^ 11 := Nat.mul_le_mul h1 (Nat.pow_le_pow_right (by decide) h1)
  have h5 : 11 * 2 ^ 11 = 22528 := by decide
  omega
theorem len0 {as : List Int32} (h : as.length = 0) : as = [] := List.eq_nil_of_length_eq_zero h
theorem len1 {as : List Int32} (h : as.length = 1) : ∃ a, as = [a] := by
  match as, h with
  | [a], _ => exact ⟨a, rfl⟩
theorem len2 {as : List Int32} (h : as.length = 2) : ∃ a b, as = [a, b] := by
  match as, h with
  | [a, b], _ => exact ⟨a, b, rfl⟩
theorem len3 {as : List Int32} (h : as.length = 3) : ∃ a b c, as = [a, b, c] := by
  match as, h with
  | [a, b, c], _ => exact ⟨a, b, c, rfl⟩
theorem len5 {as : List Int32} (h : as.length = 5) : ∃ a b c d e, as = [a, b, c, d, e] := by
  match as, h with
  | [a, b, c, d, e], _ => exact ⟨a, b, c, d, e, rfl⟩
theorem gSc_r (b : Nat) (σ : gS) : gSc b σ σ ↔ True := by simp only [gSc, and_self]
theorem gSc_I {b a k : Nat} {σ τ : gS} {v : Int32} (h : b ≠ a) : gSc b σ (sI τ a k v) ↔ gSc b σ τ := by
  simp only [gSc, n_K_I, n_N_I, rI_ne h]
theorem gSc_S {b : Nat} {P : Nat → Prop} {σ τ : gS} (h : Sm P σ τ) (hb : ¬ P b) : gSc b σ τ := by
  obtain ⟨h1, h2, h3, h4, h5, h6, h7, h8⟩ := h
  exact ⟨by rw [h1], by rw [h2], h7 b hb⟩
end
