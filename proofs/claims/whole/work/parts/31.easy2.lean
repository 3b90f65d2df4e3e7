/-! obligations that change the row kept -/
section
variable {LS : (Nat → Int32) → (Nat → Int32) → Nat → (Nat → Int32) → Nat → (Nat → Int32) → Nat → (Nat → Int32) → (Nat → Int32) → Nat → Prop} {CV : Nat → (Nat → Int32) → (Nat → Nat → Int32) → Prop} {MV : (Nat → Int32) → Int32 → (Nat → Int32) → (Nat → Int32) → (Nat → Int32) → Prop}
theorem I4_h {own : Nat → Nat} {t : Nat} {σ τ : gS} {A A' : Nat → Int32} (hK : gK τ = gK σ) (hN : gN τ = gN σ) (hR : gR τ = gR σ) (hl : ∀ a, own a ≠ 0 → gI τ a = gI σ a) (hf : ∀ j, j = 8 ∨ j = 10 ∨ j = 11 ∨ j = 12 ∨ j = 13 → gI τ t j = gI σ t j) (hr : ∀ o, 6 ≤ o → o < 17 → gI τ (t + o) = gI σ (t + o)) (hA : ∀ j, 72 ≤ j → A' j = A j) (w : I4 LS own t σ A) (h1 : Wh A') (h2 : Th t τ A') : I4 LS own t τ A' := by
  obtain ⟨⟨a1, a2, a3, a4, a5⟩, ⟨b1, b2, b3, b4, b5⟩, c⟩ := w
  have hh := hn_le a1
  have e := hA 250 (by omega)
  exact ⟨⟨h1, fr_Wd (fun j _ _ => hA j (by omega)) e hh a2, fr_Wt (hA _ (by omega)) (hA _ (by omega)) a3, fr_Wp (fun j _ _ => hA j (by omega)) (hA _ (by omega)) (hA _ (by omega)) (hA _ (by omega)) (by rw [hn_c e]; exact Nat.le_refl _) a4, fr_Wl (fun j _ _ => hA j (by omega)) a5⟩,
    ⟨h2, fr_Td (hf 8 (by omega)) (hr 6 (by omega) (by omega)) (fun j _ _ => hA j (by omega)) e hh b2, fr_Tt (hf 12 (by omega)) (hf 13 (by omega)) (hA _ (by omega)) (hA _ (by omega)) b3, fr_Tp (fun o _ _ => hr o (by omega) (by omega)) (fun j _ _ => hA j (by omega)) (hA _ (by omega)) (hA _ (by omega)) (hA _ (by omega)) a4 b4, fr_Tl (hf 10 (by omega)) (hf 11 (by omega)) (hA _ (by omega)) (hA _ (by omega)) b5⟩,
    fr_Lw hK hN (fun a _ => by rw [hR]) (by rw [hR]) (fun a ha => hl a (by omega)) (hA _ (by omega)) (fun j _ => hA j (by omega)) c⟩
theorem I4_d {own : Nat → Nat} {t : Nat} {σ τ : gS} {A A' : Nat → Int32} (hK : gK τ = gK σ) (hN : gN τ = gN σ) (hR : gR τ = gR σ) (hl : ∀ a, own a ≠ 0 → gI τ a = gI σ a) (hf : ∀ j, j = 5 ∨ j = 6 ∨ j = 10 ∨ j = 11 ∨ j = 12 ∨ j = 13 → gI τ t j = gI σ t j) (hr : ∀ o, 1 ≤ o → o ≠ 6 → o < 17 → gI τ (t + o) = gI σ (t + o)) (hA : ∀ j, (j < 72 ∨ 216 ≤ j) → A' j = A j) (w : I4 LS own t σ A) (h1 : Wd A') (h2 : Td t τ A') : I4 LS own t τ A' := by
  obtain ⟨⟨a1, a2, a3, a4, a5⟩, ⟨b1, b2, b3, b4, b5⟩, c⟩ := w
  have hh := hn_le a1
  have e := hA 250 (by omega)
  exact ⟨⟨fr_Wh (fun j _ => hA j (by omega)) e a1, h1, fr_Wt (hA _ (by omega)) (hA _ (by omega)) a3, fr_Wp (fun j _ _ => hA j (by omega)) (hA _ (by omega)) (hA _ (by omega)) (hA _ (by omega)) (by rw [hn_c e]; exact Nat.le_refl _) a4, fr_Wl (fun j _ _ => hA j (by omega)) a5⟩,
    ⟨fr_Th ⟨hf 5 (by omega), hf 6 (by omega)⟩ (fun o _ _ => hr o (by omega) (by omega) (by omega)) (fun j _ => hA j (by omega)) e hh b1, h2, fr_Tt (hf 12 (by omega)) (hf 13 (by omega)) (hA _ (by omega)) (hA _ (by omega)) b3, fr_Tp (fun o _ _ => hr o (by omega) (by omega) (by omega)) (fun j _ _ => hA j (by omega)) (hA _ (by omega)) (hA _ (by omega)) (hA _ (by omega)) a4 b4, fr_Tl (hf 10 (by omega)) (hf 11 (by omega)) (hA _ (by omega)) (hA _ (by omega)) b5⟩,
    fr_Lw hK hN (fun a _ => by rw [hR]) (by rw [hR]) (fun a ha => hl a (by omega)) (hA _ (by omega)) (fun j _ => hA j (by omega)) c⟩
theorem I4_t {own : Nat → Nat} {t : Nat} {σ τ : gS} {A A' : Nat → Int32} (hK : gK τ = gK σ) (hN : gN τ = gN σ) (hR : gR τ = gR σ) (hl : ∀ a, own a ≠ 0 → gI τ a = gI σ a) (hf : ∀ j, j = 5 ∨ j = 6 ∨ j = 8 ∨ j = 10 ∨ j = 11 → gI τ t j = gI σ t j) (hr : ∀ o, 1 ≤ o → o < 17 → gI τ (t + o) = gI σ (t + o)) (hA : ∀ j, j ≠ 248 → j ≠ 249 → A' j = A j) (w : I4 LS own t σ A) (h1 : Wt A') (h2 : Tt t τ A') : I4 LS own t τ A' := by
  obtain ⟨⟨a1, a2, a3, a4, a5⟩, ⟨b1, b2, b3, b4, b5⟩, c⟩ := w
  have hh := hn_le a1
  have e := hA 250 (by omega) (by omega)
  exact ⟨⟨fr_Wh (fun j _ => hA j (by omega) (by omega)) e a1, fr_Wd (fun j _ _ => hA j (by omega) (by omega)) e hh a2, h1, fr_Wp (fun j _ _ => hA j (by omega) (by omega)) (hA _ (by omega) (by omega)) (hA _ (by omega) (by omega)) (hA _ (by omega) (by omega)) (by rw [hn_c e]; exact Nat.le_refl _) a4, fr_Wl (fun j _ _ => hA j (by omega) (by omega)) a5⟩,
    ⟨fr_Th ⟨hf 5 (by omega), hf 6 (by omega)⟩ (fun o _ _ => hr o (by omega) (by omega)) (fun j _ => hA j (by omega) (by omega)) e hh b1, fr_Td (hf 8 (by omega)) (hr 6 (by omega) (by omega)) (fun j _ _ => hA j (by omega) (by omega)) e hh b2, h2, fr_Tp (fun o _ _ => hr o (by omega) (by omega)) (fun j _ _ => hA j (by omega) (by omega)) (hA _ (by omega) (by omega)) (hA _ (by omega) (by omega)) (hA _ (by omega) (by omega)) a4 b4, fr_Tl (hf 10 (by omega)) (hf 11 (by omega)) (hA _ (by omega) (by omega)) (hA _ (by omega) (by omega)) b5⟩,
    fr_Lw hK hN (fun a _ => by rw [hR]) (by rw [hR]) (fun a ha => hl a (by omega)) (hA _ (by omega) (by omega)) (fun j _ => hA j (by omega) (by omega)) c⟩
theorem I4_p {own : Nat → Nat} {t : Nat} {σ τ : gS} {A A' : Nat → Int32} (hK : gK τ = gK σ) (hN : gN τ = gN σ) (hR : gR τ = gR σ) (hl : ∀ a, own a ≠ 0 → gI τ a = gI σ a) (hf : ∀ j, j < 14 → gI τ t j = gI σ t j) (hr : ∀ o, 1 ≤ o → o < 8 → gI τ (t + o) = gI σ (t + o)) (hA : ∀ j, (j < 216 ∨ 248 ≤ j) → j ≠ 251 → j ≠ 252 → j ≠ 253 → A' j = A j) (w : I4 LS own t σ A) (h1 : Wp A') (h2 : Tp t τ A') : I4 LS own t τ A' := by
  obtain ⟨⟨a1, a2, a3, a4, a5⟩, ⟨b1, b2, b3, b4, b5⟩, c⟩ := w
  have hh := hn_le a1
  have e := hA 250 (by omega) (by omega) (by omega) (by omega)
  exact ⟨⟨fr_Wh (fun j _ => hA j (by omega) (by omega) (by omega) (by omega)) e a1, fr_Wd (fun j _ _ => hA j (by omega) (by omega) (by omega) (by omega)) e hh a2, fr_Wt (hA _ (by omega) (by omega) (by omega) (by omega)) (hA _ (by omega) (by omega) (by omega) (by omega)) a3, h1, fr_Wl (fun j _ _ => hA j (by omega) (by omega) (by omega) (by omega)) a5⟩,
    ⟨fr_Th ⟨hf 5 (by omega), hf 6 (by omega)⟩ (fun o _ _ => hr o (by omega) (by omega)) (fun j _ => hA j (by omega) (by omega) (by omega) (by omega)) e hh b1, fr_Td (hf 8 (by omega)) (hr 6 (by omega) (by omega)) (fun j _ _ => hA j (by omega) (by omega) (by omega) (by omega)) e hh b2, fr_Tt (hf 12 (by omega)) (hf 13 (by omega)) (hA _ (by omega) (by omega) (by omega) (by omega)) (hA _ (by omega) (by omega) (by omega) (by omega)) b3, h2, fr_Tl (hf 10 (by omega)) (hf 11 (by omega)) (hA _ (by omega) (by omega) (by omega) (by omega)) (hA _ (by omega) (by omega) (by omega) (by omega)) b5⟩,
    fr_Lw hK hN (fun a _ => by rw [hR]) (by rw [hR]) (fun a ha => hl a (by omega)) (hA _ (by omega) (by omega) (by omega) (by omega)) (fun j _ => hA j (by omega) (by omega) (by omega) (by omega)) c⟩
theorem I4_f {own : Nat → Nat} {t : Nat} {σ τ : gS} {A A' : Nat → Int32} (hK : gK τ = gK σ) (hN : gN τ = gN σ) (hR : gR τ = gR σ) (hl : ∀ a, own a ≠ 0 → gI τ a = gI σ a) (hf : ∀ j, j ≠ 11 → j ≠ 17 → gI τ t j = gI σ t j) (hr : ∀ o, 1 ≤ o → o < 17 → gI τ (t + o) = gI σ (t + o)) (hA : ∀ j, j ≠ 255 → A' j = A j) (w : I4 LS own t σ A) (h1 : A' 255 = -nI 1 ∨ ∃ f : Nat, A' 255 = nI f ∧ f < an A 254) (h2 : gI τ t 11 = A' 255) : I4 LS own t τ A' := by
  obtain ⟨⟨a1, a2, a3, a4, a5⟩, ⟨b1, b2, b3, b4, b5⟩, c⟩ := w
  have hh := hn_le a1
  have e := hA 250 (by omega)
  refine ⟨⟨fr_Wh (fun j _ => hA j (by omega)) e a1, fr_Wd (fun j _ _ => hA j (by omega)) e hh a2, fr_Wt (hA _ (by omega)) (hA _ (by omega)) a3, fr_Wp (fun j _ _ => hA j (by omega)) (hA _ (by omega)) (hA _ (by omega)) (hA _ (by omega)) (by rw [hn_c e]; exact Nat.le_refl _) a4, ?_⟩,
    ⟨fr_Th ⟨hf 5 (by omega) (by omega), hf 6 (by omega) (by omega)⟩ (fun o _ _ => hr o (by omega) (by omega)) (fun j _ => hA j (by omega)) e hh b1, fr_Td (hf 8 (by omega) (by omega)) (hr 6 (by omega) (by omega)) (fun j _ _ => hA j (by omega)) e hh b2, fr_Tt (hf 12 (by omega) (by omega)) (hf 13 (by omega) (by omega)) (hA _ (by omega)) (hA _ (by omega)) b3, fr_Tp (fun o _ _ => hr o (by omega) (by omega)) (fun j _ _ => hA j (by omega)) (hA _ (by omega)) (hA _ (by omega)) (hA _ (by omega)) a4 b4, ⟨by rw [hf 10 (by omega) (by omega), hA 254 (by omega)]; exact b5.1, h2⟩⟩,
    fr_Lw hK hN (fun a _ => by rw [hR]) (by rw [hR]) (fun a ha => hl a (by omega)) (hA _ (by omega)) (fun j _ => hA j (by omega)) c⟩
  obtain ⟨l1, l2, l3⟩ := a5
  have q := (an_le l1 (by omega)).1
  refine ⟨by rw [hA 254 (by omega)]; exact l1, by rw [an_c (hA 254 (by omega))]; exact h1, ?_⟩
  intro u hu
  rw [an_c (hA 254 (by omega))] at hu
  rw [hA _ (by omega)]
  exact l3 u hu
theorem Wh_rs {A A' : Nat → Int32} {h r s : Nat} (w : Wh A) (hh : h < hn A) (hr : r ≤ 9) (hs : s ≤ 1) (h4 : A' (6 * h + 4) = nI r) (h5 : A' (6 * h + 5) = nI s) (hA : ∀ j, j ≠ 6 * h + 4 → j ≠ 6 * h + 5 → A' j = A j) : Wh A' := by
  have h12 := hn_le w
  have e := hA 250 (by omega) (by omega)
  obtain ⟨w1, w2, w3⟩ := w
  refine ⟨by rw [e]; exact w1, ?_, ?_⟩
  · intro a ha
    rw [hn_c e] at ha
    obtain ⟨x, y, wd, d, r', s', u1, u2, u3, u4, u5, u6, u7⟩ := w2 a ha
    by_cases hah : a = h
    · subst hah
      exact ⟨x, y, wd, d, r, s, (hA _ (by omega) (by omega)).trans u1, (hA _ (by omega) (by omega)).trans u2, (hA _ (by omega) (by omega)).trans u3, (hA _ (by omega) (by omega)).trans u4, h4, h5, by omega⟩
    · exact ⟨x, y, wd, d, r', s', (hA _ (by omega) (by omega)).trans u1, (hA _ (by omega) (by omega)).trans u2, (hA _ (by omega) (by omega)).trans u3, (hA _ (by omega) (by omega)).trans u4, (hA _ (by omega) (by omega)).trans u5, (hA _ (by omega) (by omega)).trans u6, u7⟩
  · intro a b ha hb hab
    rw [hn_c e] at ha hb
    have := w3 a b ha hb hab
    rw [an_c (hA _ (by omega) (by omega)), an_c (hA _ (by omega) (by omega)), an_c (hA _ (by omega) (by omega)), an_c (hA _ (by omega) (by omega)), an_c (hA _ (by omega) (by omega)), an_c (hA _ (by omega) (by omega)), an_c (hA _ (by omega) (by omega)), an_c (hA _ (by omega) (by omega))]
    exact this
theorem Th_rank {t h r : Nat} {σ τ : gS} {A A' : Nat → Int32} (w : Th t σ A) (hh : hn A ≤ 12) (hf : ∀ j, j = 5 ∨ j = 6 → gI τ t j = gI σ t j) (hr : ∀ o, 1 ≤ o → o ≤ 4 → gI τ (t + o) = gI σ (t + o)) (h5 : gI τ (t + 5) h = nI r) (h5' : ∀ a, a ≠ h → gI τ (t + 5) a = gI σ (t + 5) a) (hA4 : A' (6 * h + 4) = nI r) (hA : ∀ j, j ≠ 6 * h + 4 → A' j = A j) (hlt : h < 12) : Th t τ A' := by
  obtain ⟨a1, a2, a3⟩ := w
  have e := hA 250 (by omega)
  refine ⟨by rw [hf 5 (by omega), e]; exact a1, ?_, ?_⟩
  · rw [hf 6 (by omega), a2, hn_c e]
    congr 1
    refine mk_c ?_
    intro j hj
    simp only [St, hA (6 * j + 5) (by omega)]
  · intro a ha
    rw [hn_c e] at ha
    obtain ⟨b1, b2, b3, b4, b5⟩ := a3 a ha
    rw [hr 1 (by omega) (by omega), hr 2 (by omega) (by omega), hr 3 (by omega) (by omega), hr 4 (by omega) (by omega), hA (6 * a) (by omega), hA (6 * a + 1) (by omega), hA (6 * a + 2) (by omega), hA (6 * a + 3) (by omega)]
    refine ⟨b1, b2, b3, b4, ?_⟩
    by_cases hah : a = h
    · subst hah; rw [h5, hA4]
    · rw [h5' a hah, hA _ (by omega)]; exact b5
theorem ob_rank {G : gG} : gOb (Inv LS CV MV G) (gb G) (gB G) (gB G + 54) 116 183 2 := by
  intro σ k as hl hk hI
  obtain ⟨p0, p1, rfl⟩ := len2 hl
  have hv := Inv_Sh hI
  have hb := Inv_b hI
  obtain ⟨own, ⟨w1, w2, w3, w4, w5⟩, ⟨t1, t2, t3, t4, t5⟩, lw⟩ := Inv_i4 hI
  have hn1 := hn_le w1
  have hn2 := hn_eq w1
  by_cases h1 : nI 0 ≤ p1 ∧ p1 ≤ nI 9
  · by_cases h0 : nI 0 ≤ p0 ∧ p0 < nI (hn (gI σ (gB G + 56)))
    · obtain ⟨h, hh, rfl⟩ := in_lt (by omega) h0
      obtain ⟨r, hr, rfl⟩ := in_nI (by omega) h1
      have hh2 : h < 12 := by omega
      obtain ⟨u1, u2, u3, u4, u5⟩ := t1.2.2 h hh
      have z : 6 * h + 4 < 5062 := by omega
      simp (disch := first | omega | (simp only [IvS_I, IvS_J, IvS_r]; assumption)) only [List.map_cons, List.map_nil, Value.int.injEq, gSc_r, gSc_I, n10, n01, Nat.not_lt_zero, ne_eq, Nat.add_zero, Nat.one_ne_zero, Nat.zero_ne_one, Nat.reduceEqDiff, bI_T, bI_F, bI_0, bI_1, bI_01, not_and_self, true_and, and_true, not_true_eq_false, not_false_eq_true, false_imp_iff, true_imp_iff, imp_self, gPv_n, gPv_i, gPv_r, gPv_0, Option.toList_some, Option.toList_none, List.singleton_append, List.cons_append, List.nil_append, List.length_nil, List.length_cons, Nat.zero_le, Nat.reduceAdd, Nat.reduceLeDiff, or_true, true_or, false_or, or_false, and_self, and_false, false_and, implies_true, Option.some.injEq, exists_eq_left', n_K_I, n_K_J, n_K_R, n_K_r, n_N_I, n_N_J, n_N_R, n_N_r, n_R_I, n_R_J, n_R_r, n_J_I, n_J_R, n_J_r, n_I_J, n_I_R, n_n_I, n_n_J, n_n_R, n_n_r, n_w_I, n_w_J, n_w_R, n_w_r, n_T_I, n_T_J, n_T_R, n_T_r, n_I_I, n_I_r, n_J_J, n_R_R, Nat.add_left_cancel_iff, Nat.add_right_cancel_iff, Nat.add_eq_left, Nat.left_eq_add, Nat.reduceEqDiff, Nat.reduceAdd, Nat.zero_ne_one, Nat.one_ne_zero, false_and, and_false, true_and, and_true, and_self, if_false, if_true, ↓reduceIte, c_116, e_116_0, e_116_1, e_116_2, e_116_4, e_116_7, e_116_10, e_116_11, e_116_12, e_116_15, e_116_16, e_116_17, e_116_20, e_116_21, e_116_24, e_116_27, e_116_28, e_116_30, e_116_33, e_116_34, e_116_35, e_116_38, e_116_41, e_116_42, e_116_43, e_116_44, e_116_45, e_116_48, e_116_51, e_116_52, e_116_53, e_116_54, e_116_55, e_116_58, e_116_58n, e_116_59, e_116_62, e_116_63, e_116_64, e_116_67, e_116_68, e_116_69, e_116_72, c_183, e_183_0, e_183_1, e_183_2, e_183_4, e_183_7, e_183_10, e_183_11, e_183_12, e_183_15, e_183_16, e_183_17, e_183_18, e_183_21, e_183_24, e_183_25, e_183_27, e_183_30, e_183_31, e_183_32, e_183_33, e_183_34, e_183_37, e_183_38, e_183_39, e_183_42, e_183_44, e_183_45, e_183_46, e_183_47, e_183_48, e_183_49, e_183_50, e_183_51, e_183_52, e_183_55, sk_0 hv, sr_0_0 hv, sr_0_1 hv, sr_0_2 hv, sr_0_4 hv, sr_0_7 hv, sr_0_9 hv, sr_0_10 hv, sr_0_11 hv, sr_0_12 hv, sr_0_13 hv, sr_0_14 hv, sk_1 hv, sr_1_0 hv, sr_1_1 hv, sr_1_2 hv, sr_1_3 hv, sr_1_4 hv, sr_1_7 hv, sr_1_9 hv, sr_1_14 hv, sr_1_15 hv, sr_1_16 hv, sk_6 hv, sn_6 hv, sk_54 hv, sr_54_2 hv, sr_54_3 hv, sr_54_4 hv, sr_54_5 hv, sr_54_7 hv, sr_54_8 hv, sr_54_9 hv, sr_54_12 hv, sr_54_13 hv, sr_54_14 hv, sr_54_22 hv, sr_54_25 hv, sr_54_26 hv, sr_54_27 hv, sr_54_34 hv, sr_54_35 hv, sr_54_36 hv, sr_54_37 hv, sr_54_38 hv, sr_54_40 hv, sr_54_43 hv, sr_54_44 hv, sr_54_45 hv, sr_54_46 hv, sr_54_47 hv, sk_56 hv, sn_56 hv, nL, nI_add, nI_mul, nI_clamp, nI_ltI, nI_leI, nI_eq, nI_pos, nI_pos', Nat.reduceAdd, Nat.reduceMul, Nat.reducePow, s_within, s_has (sk_1 hv), s_accept, t_good, t_isHouse, t_lies, t_factOf, t1.1, hn2, le_sub1, bI_t, hh2, u5, hr, hh, z]
      refine Inv_A (by repeat (first | exact Sm_refl _ _ | refine Sm_B ?_ (by decide) | refine Sm_B0 ?_)) hI (by intro o ho; simp (disch := omega) only [rI_ne]) (by intro h; simpa (disch := omega) only [I6, rI_ne, rI_nk] using h) (by intro j hj; simp (disch := omega) only [rI_ne, rI_nk]) ⟨1, by omega, by omega, by simp (disch := omega) only [rI_ne, rI_nk, rI_eq]⟩ (by simp (disch := omega) only [rI_ne, rI_nk, rI_eq]) (by intro h; simp only [I7] at h ⊢; simp (disch := omega) only [rI_ne, rI_nk, rI_eq, h, and_self]) ?_ hk
      intro own hl i4
      obtain ⟨x, y, w, d, r', s, v1, v2, v3, v4, v5, v6, v7⟩ := w1.2.1 h hh
      refine I4_h (by simp only [n_K_I]) (by simp only [n_N_I]) (by simp only [n_R_I]) hl (by intros; simp (disch := omega) only [rI_ne, rI_nk]) (by intros; simp (disch := omega) only [rI_ne, rI_nk]) (by intros; simp (disch := omega) only [rI_ne, rI_nk]) i4 ?_ ?_
      · refine Wh_rs (h := h) (r := r) (s := s) w1 hh hr (by omega) ?_ ?_ ?_
        · simp (disch := omega) only [rI_ne, rI_eq]
        · simp (disch := omega) only [rI_ne, rI_nk]; exact v6
        · intros; simp (disch := omega) only [rI_ne, rI_nk]
      · refine Th_rank (h := h) (r := r) i4.2.1.1 hn1 ?_ ?_ ?_ ?_ ?_ ?_ hh2
        · intros; simp (disch := omega) only [rI_ne, rI_nk]
        · intros; simp (disch := omega) only [rI_ne]
        · simp (disch := omega) only [Nat.add_assoc, Nat.reduceAdd, rI_ne, rI_eq]
        · intros; simp (disch := omega) only [Nat.add_assoc, Nat.reduceAdd, rI_ne, rI_nk]
        · simp (disch := omega) only [rI_ne, rI_eq]
        · intros; simp (disch := omega) only [rI_ne, rI_nk]
    · simp (disch := first | omega | (simp only [IvS_I, IvS_J, IvS_r]; assumption)) only [List.map_cons, List.map_nil, Value.int.injEq, gSc_r, gSc_I, n10, n01, Nat.not_lt_zero, ne_eq, Nat.add_zero, Nat.one_ne_zero, Nat.zero_ne_one, Nat.reduceEqDiff, bI_T, bI_F, bI_0, bI_1, bI_01, not_and_self, true_and, and_true, not_true_eq_false, not_false_eq_true, false_imp_iff, true_imp_iff, imp_self, gPv_n, gPv_i, gPv_r, gPv_0, Option.toList_some, Option.toList_none, List.singleton_append, List.cons_append, List.nil_append, List.length_nil, List.length_cons, Nat.zero_le, Nat.reduceAdd, Nat.reduceLeDiff, or_true, true_or, false_or, or_false, and_self, and_false, false_and, implies_true, Option.some.injEq, exists_eq_left', n_K_I, n_K_J, n_K_R, n_K_r, n_N_I, n_N_J, n_N_R, n_N_r, n_R_I, n_R_J, n_R_r, n_J_I, n_J_R, n_J_r, n_I_J, n_I_R, n_n_I, n_n_J, n_n_R, n_n_r, n_w_I, n_w_J, n_w_R, n_w_r, n_T_I, n_T_J, n_T_R, n_T_r, n_I_I, n_I_r, n_J_J, n_R_R, Nat.add_left_cancel_iff, Nat.add_right_cancel_iff, Nat.add_eq_left, Nat.left_eq_add, Nat.reduceEqDiff, Nat.reduceAdd, Nat.zero_ne_one, Nat.one_ne_zero, false_and, and_false, true_and, and_true, and_self, if_false, if_true, ↓reduceIte, c_116, e_116_0, e_116_1, e_116_2, e_116_4, e_116_7, e_116_10, e_116_11, e_116_12, e_116_15, e_116_16, e_116_17, e_116_20, e_116_21, e_116_24, e_116_27, e_116_28, e_116_30, e_116_33, e_116_34, e_116_35, e_116_38, e_116_41, e_116_42, e_116_43, e_116_44, e_116_45, e_116_48, e_116_51, e_116_52, e_116_53, e_116_54, e_116_55, e_116_58, e_116_58n, e_116_59, e_116_62, e_116_63, e_116_64, e_116_67, e_116_68, e_116_69, e_116_72, c_183, e_183_0, e_183_1, e_183_2, e_183_4, e_183_7, e_183_10, e_183_11, e_183_12, e_183_15, e_183_16, e_183_17, e_183_18, e_183_21, e_183_24, e_183_25, e_183_27, e_183_30, e_183_31, e_183_32, e_183_33, e_183_34, e_183_37, e_183_38, e_183_39, e_183_42, e_183_44, e_183_45, e_183_46, e_183_47, e_183_48, e_183_49, e_183_50, e_183_51, e_183_52, e_183_55, sk_0 hv, sr_0_0 hv, sr_0_1 hv, sr_0_2 hv, sr_0_4 hv, sr_0_7 hv, sr_0_9 hv, sr_0_10 hv, sr_0_11 hv, sr_0_12 hv, sr_0_13 hv, sr_0_14 hv, sk_1 hv, sr_1_0 hv, sr_1_1 hv, sr_1_2 hv, sr_1_3 hv, sr_1_4 hv, sr_1_7 hv, sr_1_9 hv, sr_1_14 hv, sr_1_15 hv, sr_1_16 hv, sk_6 hv, sn_6 hv, sk_54 hv, sr_54_2 hv, sr_54_3 hv, sr_54_4 hv, sr_54_5 hv, sr_54_7 hv, sr_54_8 hv, sr_54_9 hv, sr_54_12 hv, sr_54_13 hv, sr_54_14 hv, sr_54_22 hv, sr_54_25 hv, sr_54_26 hv, sr_54_27 hv, sr_54_34 hv, sr_54_35 hv, sr_54_36 hv, sr_54_37 hv, sr_54_38 hv, sr_54_40 hv, sr_54_43 hv, sr_54_44 hv, sr_54_45 hv, sr_54_46 hv, sr_54_47 hv, sk_56 hv, sn_56 hv, nL, s_within, s_has (sk_1 hv), s_refuse_2, t_refuses_2, t_isHouse, t_lies, t_factOf, t1.1, hn2, le_sub1, bI_t, h1, h0]
      exact Inv_ref_2 hk hI
  · simp (disch := first | omega | (simp only [IvS_I, IvS_J, IvS_r]; assumption)) only [List.map_cons, List.map_nil, Value.int.injEq, gSc_r, gSc_I, n10, n01, Nat.not_lt_zero, ne_eq, Nat.add_zero, Nat.one_ne_zero, Nat.zero_ne_one, Nat.reduceEqDiff, bI_T, bI_F, bI_0, bI_1, bI_01, not_and_self, true_and, and_true, not_true_eq_false, not_false_eq_true, false_imp_iff, true_imp_iff, imp_self, gPv_n, gPv_i, gPv_r, gPv_0, Option.toList_some, Option.toList_none, List.singleton_append, List.cons_append, List.nil_append, List.length_nil, List.length_cons, Nat.zero_le, Nat.reduceAdd, Nat.reduceLeDiff, or_true, true_or, false_or, or_false, and_self, and_false, false_and, implies_true, Option.some.injEq, exists_eq_left', n_K_I, n_K_J, n_K_R, n_K_r, n_N_I, n_N_J, n_N_R, n_N_r, n_R_I, n_R_J, n_R_r, n_J_I, n_J_R, n_J_r, n_I_J, n_I_R, n_n_I, n_n_J, n_n_R, n_n_r, n_w_I, n_w_J, n_w_R, n_w_r, n_T_I, n_T_J, n_T_R, n_T_r, n_I_I, n_I_r, n_J_J, n_R_R, Nat.add_left_cancel_iff, Nat.add_right_cancel_iff, Nat.add_eq_left, Nat.left_eq_add, Nat.reduceEqDiff, Nat.reduceAdd, Nat.zero_ne_one, Nat.one_ne_zero, false_and, and_false, true_and, and_true, and_self, if_false, if_true, ↓reduceIte, c_116, e_116_0, e_116_1, e_116_2, e_116_4, e_116_7, e_116_10, e_116_11, e_116_12, e_116_15, e_116_16, e_116_17, e_116_20, e_116_21, e_116_24, e_116_27, e_116_28, e_116_30, e_116_33, e_116_34, e_116_35, e_116_38, e_116_41, e_116_42, e_116_43, e_116_44, e_116_45, e_116_48, e_116_51, e_116_52, e_116_53, e_116_54, e_116_55, e_116_58, e_116_58n, e_116_59, e_116_62, e_116_63, e_116_64, e_116_67, e_116_68, e_116_69, e_116_72, c_183, e_183_0, e_183_1, e_183_2, e_183_4, e_183_7, e_183_10, e_183_11, e_183_12, e_183_15, e_183_16, e_183_17, e_183_18, e_183_21, e_183_24, e_183_25, e_183_27, e_183_30, e_183_31, e_183_32, e_183_33, e_183_34, e_183_37, e_183_38, e_183_39, e_183_42, e_183_44, e_183_45, e_183_46, e_183_47, e_183_48, e_183_49, e_183_50, e_183_51, e_183_52, e_183_55, sk_0 hv, sr_0_0 hv, sr_0_1 hv, sr_0_2 hv, sr_0_4 hv, sr_0_7 hv, sr_0_9 hv, sr_0_10 hv, sr_0_11 hv, sr_0_12 hv, sr_0_13 hv, sr_0_14 hv, sk_1 hv, sr_1_0 hv, sr_1_1 hv, sr_1_2 hv, sr_1_3 hv, sr_1_4 hv, sr_1_7 hv, sr_1_9 hv, sr_1_14 hv, sr_1_15 hv, sr_1_16 hv, sk_6 hv, sn_6 hv, sk_54 hv, sr_54_2 hv, sr_54_3 hv, sr_54_4 hv, sr_54_5 hv, sr_54_7 hv, sr_54_8 hv, sr_54_9 hv, sr_54_12 hv, sr_54_13 hv, sr_54_14 hv, sr_54_22 hv, sr_54_25 hv, sr_54_26 hv, sr_54_27 hv, sr_54_34 hv, sr_54_35 hv, sr_54_36 hv, sr_54_37 hv, sr_54_38 hv, sr_54_40 hv, sr_54_43 hv, sr_54_44 hv, sr_54_45 hv, sr_54_46 hv, sr_54_47 hv, sk_56 hv, sn_56 hv, nL, s_within, s_has (sk_1 hv), s_refuse_1, t_refuses_1, t_isHouse, t_lies, t_factOf, t1.1, hn2, le_sub1, bI_t, h1]
    exact Inv_ref_1 hk hI
theorem Th_stand {t h s : Nat} {σ τ : gS} {A A' : Nat → Int32} (w : Th t σ A) (hh : hn A ≤ 12) (hf : gI τ t 5 = gI σ t 5) (h6 : gI τ t 6 = (nI (mkN (St A) (hn A)) &&& (nI (2 ^ h) ^^^ -nI 1)) ||| nI (s * 2 ^ h)) (hr : ∀ o, 1 ≤ o → o ≤ 5 → gI τ (t + o) = gI σ (t + o)) (hA5 : A' (6 * h + 5) = nI s) (hA : ∀ j, j ≠ 6 * h + 5 → A' j = A j) (hlt : h < hn A) (hs : s ≤ 1) : Th t τ A' := by
  obtain ⟨a1, a2, a3⟩ := w
  have e := hA 250 (by omega)
  refine ⟨by rw [hf, e]; exact a1, ?_, ?_⟩
  · rw [h6, nI_ad, nI_or, hn_c e]
    congr 1
    refine Nat.eq_of_testBit_eq ?_
    intro j
    rw [Nat.testBit_or, tb_ad, tb_mk, tb_mk, Nat.testBit_two_pow]
    have hz : (s * 2 ^ h).testBit j = (decide (s = 1) && decide (h = j)) := by
      have : s = 0 ∨ s = 1 := by omega
      rcases this with rfl | rfl
      · simp
      · simp [Nat.testBit_two_pow]
    rw [hz]
    by_cases hj : h = j
    · subst hj
      have : s = 0 ∨ s = 1 := by omega
      rcases this with rfl | rfl
      · simp [St, hA5, hlt, nI_eq]
      · simp [St, hA5, hlt]
    · simp only [hj, decide_false, Bool.not_false, Bool.and_true, Bool.and_false, Bool.or_false, St]
      rw [hA (6 * j + 5) (by omega)]
  · intro a ha
    rw [hn_c e] at ha
    obtain ⟨b1, b2, b3, b4, b5⟩ := a3 a ha
    rw [hr 1 (by omega) (by omega), hr 2 (by omega) (by omega), hr 3 (by omega) (by omega), hr 4 (by omega) (by omega), hr 5 (by omega) (by omega), hA (6 * a) (by omega), hA (6 * a + 1) (by omega), hA (6 * a + 2) (by omega), hA (6 * a + 3) (by omega), hA (6 * a + 4) (by omega)]
    exact ⟨b1, b2, b3, b4, b5⟩
theorem st_bit {A : Nat → Int32} {h : Nat} (w : Wh A) (hh : h < hn A) : bI ((mkN (St A) (hn A)).testBit h = true) = A (6 * h + 5) := by
  obtain ⟨x, y, w, d, r, s, z⟩ := w.2.1 h hh
  rw [tb_mk]
  have : s = 0 ∨ s = 1 := by omega
  rcases this with rfl | rfl
  · simp [hh, St, z.2.2.2.2.2.1, nI_eq, bI_F]
  · simp [hh, St, z.2.2.2.2.2.1, bI_T]
theorem ob_stand {G : gG} : gOb (Inv LS CV MV G) (gb G) (gB G) (gB G + 54) 117 184 2 := by
  intro σ k as hl hk hI
  obtain ⟨p0, p1, rfl⟩ := len2 hl
  have hv := Inv_Sh hI
  have hb := Inv_b hI
  obtain ⟨own, ⟨w1, w2, w3, w4, w5⟩, ⟨t1, t2, t3, t4, t5⟩, lw⟩ := Inv_i4 hI
  have hn1 := hn_le w1
  have hn2 := hn_eq w1
  by_cases h1 : nI 0 ≤ p1 ∧ p1 ≤ nI 1
  · by_cases h0 : nI 0 ≤ p0 ∧ p0 < nI (hn (gI σ (gB G + 56)))
    · obtain ⟨h, hh, rfl⟩ := in_lt (by omega) h0
      obtain ⟨s, hs, rfl⟩ := in_nI (by omega) h1
      have hh2 : h < 12 := by omega
      have z : 6 * h + 5 < 5062 := by omega
      have hm : mkN (St (gI σ (gB G + 56))) (hn (gI σ (gB G + 56))) < 4096 := mk_lt12 hn1
      simp (disch := first | omega | (simp only [IvS_I, IvS_J, IvS_r]; assumption)) only [List.map_cons, List.map_nil, Value.int.injEq, gSc_r, gSc_I, n10, n01, Nat.not_lt_zero, ne_eq, Nat.add_zero, Nat.one_ne_zero, Nat.zero_ne_one, Nat.reduceEqDiff, bI_T, bI_F, bI_0, bI_1, bI_01, not_and_self, true_and, and_true, not_true_eq_false, not_false_eq_true, false_imp_iff, true_imp_iff, imp_self, gPv_n, gPv_i, gPv_r, gPv_0, Option.toList_some, Option.toList_none, List.singleton_append, List.cons_append, List.nil_append, List.length_nil, List.length_cons, Nat.zero_le, Nat.reduceAdd, Nat.reduceLeDiff, or_true, true_or, false_or, or_false, and_self, and_false, false_and, implies_true, Option.some.injEq, exists_eq_left', n_K_I, n_K_J, n_K_R, n_K_r, n_N_I, n_N_J, n_N_R, n_N_r, n_R_I, n_R_J, n_R_r, n_J_I, n_J_R, n_J_r, n_I_J, n_I_R, n_n_I, n_n_J, n_n_R, n_n_r, n_w_I, n_w_J, n_w_R, n_w_r, n_T_I, n_T_J, n_T_R, n_T_r, n_I_I, n_I_r, n_J_J, n_R_R, Nat.add_left_cancel_iff, Nat.add_right_cancel_iff, Nat.add_eq_left, Nat.left_eq_add, Nat.reduceEqDiff, Nat.reduceAdd, Nat.zero_ne_one, Nat.one_ne_zero, false_and, and_false, true_and, and_true, and_self, if_false, if_true, ↓reduceIte, c_117, e_117_0, e_117_1, e_117_2, e_117_3, e_117_6, e_117_9, e_117_10, e_117_11, e_117_14, e_117_15, e_117_16, e_117_19, e_117_20, e_117_23, e_117_26, e_117_27, e_117_29, e_117_32, e_117_33, e_117_34, e_117_37, e_117_40, e_117_41, e_117_44, e_117_45, e_117_46, e_117_49, e_117_50, e_117_53, e_117_56, e_117_57, e_117_58, e_117_59, e_117_60, e_117_61, e_117_62, e_117_63, e_117_64, e_117_65, e_117_66, e_117_69, e_117_70, e_117_73, e_117_73n, e_117_74, e_117_77, e_117_78, e_117_79, e_117_82, e_117_83, e_117_84, e_117_87, c_184, e_184_0, e_184_1, e_184_2, e_184_3, e_184_6, e_184_9, e_184_10, e_184_11, e_184_14, e_184_15, e_184_16, e_184_17, e_184_20, e_184_23, e_184_24, e_184_26, e_184_29, e_184_30, e_184_31, e_184_32, e_184_33, e_184_36, e_184_37, e_184_38, e_184_41, e_184_43, e_184_44, e_184_45, e_184_46, e_184_47, e_184_48, e_184_49, e_184_50, e_184_51, e_184_54, sk_0 hv, sr_0_0 hv, sr_0_1 hv, sr_0_2 hv, sr_0_4 hv, sr_0_7 hv, sr_0_9 hv, sr_0_10 hv, sr_0_11 hv, sr_0_12 hv, sr_0_13 hv, sr_0_14 hv, sk_1 hv, sr_1_0 hv, sr_1_1 hv, sr_1_2 hv, sr_1_3 hv, sr_1_4 hv, sr_1_7 hv, sr_1_9 hv, sr_1_14 hv, sr_1_15 hv, sr_1_16 hv, sk_6 hv, sn_6 hv, sk_54 hv, sr_54_2 hv, sr_54_3 hv, sr_54_4 hv, sr_54_5 hv, sr_54_7 hv, sr_54_8 hv, sr_54_9 hv, sr_54_12 hv, sr_54_13 hv, sr_54_14 hv, sr_54_22 hv, sr_54_25 hv, sr_54_26 hv, sr_54_27 hv, sr_54_34 hv, sr_54_35 hv, sr_54_36 hv, sr_54_37 hv, sr_54_38 hv, sr_54_40 hv, sr_54_43 hv, sr_54_44 hv, sr_54_45 hv, sr_54_46 hv, sr_54_47 hv, sk_56 hv, sn_56 hv, nL, nI_add, nI_mul, nI_clamp, nI_ltI, nI_leI, nI_eq, nI_pos, nI_pos', Nat.reduceAdd, Nat.reduceMul, Nat.reducePow, s_within, s_has (sk_1 hv), s_accept, t_good, t_isHouse, t_lies, t_factOf, t1.1, hn2, le_sub1, bI_t, hh2, hs, hh, z, s_bitOf, t1.2.1, nI_bit, st_bit w1 hh, nI_shl, Nat.one_mul]
      refine Inv_A (by repeat (first | exact Sm_refl _ _ | refine Sm_B ?_ (by decide) | refine Sm_B0 ?_)) hI (by intro o ho; simp (disch := omega) only [rI_ne]) (by intro h; simpa (disch := omega) only [I6, rI_ne, rI_nk] using h) (by intro j hj; simp (disch := omega) only [rI_ne, rI_nk]) ⟨1, by omega, by omega, by simp (disch := omega) only [rI_ne, rI_nk, rI_eq]⟩ (by simp (disch := omega) only [rI_ne, rI_nk, rI_eq]) (by intro h; simp only [I7] at h ⊢; simp (disch := omega) only [rI_ne, rI_nk, rI_eq, h, and_self]) ?_ hk
      intro own hl i4
      obtain ⟨x, y, w, d, r', s', v1, v2, v3, v4, v5, v6, v7⟩ := w1.2.1 h hh
      refine I4_h (by simp only [n_K_I]) (by simp only [n_N_I]) (by simp only [n_R_I]) hl (by intros; simp (disch := omega) only [rI_ne, rI_nk]) (by intros; simp (disch := omega) only [rI_ne, rI_nk]) (by intros; simp (disch := omega) only [rI_ne, rI_nk]) i4 ?_ ?_
      · refine Wh_rs (h := h) (r := r') (s := s) w1 hh (by omega) hs ?_ ?_ ?_
        · simp (disch := omega) only [rI_ne, rI_nk]; exact v5
        · simp (disch := omega) only [rI_ne, rI_eq]
        · intros; simp (disch := omega) only [rI_ne, rI_nk]
      · refine Th_stand (h := h) (s := s) i4.2.1.1 hn1 ?_ ?_ ?_ ?_ ?_ hh hs
        · intros; simp (disch := omega) only [rI_ne, rI_nk]
        · simp (disch := omega) only [rI_ne, rI_nk, rI_eq]
        · intros; simp (disch := omega) only [rI_ne]
        · simp (disch := omega) only [rI_ne, rI_eq]
        · intros; simp (disch := omega) only [rI_ne, rI_nk]
    · simp (disch := first | omega | (simp only [IvS_I, IvS_J, IvS_r]; assumption)) only [List.map_cons, List.map_nil, Value.int.injEq, gSc_r, gSc_I, n10, n01, Nat.not_lt_zero, ne_eq, Nat.add_zero, Nat.one_ne_zero, Nat.zero_ne_one, Nat.reduceEqDiff, bI_T, bI_F, bI_0, bI_1, bI_01, not_and_self, true_and, and_true, not_true_eq_false, not_false_eq_true, false_imp_iff, true_imp_iff, imp_self, gPv_n, gPv_i, gPv_r, gPv_0, Option.toList_some, Option.toList_none, List.singleton_append, List.cons_append, List.nil_append, List.length_nil, List.length_cons, Nat.zero_le, Nat.reduceAdd, Nat.reduceLeDiff, or_true, true_or, false_or, or_false, and_self, and_false, false_and, implies_true, Option.some.injEq, exists_eq_left', n_K_I, n_K_J, n_K_R, n_K_r, n_N_I, n_N_J, n_N_R, n_N_r, n_R_I, n_R_J, n_R_r, n_J_I, n_J_R, n_J_r, n_I_J, n_I_R, n_n_I, n_n_J, n_n_R, n_n_r, n_w_I, n_w_J, n_w_R, n_w_r, n_T_I, n_T_J, n_T_R, n_T_r, n_I_I, n_I_r, n_J_J, n_R_R, Nat.add_left_cancel_iff, Nat.add_right_cancel_iff, Nat.add_eq_left, Nat.left_eq_add, Nat.reduceEqDiff, Nat.reduceAdd, Nat.zero_ne_one, Nat.one_ne_zero, false_and, and_false, true_and, and_true, and_self, if_false, if_true, ↓reduceIte, c_117, e_117_0, e_117_1, e_117_2, e_117_3, e_117_6, e_117_9, e_117_10, e_117_11, e_117_14, e_117_15, e_117_16, e_117_19, e_117_20, e_117_23, e_117_26, e_117_27, e_117_29, e_117_32, e_117_33, e_117_34, e_117_37, e_117_40, e_117_41, e_117_44, e_117_45, e_117_46, e_117_49, e_117_50, e_117_53, e_117_56, e_117_57, e_117_58, e_117_59, e_117_60, e_117_61, e_117_62, e_117_63, e_117_64, e_117_65, e_117_66, e_117_69, e_117_70, e_117_73, e_117_73n, e_117_74, e_117_77, e_117_78, e_117_79, e_117_82, e_117_83, e_117_84, e_117_87, c_184, e_184_0, e_184_1, e_184_2, e_184_3, e_184_6, e_184_9, e_184_10, e_184_11, e_184_14, e_184_15, e_184_16, e_184_17, e_184_20, e_184_23, e_184_24, e_184_26, e_184_29, e_184_30, e_184_31, e_184_32, e_184_33, e_184_36, e_184_37, e_184_38, e_184_41, e_184_43, e_184_44, e_184_45, e_184_46, e_184_47, e_184_48, e_184_49, e_184_50, e_184_51, e_184_54, sk_0 hv, sr_0_0 hv, sr_0_1 hv, sr_0_2 hv, sr_0_4 hv, sr_0_7 hv, sr_0_9 hv, sr_0_10 hv, sr_0_11 hv, sr_0_12 hv, sr_0_13 hv, sr_0_14 hv, sk_1 hv, sr_1_0 hv, sr_1_1 hv, sr_1_2 hv, sr_1_3 hv, sr_1_4 hv, sr_1_7 hv, sr_1_9 hv, sr_1_14 hv, sr_1_15 hv, sr_1_16 hv, sk_6 hv, sn_6 hv, sk_54 hv, sr_54_2 hv, sr_54_3 hv, sr_54_4 hv, sr_54_5 hv, sr_54_7 hv, sr_54_8 hv, sr_54_9 hv, sr_54_12 hv, sr_54_13 hv, sr_54_14 hv, sr_54_22 hv, sr_54_25 hv, sr_54_26 hv, sr_54_27 hv, sr_54_34 hv, sr_54_35 hv, sr_54_36 hv, sr_54_37 hv, sr_54_38 hv, sr_54_40 hv, sr_54_43 hv, sr_54_44 hv, sr_54_45 hv, sr_54_46 hv, sr_54_47 hv, sk_56 hv, sn_56 hv, nL, s_within, s_has (sk_1 hv), s_refuse_2, t_refuses_2, t_isHouse, t_lies, t_factOf, t1.1, hn2, le_sub1, bI_t, h1, h0]
      exact Inv_ref_2 hk hI
  · simp (disch := first | omega | (simp only [IvS_I, IvS_J, IvS_r]; assumption)) only [List.map_cons, List.map_nil, Value.int.injEq, gSc_r, gSc_I, n10, n01, Nat.not_lt_zero, ne_eq, Nat.add_zero, Nat.one_ne_zero, Nat.zero_ne_one, Nat.reduceEqDiff, bI_T, bI_F, bI_0, bI_1, bI_01, not_and_self, true_and, and_true, not_true_eq_false, not_false_eq_true, false_imp_iff, true_imp_iff, imp_self, gPv_n, gPv_i, gPv_r, gPv_0, Option.toList_some, Option.toList_none, List.singleton_append, List.cons_append, List.nil_append, List.length_nil, List.length_cons, Nat.zero_le, Nat.reduceAdd, Nat.reduceLeDiff, or_true, true_or, false_or, or_false, and_self, and_false, false_and, implies_true, Option.some.injEq, exists_eq_left', n_K_I, n_K_J, n_K_R, n_K_r, n_N_I, n_N_J, n_N_R, n_N_r, n_R_I, n_R_J, n_R_r, n_J_I, n_J_R, n_J_r, n_I_J, n_I_R, n_n_I, n_n_J, n_n_R, n_n_r, n_w_I, n_w_J, n_w_R, n_w_r, n_T_I, n_T_J, n_T_R, n_T_r, n_I_I, n_I_r, n_J_J, n_R_R, Nat.add_left_cancel_iff, Nat.add_right_cancel_iff, Nat.add_eq_left, Nat.left_eq_add, Nat.reduceEqDiff, Nat.reduceAdd, Nat.zero_ne_one, Nat.one_ne_zero, false_and, and_false, true_and, and_true, and_self, if_false, if_true, ↓reduceIte, c_117, e_117_0, e_117_1, e_117_2, e_117_3, e_117_6, e_117_9, e_117_10, e_117_11, e_117_14, e_117_15, e_117_16, e_117_19, e_117_20, e_117_23, e_117_26, e_117_27, e_117_29, e_117_32, e_117_33, e_117_34, e_117_37, e_117_40, e_117_41, e_117_44, e_117_45, e_117_46, e_117_49, e_117_50, e_117_53, e_117_56, e_117_57, e_117_58, e_117_59, e_117_60, e_117_61, e_117_62, e_117_63, e_117_64, e_117_65, e_117_66, e_117_69, e_117_70, e_117_73, e_117_73n, e_117_74, e_117_77, e_117_78, e_117_79, e_117_82, e_117_83, e_117_84, e_117_87, c_184, e_184_0, e_184_1, e_184_2, e_184_3, e_184_6, e_184_9, e_184_10, e_184_11, e_184_14, e_184_15, e_184_16, e_184_17, e_184_20, e_184_23, e_184_24, e_184_26, e_184_29, e_184_30, e_184_31, e_184_32, e_184_33, e_184_36, e_184_37, e_184_38, e_184_41, e_184_43, e_184_44, e_184_45, e_184_46, e_184_47, e_184_48, e_184_49, e_184_50, e_184_51, e_184_54, sk_0 hv, sr_0_0 hv, sr_0_1 hv, sr_0_2 hv, sr_0_4 hv, sr_0_7 hv, sr_0_9 hv, sr_0_10 hv, sr_0_11 hv, sr_0_12 hv, sr_0_13 hv, sr_0_14 hv, sk_1 hv, sr_1_0 hv, sr_1_1 hv, sr_1_2 hv, sr_1_3 hv, sr_1_4 hv, sr_1_7 hv, sr_1_9 hv, sr_1_14 hv, sr_1_15 hv, sr_1_16 hv, sk_6 hv, sn_6 hv, sk_54 hv, sr_54_2 hv, sr_54_3 hv, sr_54_4 hv, sr_54_5 hv, sr_54_7 hv, sr_54_8 hv, sr_54_9 hv, sr_54_12 hv, sr_54_13 hv, sr_54_14 hv, sr_54_22 hv, sr_54_25 hv, sr_54_26 hv, sr_54_27 hv, sr_54_34 hv, sr_54_35 hv, sr_54_36 hv, sr_54_37 hv, sr_54_38 hv, sr_54_40 hv, sr_54_43 hv, sr_54_44 hv, sr_54_45 hv, sr_54_46 hv, sr_54_47 hv, sk_56 hv, sn_56 hv, nL, s_within, s_has (sk_1 hv), s_refuse_1, t_refuses_1, t_isHouse, t_lies, t_factOf, t1.1, hn2, le_sub1, bI_t, h1]
    exact Inv_ref_1 hk hI
end
