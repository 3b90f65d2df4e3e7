/-! a house more -/
section
variable {A : Nat → Int32} {l t w e r : Nat}
theorem ad_0 (h : hn A < 12) : addH A l t w e r (6 * hn A) = nI l := by simp (disch := omega) only [addH, up_ne, up_eq]
theorem ad_1 (h : hn A < 12) : addH A l t w e r (6 * hn A + 1) = nI t := by simp (disch := omega) only [addH, up_ne, up_eq]
theorem ad_2 (h : hn A < 12) : addH A l t w e r (6 * hn A + 2) = nI w := by simp (disch := omega) only [addH, up_ne, up_eq]
theorem ad_3 (h : hn A < 12) : addH A l t w e r (6 * hn A + 3) = nI e := by simp (disch := omega) only [addH, up_ne, up_eq]
theorem ad_4 (h : hn A < 12) : addH A l t w e r (6 * hn A + 4) = nI r := by simp (disch := omega) only [addH, up_ne, up_eq]
theorem ad_5 (h : hn A < 12) : addH A l t w e r (6 * hn A + 5) = nI 1 := by simp (disch := omega) only [addH, up_ne, up_eq]
theorem ad_n : addH A l t w e r 250 = nI (hn A + 1) := by simp only [addH, up_eq]
theorem ad_o {j : Nat} (h1 : j < 6 * hn A ∨ 6 * hn A + 6 ≤ j) (h2 : j ≠ 250) : addH A l t w e r j = A j := by simp (disch := omega) only [addH, up_ne]
theorem ad_hn (h : hn A < 12) : hn (addH A l t w e r) = hn A + 1 := an_v ad_n (by omega)
theorem drc_0 {A : Nat → Int32} {a : Nat} : ∀ {b : Nat}, (∀ j, j < b → Dr A a j = false) → drc A a b = 0 := by
  intro b
  induction b with
  | zero => intro _; rfl
  | succ b ih =>
    intro h
    simp only [drc, ih (fun j hj => h j (by omega)), h b (by omega), Bool.false_eq_true, if_false]
theorem mk_0 {C : Nat → Bool} {n : Nat} (h : ∀ j, j < n → C j = false) : mkN C n = 0 := by
  refine Nat.eq_of_testBit_eq ?_
  intro j
  rw [tb_mk, Nat.zero_testBit]
  by_cases hj : j < n
  · rw [h j hj]; simp
  · simp [hj]
theorem add_Wh (wh : Wh A) (h : hn A < 12) (hw1 : 1 ≤ w) (hw : w ≤ 3) (he1 : 1 ≤ e) (he : e ≤ 3) (hl : l + w ≤ 8) (ht : t + e ≤ 8) (hr : r ≤ 9) (ho : anyB (ovB A l t w e) (hn A) 0 = false) : Wh (addH A l t w e r) := by
  have key : ∀ b, b < hn A → ¬ (ovl l w (an A (6 * b)) (an A (6 * b + 2)) ∧ ovl t e (an A (6 * b + 1)) (an A (6 * b + 3))) := by
    intro b hb
    obtain ⟨_, c⟩ := Wh_n wh hb
    rw [← mt3_iff hw1 he1 (by omega) (by omega)]
    intro hz
    have : anyB (ovB A l t w e) (hn A) 0 = true := anyB_iff.mpr ⟨b, by omega, by omega, by simp only [ovB, decide_eq_true_eq]; exact hz⟩
    rw [ho] at this
    exact Bool.false_ne_true this
  have a0 := an_v (ad_0 (l := l) (t := t) (w := w) (e := e) (r := r) h) (by omega)
  have a1 := an_v (ad_1 (l := l) (t := t) (w := w) (e := e) (r := r) h) (by omega)
  have a2 := an_v (ad_2 (l := l) (t := t) (w := w) (e := e) (r := r) h) (by omega)
  have a3 := an_v (ad_3 (l := l) (t := t) (w := w) (e := e) (r := r) h) (by omega)
  refine ⟨⟨hn A + 1, ad_n, by omega⟩, ?_, ?_⟩
  · intro a ha
    rw [ad_hn h] at ha
    by_cases hz : a = hn A
    · subst hz
      exact ⟨l, t, w, e, r, 1, ad_0 h, ad_1 h, ad_2 h, ad_3 h, ad_4 h, ad_5 h, by omega⟩
    · obtain ⟨x, y, w', d, r', s, u⟩ := wh.2.1 a (by omega)
      exact ⟨x, y, w', d, r', s, by rw [ad_o (by omega) (by omega), ad_o (by omega) (by omega), ad_o (by omega) (by omega), ad_o (by omega) (by omega), ad_o (by omega) (by omega), ad_o (by omega) (by omega)]; exact u⟩
  · intro a b ha hb hab
    rw [ad_hn h] at ha hb
    by_cases hz : a = hn A
    · subst hz
      have hb' : b < hn A := by omega
      rw [a0, a1, a2, a3, an_c (ad_o (by omega) (by omega)), an_c (ad_o (by omega) (by omega)), an_c (ad_o (by omega) (by omega)), an_c (ad_o (by omega) (by omega))]
      exact key b hb'
    · by_cases hy : b = hn A
      · subst hy
        have ha' : a < hn A := by omega
        rw [a0, a1, a2, a3, an_c (ad_o (by omega) (by omega)), an_c (ad_o (by omega) (by omega)), an_c (ad_o (by omega) (by omega)), an_c (ad_o (by omega) (by omega))]
        have := key a ha'
        simp only [ovl] at this ⊢
        omega
      · rw [an_c (ad_o (by omega) (by omega)), an_c (ad_o (by omega) (by omega)), an_c (ad_o (by omega) (by omega)), an_c (ad_o (by omega) (by omega)), an_c (ad_o (by omega) (by omega)), an_c (ad_o (by omega) (by omega)), an_c (ad_o (by omega) (by omega)), an_c (ad_o (by omega) (by omega))]
        exact wh.2.2 a b (by omega) (by omega) hab
theorem Dr_0 {A : Nat → Int32} (w : Wd A) {a b : Nat} (ha : a < 12) (hb : b < 12) (h : hn A ≤ a ∨ hn A ≤ b) : Dr A a b = false := by
  by_cases c : Dr A a b = true
  · have := Dr_n w ha hb c
    omega
  · simpa using c
theorem add_Dr (h : hn A < 12) {a b : Nat} (ha : a < 12) (hb : b < 12) : Dr (addH A l t w e r) a b = Dr A a b := Dr_c (ad_o (by omega) (by omega))
theorem add_dc (wd : Wd A) (h : hn A < 12) : dc (addH A l t w e r) = dc A := by
  simp only [dc, ad_hn h, dcs]
  rw [dcs_c (A := A) (fun a b ha hb => add_Dr h (by omega) (by omega)), drc_0 (fun j hj => by rw [add_Dr h (by omega) (by omega)]; exact Dr_0 wd (by omega) (by omega) (by omega))]
  omega
theorem add_Wd (wd : Wd A) (h : hn A < 12) : Wd (addH A l t w e r) := by
  refine ⟨?_, by rw [add_dc wd h]; exact wd.2⟩
  intro a b ha hb
  rw [ad_o (by omega) (by omega), ad_o (by omega) (by omega), ad_hn h]
  obtain ⟨h1, h2⟩ := wd.1 a b ha hb
  refine ⟨?_, h2⟩
  rcases h1 with h1 | ⟨h1, h3, h4, h5⟩
  · exact Or.inl h1
  · exact Or.inr ⟨h1, by omega, by omega, h5⟩
theorem add_Th {B : Nat} {σ : gS} (wh : Wh A) (g : Th (B + 1) σ A) (h : hn A < 12) : Th (B + 1) (bld σ B (hn A) l t w e r (mkN (St A) (hn A) ||| 2 ^ hn A)) (addH A l t w e r) := by
  refine ⟨?_, ?_, ?_⟩
  · rw [ad_n]
    simp (disch := omega) only [bld, rI_nk, rI_eq]
  · simp (disch := omega) only [bld, rI_nk, rI_eq]
    congr 1
    rw [ad_hn h, mkN]
    have e1 : St (addH A l t w e r) (hn A) = true := by simp only [St, ad_5 h, decide_true]
    rw [e1, if_pos rfl]
    congr 1
    refine mk_c ?_
    intro j hj
    simp only [St]
    rw [ad_o (by omega) (by omega)]
  · intro a ha
    rw [ad_hn h] at ha
    by_cases hz : a = hn A
    · subst hz
      rw [ad_0 h, ad_1 h, ad_2 h, ad_3 h, ad_4 h]
      simp (disch := omega) only [bld, Nat.add_assoc, Nat.reduceAdd, rI_ne, rI_eq, and_self]
    · rw [ad_o (by omega) (by omega), ad_o (by omega) (by omega), ad_o (by omega) (by omega), ad_o (by omega) (by omega), ad_o (by omega) (by omega)]
      have := g.2.2 a (by omega)
      simp only [Nat.add_assoc, Nat.reduceAdd] at this
      simp (disch := omega) only [bld, Nat.add_assoc, Nat.reduceAdd, rI_ne, rI_nk]
      exact this
theorem add_Td {B : Nat} {σ : gS} (wd : Wd A) (g : Td (B + 1) σ A) (h : hn A < 12) {s : Nat} : Td (B + 1) (bld σ B (hn A) l t w e r s) (addH A l t w e r) := by
  refine ⟨?_, ?_⟩
  · rw [add_dc wd h]
    simp (disch := omega) only [bld, rI_ne, rI_nk]
    exact g.1
  · intro a ha
    rw [ad_hn h] at ha
    by_cases hz : a = hn A
    · subst hz
      rw [mk_0 (fun j hj => by rw [add_Dr h h hj]; exact Dr_0 wd h hj (by omega))]
      simp (disch := omega) only [bld, Nat.add_assoc, Nat.reduceAdd, rI_ne, rI_eq]
    · have := g.2 a (by omega)
      simp only [Nat.add_assoc, Nat.reduceAdd] at this
      simp (disch := omega) only [bld, Nat.add_assoc, Nat.reduceAdd, rI_ne, rI_nk]
      rw [this]
      congr 1
      exact mk_c (fun j hj => (add_Dr h (by omega) hj).symm)
end
section
variable {LS : (Nat → Int32) → (Nat → Int32) → Nat → (Nat → Int32) → Nat → (Nat → Int32) → Nat → (Nat → Int32) → (Nat → Int32) → Nat → Prop} {CV : Nat → (Nat → Int32) → (Nat → Nat → Int32) → Prop} {MV : (Nat → Int32) → Int32 → (Nat → Int32) → (Nat → Int32) → (Nat → Int32) → Prop}
/-- houses more: the other parts of the row and of the town are as they were -/
theorem I4_a {own : Nat → Nat} {t : Nat} {σ τ : gS} {A A' : Nat → Int32} (hK : gK τ = gK σ) (hN : gN τ = gN σ) (hR : gR τ = gR σ) (hl : ∀ a, own a ≠ 0 → gI τ a = gI σ a) (hf : ∀ j, j = 10 ∨ j = 11 ∨ j = 12 ∨ j = 13 → gI τ t j = gI σ t j) (hr : ∀ o, 8 ≤ o → o < 17 → gI τ (t + o) = gI σ (t + o)) (hA : ∀ j, 216 ≤ j → j ≠ 250 → A' j = A j) (hn' : hn A ≤ hn A') (w : I4 LS own t σ A) (h1 : Wh A') (h2 : Wd A') (h3 : Th t τ A') (h4 : Td t τ A') : I4 LS own t τ A' := by
  obtain ⟨⟨a1, a2, a3, a4, a5⟩, ⟨b1, b2, b3, b4, b5⟩, c⟩ := w
  exact ⟨⟨h1, h2, fr_Wt (hA _ (by omega) (by omega)) (hA _ (by omega) (by omega)) a3, fr_Wp (fun j _ _ => hA j (by omega) (by omega)) (hA _ (by omega) (by omega)) (hA _ (by omega) (by omega)) (hA _ (by omega) (by omega)) hn' a4, fr_Wl (fun j _ _ => hA j (by omega) (by omega)) a5⟩,
    ⟨h3, h4, fr_Tt (hf 12 (by omega)) (hf 13 (by omega)) (hA _ (by omega) (by omega)) (hA _ (by omega) (by omega)) b3, fr_Tp (fun o _ _ => hr o (by omega) (by omega)) (fun j _ _ => hA j (by omega) (by omega)) (hA _ (by omega) (by omega)) (hA _ (by omega) (by omega)) (hA _ (by omega) (by omega)) a4 b4, fr_Tl (hf 10 (by omega)) (hf 11 (by omega)) (hA _ (by omega) (by omega)) (hA _ (by omega) (by omega)) b5⟩,
    fr_Lw hK hN (fun a _ => by rw [hR]) (by rw [hR]) (fun a ha => hl a (by omega)) (hA _ (by omega) (by omega)) (fun j _ => hA j (by omega) (by omega)) c⟩
set_option maxHeartbeats 4000000 in
theorem ob_house {G : gG} : gOb (Inv LS CV MV G) (gb G) (gB G) (gB G + 54) 114 181 5 := by
  intro σ k as hl hk hI
  obtain ⟨p0, p1, p2, p3, p4, rfl⟩ := len5 hl
  have hv := Inv_Sh hI
  have hb := Inv_b hI
  obtain ⟨own, ⟨w1, w2, w3, w4, w5⟩, ⟨t1, t2, t3, t4, t5⟩, lw⟩ := Inv_i4 hI
  have hn1 := hn_le w1
  have hn2 := hn_eq w1
  have m1 : ¬ (-nI 1 = nI 0) := by decide
  have m3 : ¬ (-nI 3 = nI 0) := by decide
  have m5 : ¬ (-nI 5 = nI 0) := by decide
  by_cases ok : okH p0 p1 p2 p3 p4
  · obtain ⟨l, t, w, e, r, rfl, rfl, rfl, rfl, rfl, q1, q2, q3, q4, q5, q6, q7⟩ := okH_n ok
    have z1 : nI 8 - nI w = nI (8 - w) := nI_sub (by omega)
    have z2 : nI 8 - nI e = nI (8 - e) := nI_sub (by omega)
    have z3 : l ≤ 8 - w := by omega
    have z4 : t ≤ 8 - e := by omega
    by_cases ov : anyB (ovB (gI σ (gB G + 56)) l t w e) (hn (gI σ (gB G + 56))) 0 = true
    · simp (disch := first | omega | assumption | (simp only [IvS_I, IvS_r]; assumption) | (simp (disch := omega) only [rI_ne]; assumption)) only [List.map_cons, List.map_nil, Value.int.injEq, gSc_r, gSc_I, n10, n01, Nat.lt_irrefl, Nat.not_lt_zero, ne_eq, Nat.add_zero, Nat.one_ne_zero, Nat.zero_ne_one, Nat.reduceEqDiff, bI_T, bI_F, bI_0, bI_1, bI_01, not_and_self, true_and, and_true, not_true_eq_false, not_false_eq_true, false_imp_iff, true_imp_iff, imp_self, gPv_n, gPv_i, gPv_r, gPv_0, Option.toList_some, Option.toList_none, List.singleton_append, List.cons_append, List.nil_append, List.length_nil, List.length_cons, Nat.zero_le, Nat.reduceAdd, Nat.reduceLeDiff, or_true, true_or, false_or, or_false, and_self, and_false, false_and, implies_true, Option.some.injEq, exists_eq_left', n_K_I, n_K_J, n_K_R, n_K_r, n_N_I, n_N_J, n_N_R, n_N_r, n_R_I, n_R_J, n_R_r, n_J_I, n_J_R, n_J_r, n_I_J, n_I_R, n_n_I, n_n_J, n_n_R, n_n_r, n_w_I, n_w_J, n_w_R, n_w_r, n_T_I, n_T_J, n_T_R, n_T_r, rI_ne, rI_nk, rI_eq, rr_ne, rr_eq, n_J_J, n_R_R, Nat.add_left_cancel_iff, Nat.add_right_cancel_iff, Nat.add_eq_left, Nat.left_eq_add, Nat.reduceEqDiff, Nat.reduceAdd, Nat.zero_ne_one, Nat.one_ne_zero, false_and, and_false, true_and, and_true, and_self, if_false, if_true, ↓reduceIte, c_114, e_114_0, e_114_1, e_114_4, e_114_5, e_114_6, e_114_7, e_114_9, e_114_11, e_114_14, e_114_16, e_114_18, e_114_21, e_114_22, e_114_24, e_114_27, e_114_28, e_114_29, e_114_30, e_114_33, e_114_34, e_114_35, e_114_36, e_114_38, e_114_40, e_114_43, e_114_46, c_181, e_181_0, e_181_1, e_181_2, e_181_3, e_181_5, e_181_8, e_181_11, e_181_13, e_181_14, e_181_16, e_181_19, e_181_22, e_181_23, e_181_24, e_181_27, e_181_28, e_181_29, e_181_30, e_181_31, e_181_32, e_181_34, e_181_37, e_181_40, e_181_41, e_181_43, e_181_46, e_181_47, e_181_48, e_181_51, e_181_53, e_181_56, e_181_57, e_181_59, e_181_62, e_181_63, e_181_64, e_181_65, e_181_66, e_181_67, e_181_68, e_181_70, e_181_72, e_181_75, e_181_78, sk_0 hv, sr_0_0 hv, sr_0_1 hv, sr_0_2 hv, sr_0_4 hv, sr_0_7 hv, sr_0_9 hv, sr_0_10 hv, sr_0_11 hv, sr_0_12 hv, sr_0_13 hv, sr_0_14 hv, sk_1 hv, sr_1_0 hv, sr_1_1 hv, sr_1_2 hv, sr_1_3 hv, sr_1_4 hv, sr_1_7 hv, sr_1_9 hv, sr_1_14 hv, sr_1_15 hv, sr_1_16 hv, sk_54 hv, sr_54_2 hv, sr_54_3 hv, sr_54_4 hv, sr_54_5 hv, sr_54_7 hv, sr_54_8 hv, sr_54_9 hv, sr_54_12 hv, sr_54_13 hv, sr_54_14 hv, sr_54_22 hv, sr_54_25 hv, sr_54_26 hv, sr_54_27 hv, sr_54_34 hv, sr_54_35 hv, sr_54_36 hv, sr_54_37 hv, sr_54_38 hv, sr_54_40 hv, sr_54_43 hv, sr_54_44 hv, sr_54_45 hv, sr_54_46 hv, sr_54_47 hv, nL, nI_add, nI_mul, nI_clamp, nI_ltI, nI_leI, nI_eq, nI_pos, nI_pos', Nat.reduceAdd, Nat.reduceMul, Nat.reducePow, s_why hv w1 t1, ov, if_true, m3, s_refuse_3, t_refuses_3, t_canBe, t_lies, t_isFree, q1, q2, q3, q4, q7, z1, z2, z3, z4, Bool.true_eq_false]
      exact Inv_ref_3 hk hI
    · have ov : anyB (ovB (gI σ (gB G + 56)) l t w e) (hn (gI σ (gB G + 56))) 0 = false := by simpa using ov
      by_cases h12 : hn (gI σ (gB G + 56)) = 12
      · have h12' : ¬ hn (gI σ (gB G + 56)) < 12 := by omega
        have ov12 := ov
        rw [h12] at ov12
        simp (disch := first | omega | assumption | (simp only [IvS_I, IvS_r]; assumption) | (simp (disch := omega) only [rI_ne]; assumption)) only [List.map_cons, List.map_nil, Value.int.injEq, gSc_r, gSc_I, n10, n01, Nat.lt_irrefl, Nat.not_lt_zero, ne_eq, Nat.add_zero, Nat.one_ne_zero, Nat.zero_ne_one, Nat.reduceEqDiff, bI_T, bI_F, bI_0, bI_1, bI_01, not_and_self, true_and, and_true, not_true_eq_false, not_false_eq_true, false_imp_iff, true_imp_iff, imp_self, gPv_n, gPv_i, gPv_r, gPv_0, Option.toList_some, Option.toList_none, List.singleton_append, List.cons_append, List.nil_append, List.length_nil, List.length_cons, Nat.zero_le, Nat.reduceAdd, Nat.reduceLeDiff, or_true, true_or, false_or, or_false, and_self, and_false, false_and, implies_true, Option.some.injEq, exists_eq_left', n_K_I, n_K_J, n_K_R, n_K_r, n_N_I, n_N_J, n_N_R, n_N_r, n_R_I, n_R_J, n_R_r, n_J_I, n_J_R, n_J_r, n_I_J, n_I_R, n_n_I, n_n_J, n_n_R, n_n_r, n_w_I, n_w_J, n_w_R, n_w_r, n_T_I, n_T_J, n_T_R, n_T_r, rI_ne, rI_nk, rI_eq, rr_ne, rr_eq, n_J_J, n_R_R, Nat.add_left_cancel_iff, Nat.add_right_cancel_iff, Nat.add_eq_left, Nat.left_eq_add, Nat.reduceEqDiff, Nat.reduceAdd, Nat.zero_ne_one, Nat.one_ne_zero, false_and, and_false, true_and, and_true, and_self, if_false, if_true, ↓reduceIte, c_114, e_114_0, e_114_1, e_114_4, e_114_5, e_114_6, e_114_7, e_114_9, e_114_11, e_114_14, e_114_16, e_114_18, e_114_21, e_114_22, e_114_24, e_114_27, e_114_28, e_114_29, e_114_30, e_114_33, e_114_34, e_114_35, e_114_36, e_114_38, e_114_40, e_114_43, e_114_46, c_181, e_181_0, e_181_1, e_181_2, e_181_3, e_181_5, e_181_8, e_181_11, e_181_13, e_181_14, e_181_16, e_181_19, e_181_22, e_181_23, e_181_24, e_181_27, e_181_28, e_181_29, e_181_30, e_181_31, e_181_32, e_181_34, e_181_37, e_181_40, e_181_41, e_181_43, e_181_46, e_181_47, e_181_48, e_181_51, e_181_53, e_181_56, e_181_57, e_181_59, e_181_62, e_181_63, e_181_64, e_181_65, e_181_66, e_181_67, e_181_68, e_181_70, e_181_72, e_181_75, e_181_78, sk_0 hv, sr_0_0 hv, sr_0_1 hv, sr_0_2 hv, sr_0_4 hv, sr_0_7 hv, sr_0_9 hv, sr_0_10 hv, sr_0_11 hv, sr_0_12 hv, sr_0_13 hv, sr_0_14 hv, sk_1 hv, sr_1_0 hv, sr_1_1 hv, sr_1_2 hv, sr_1_3 hv, sr_1_4 hv, sr_1_7 hv, sr_1_9 hv, sr_1_14 hv, sr_1_15 hv, sr_1_16 hv, sk_54 hv, sr_54_2 hv, sr_54_3 hv, sr_54_4 hv, sr_54_5 hv, sr_54_7 hv, sr_54_8 hv, sr_54_9 hv, sr_54_12 hv, sr_54_13 hv, sr_54_14 hv, sr_54_22 hv, sr_54_25 hv, sr_54_26 hv, sr_54_27 hv, sr_54_34 hv, sr_54_35 hv, sr_54_36 hv, sr_54_37 hv, sr_54_38 hv, sr_54_40 hv, sr_54_43 hv, sr_54_44 hv, sr_54_45 hv, sr_54_46 hv, sr_54_47 hv, nL, nI_add, nI_mul, nI_clamp, nI_ltI, nI_leI, nI_eq, nI_pos, nI_pos', Nat.reduceAdd, Nat.reduceMul, Nat.reducePow, s_why hv w1 t1, ov, if_true, if_false, m5, s_refuse_5, t_refuses_5, t_canBe, t_lies, t_isFree, t_houses, hn2, h12, h12', ov12, Nat.lt_irrefl, q1, q2, q3, q4, q7, z1, z2, z3, z4, Bool.true_eq_false, Bool.false_eq_true]
        exact Inv_ref_5 hk hI
      · have h12' : hn (gI σ (gB G + 56)) < 12 := by omega
        have tA := fun (d : Nat) (Q : Option Value → gS → Prop) => t_adds (d := d) (Q := Q) (l := l) (t := t) (w := w) (e := e) (r := r) (A := gI σ (gB G + 56)) (σ := sI (bld σ (gB G) (hn (gI σ (gB G + 56))) l t w e r (mkN (St (gI σ (gB G + 56))) (hn (gI σ (gB G + 56))) ||| 2 ^ hn (gI σ (gB G + 56)))) (gB G) 8 (nI 0)) (by simp only [bld, IvS_I]; exact hv) (by simp (disch := omega) only [bld, rI_ne]) w1 h12'
        have hvb : IvS (gB G) (bld σ (gB G) (hn (gI σ (gB G + 56))) l t w e r (mkN (St (gI σ (gB G + 56))) (hn (gI σ (gB G + 56))) ||| 2 ^ hn (gI σ (gB G + 56)))) := by simp only [bld, IvS_I]; exact hv
        have e56 : gI (bld σ (gB G) (hn (gI σ (gB G + 56))) l t w e r (mkN (St (gI σ (gB G + 56))) (hn (gI σ (gB G + 56))) ||| 2 ^ hn (gI σ (gB G + 56)))) (gB G + 56) = gI σ (gB G + 56) := by simp (disch := omega) only [bld, rI_ne]
        have e54 : gI (bld σ (gB G) (hn (gI σ (gB G + 56))) l t w e r (mkN (St (gI σ (gB G + 56))) (hn (gI σ (gB G + 56))) ||| 2 ^ hn (gI σ (gB G + 56)))) (gB G + 54) = gI σ (gB G + 54) := by simp (disch := omega) only [bld, rI_ne]
        have eK : gK (bld σ (gB G) (hn (gI σ (gB G + 56))) l t w e r (mkN (St (gI σ (gB G + 56))) (hn (gI σ (gB G + 56))) ||| 2 ^ hn (gI σ (gB G + 56)))) = gK σ := by simp only [bld, n_K_I]
        have eS : gSc (gb G) σ (bld σ (gB G) (hn (gI σ (gB G + 56))) l t w e r (mkN (St (gI σ (gB G + 56))) (hn (gI σ (gB G + 56))) ||| 2 ^ hn (gI σ (gB G + 56)))) := by simp (disch := omega) only [bld, gSc_I, gSc_r]
        simp (disch := first | omega | assumption | (simp only [IvS_I, IvS_r]; assumption) | (simp (disch := omega) only [rI_ne, e56]; assumption)) only [List.map_cons, List.map_nil, Value.int.injEq, gSc_r, gSc_I, n10, n01, Nat.lt_irrefl, Nat.not_lt_zero, ne_eq, Nat.add_zero, Nat.one_ne_zero, Nat.zero_ne_one, Nat.reduceEqDiff, bI_T, bI_F, bI_0, bI_1, bI_01, not_and_self, true_and, and_true, not_true_eq_false, not_false_eq_true, false_imp_iff, true_imp_iff, imp_self, gPv_n, gPv_i, gPv_r, gPv_0, Option.toList_some, Option.toList_none, List.singleton_append, List.cons_append, List.nil_append, List.length_nil, List.length_cons, Nat.zero_le, Nat.reduceAdd, Nat.reduceLeDiff, or_true, true_or, false_or, or_false, and_self, and_false, false_and, implies_true, Option.some.injEq, exists_eq_left', n_K_I, n_K_J, n_K_R, n_K_r, n_N_I, n_N_J, n_N_R, n_N_r, n_R_I, n_R_J, n_R_r, n_J_I, n_J_R, n_J_r, n_I_J, n_I_R, n_n_I, n_n_J, n_n_R, n_n_r, n_w_I, n_w_J, n_w_R, n_w_r, n_T_I, n_T_J, n_T_R, n_T_r, rI_ne, rI_nk, rI_eq, rr_ne, rr_eq, n_J_J, n_R_R, Nat.add_left_cancel_iff, Nat.add_right_cancel_iff, Nat.add_eq_left, Nat.left_eq_add, Nat.reduceEqDiff, Nat.reduceAdd, Nat.zero_ne_one, Nat.one_ne_zero, false_and, and_false, true_and, and_true, and_self, if_false, if_true, ↓reduceIte, e54, e56, eK, eS, c_114, e_114_0, e_114_1, e_114_4, e_114_5, e_114_6, e_114_7, e_114_9, e_114_11, e_114_14, e_114_16, e_114_18, e_114_21, e_114_22, e_114_24, e_114_27, e_114_28, e_114_29, e_114_30, e_114_33, e_114_34, e_114_35, e_114_36, e_114_38, e_114_40, e_114_43, e_114_46, c_181, e_181_0, e_181_1, e_181_2, e_181_3, e_181_5, e_181_8, e_181_11, e_181_13, e_181_14, e_181_16, e_181_19, e_181_22, e_181_23, e_181_24, e_181_27, e_181_28, e_181_29, e_181_30, e_181_31, e_181_32, e_181_34, e_181_37, e_181_40, e_181_41, e_181_43, e_181_46, e_181_47, e_181_48, e_181_51, e_181_53, e_181_56, e_181_57, e_181_59, e_181_62, e_181_63, e_181_64, e_181_65, e_181_66, e_181_67, e_181_68, e_181_70, e_181_72, e_181_75, e_181_78, sk_0 hv, sr_0_0 hv, sr_0_1 hv, sr_0_2 hv, sr_0_4 hv, sr_0_7 hv, sr_0_9 hv, sr_0_10 hv, sr_0_11 hv, sr_0_12 hv, sr_0_13 hv, sr_0_14 hv, sk_1 hv, sr_1_0 hv, sr_1_1 hv, sr_1_2 hv, sr_1_3 hv, sr_1_4 hv, sr_1_7 hv, sr_1_9 hv, sr_1_14 hv, sr_1_15 hv, sr_1_16 hv, sk_54 hv, sr_54_2 hv, sr_54_3 hv, sr_54_4 hv, sr_54_5 hv, sr_54_7 hv, sr_54_8 hv, sr_54_9 hv, sr_54_12 hv, sr_54_13 hv, sr_54_14 hv, sr_54_22 hv, sr_54_25 hv, sr_54_26 hv, sr_54_27 hv, sr_54_34 hv, sr_54_35 hv, sr_54_36 hv, sr_54_37 hv, sr_54_38 hv, sr_54_40 hv, sr_54_43 hv, sr_54_44 hv, sr_54_45 hv, sr_54_46 hv, sr_54_47 hv, nL, nI_add, nI_mul, nI_clamp, nI_ltI, nI_leI, nI_eq, nI_pos, nI_pos', Nat.reduceAdd, Nat.reduceMul, Nat.reducePow, s_why hv w1 t1, s_build hv w1 t1, ov, if_true, if_false, s_accept, t_good, t_canBe, t_lies, t_isFree, t_houses, tA, hn2, h12, h12', q1, q2, q3, q4, q7, z1, z2, z3, z4, Bool.true_eq_false, Bool.false_eq_true]
        refine Inv_A ?_ hI ?_ ?_ ?_ ⟨1, by omega, by omega, ?_⟩ ?_ ?_ ?_ hk
        · refine Sm_B (Sm_B (Sm_r (Sm_B0 ?_) ⟨by omega, by omega⟩) (by decide)) (by decide)
          unfold bld
          repeat (first | refine Sm_B ?_ (by decide) | refine Sm_B0 ?_ | exact Sm_refl _ _)
        · intro o ho
          simp (disch := omega) only [bld, rI_ne, rr_ne]
        · intro h
          simpa (disch := omega) only [bld, I6, rI_ne, rI_nk, rr_ne] using h
        · intro j hj
          simp (disch := omega) only [bld, rI_ne, rI_nk, rr_ne]
        · simp (disch := omega) only [bld, rI_ne, rI_nk, rI_eq, rr_ne]
        · simp (disch := omega) only [bld, rI_ne, rI_nk, rI_eq, rr_ne]
        · intro h
          simp only [I7] at h ⊢
          simp (disch := omega) only [bld, rI_ne, rI_nk, rI_eq, rr_ne, h, and_self]
        · intro own hl i4
          have er : gI (sI (sI (sIr (sI (bld σ (gB G) (hn (gI σ (gB G + 56))) l t w e r (mkN (St (gI σ (gB G + 56))) (hn (gI σ (gB G + 56))) ||| 2 ^ hn (gI σ (gB G + 56)))) (gB G) 8 (nI 0)) (gB G + 56) (addH (gI σ (gB G + 56)) l t w e r)) (gB G + 54) 0 (nI 0)) (gB G + 54) 1 (gI σ (gB G + 54) 1 + nI 1)) (gB G + 56) = addH (gI σ (gB G + 56)) l t w e r := by simp (disch := omega) only [rI_ne, rr_eq]
          have eR : ∀ o, 1 ≤ o → o < 54 → gI (sI (sI (sIr (sI (bld σ (gB G) (hn (gI σ (gB G + 56))) l t w e r (mkN (St (gI σ (gB G + 56))) (hn (gI σ (gB G + 56))) ||| 2 ^ hn (gI σ (gB G + 56)))) (gB G) 8 (nI 0)) (gB G + 56) (addH (gI σ (gB G + 56)) l t w e r)) (gB G + 54) 0 (nI 0)) (gB G + 54) 1 (gI σ (gB G + 54) 1 + nI 1)) (gB G + o) = gI (bld σ (gB G) (hn (gI σ (gB G + 56))) l t w e r (mkN (St (gI σ (gB G + 56))) (hn (gI σ (gB G + 56))) ||| 2 ^ hn (gI σ (gB G + 56)))) (gB G + o) := by
            intro o h1 h2
            simp (disch := omega) only [rI_ne, rr_ne]
          rw [er]
          have g1 := add_Th (l := l) (t := t) (w := w) (e := e) (r := r) w1 i4.2.1.1 h12'
          have g2 := add_Td (l := l) (t := t) (w := w) (e := e) (r := r) (s := mkN (St (gI σ (gB G + 56))) (hn (gI σ (gB G + 56))) ||| 2 ^ hn (gI σ (gB G + 56))) w2 i4.2.1.2.1 h12'
          have g3 := add_Wh (r := r) w1 h12' q1 q2 q3 q4 q5 q6 q7 ov
          refine I4_a (by simp only [bld, n_K_I, n_K_r]) (by simp only [bld, n_N_I, n_N_r]) (by simp only [bld, n_R_I, n_R_r]) hl (by intros; simp (disch := omega) only [bld, rI_ne, rI_nk, rr_ne]) (by intros; simp (disch := omega) only [bld, rI_ne, rI_nk, rr_ne]) (fun j h1 h2 => ad_o (by omega) h2) (by rw [ad_hn h12']; omega) i4 g3 (add_Wd w2 h12') ?_ ?_
          · refine fr_Th ⟨?_, ?_⟩ ?_ (fun _ _ => rfl) rfl (hn_le g3) g1
            · rw [eR 1 (by omega) (by omega)]
            · rw [eR 1 (by omega) (by omega)]
            · intro o h1 h2
              rw [Nat.add_assoc, eR (1 + o) (by omega) (by omega)]
          · refine fr_Td ?_ ?_ (fun _ _ _ => rfl) rfl (hn_le g3) g2
            · rw [eR 1 (by omega) (by omega)]
            · rw [Nat.add_assoc, eR (1 + 6) (by omega) (by omega)]
  · have hc : ¬ ((((nI 1 ≤ p2 ∧ p2 ≤ nI 3) ∧ (nI 1 ≤ p3 ∧ p3 ≤ nI 3)) ∧ (nI 0 ≤ p0 ∧ p0 ≤ nI 8 - p2) ∧ (nI 0 ≤ p1 ∧ p1 ≤ nI 8 - p3)) ∧ (nI 0 ≤ p4 ∧ p4 ≤ nI 9)) := fun z => ok ⟨z.1.1, z.2, z.1.2⟩
    by_cases c1 : (((nI 1 ≤ p2 ∧ p2 ≤ nI 3) ∧ (nI 1 ≤ p3 ∧ p3 ≤ nI 3)) ∧ (nI 0 ≤ p0 ∧ p0 ≤ nI 8 - p2) ∧ (nI 0 ≤ p1 ∧ p1 ≤ nI 8 - p3))
    · have c2 : ¬ (nI 0 ≤ p4 ∧ p4 ≤ nI 9) := fun z => hc ⟨c1, z⟩
      simp (disch := first | omega | (simp only [IvS_I, IvS_J, IvS_r]; assumption)) only [List.map_cons, List.map_nil, Value.int.injEq, gSc_r, gSc_I, n10, n01, Nat.lt_irrefl, Nat.not_lt_zero, ne_eq, Nat.add_zero, Nat.one_ne_zero, Nat.zero_ne_one, Nat.reduceEqDiff, bI_T, bI_F, bI_0, bI_1, bI_01, not_and_self, true_and, and_true, not_true_eq_false, not_false_eq_true, false_imp_iff, true_imp_iff, imp_self, gPv_n, gPv_i, gPv_r, gPv_0, Option.toList_some, Option.toList_none, List.singleton_append, List.cons_append, List.nil_append, List.length_nil, List.length_cons, Nat.zero_le, Nat.reduceAdd, Nat.reduceLeDiff, or_true, true_or, false_or, or_false, and_self, and_false, false_and, implies_true, Option.some.injEq, exists_eq_left', n_K_I, n_K_J, n_K_R, n_K_r, n_N_I, n_N_J, n_N_R, n_N_r, n_R_I, n_R_J, n_R_r, n_J_I, n_J_R, n_J_r, n_I_J, n_I_R, n_n_I, n_n_J, n_n_R, n_n_r, n_w_I, n_w_J, n_w_R, n_w_r, n_T_I, n_T_J, n_T_R, n_T_r, n_I_I, n_I_r, n_J_J, n_R_R, Nat.add_left_cancel_iff, Nat.add_right_cancel_iff, Nat.add_eq_left, Nat.left_eq_add, Nat.reduceEqDiff, Nat.reduceAdd, Nat.zero_ne_one, Nat.one_ne_zero, false_and, and_false, true_and, and_true, and_self, if_false, if_true, ↓reduceIte, c_114, e_114_0, e_114_1, e_114_4, e_114_5, e_114_6, e_114_7, e_114_9, e_114_11, e_114_14, e_114_16, e_114_18, e_114_21, e_114_22, e_114_24, e_114_27, c_181, e_181_0, e_181_1, e_181_2, e_181_3, e_181_5, e_181_8, e_181_11, e_181_13, e_181_14, e_181_16, e_181_19, e_181_22, e_181_23, e_181_24, e_181_27, sk_0 hv, sr_0_0 hv, sr_0_1 hv, sr_0_2 hv, sr_0_4 hv, sr_0_7 hv, sr_0_9 hv, sr_0_10 hv, sr_0_11 hv, sr_0_12 hv, sr_0_13 hv, sr_0_14 hv, sk_1 hv, sr_1_0 hv, sr_1_1 hv, sr_1_2 hv, sr_1_3 hv, sr_1_4 hv, sr_1_7 hv, sr_1_9 hv, sr_1_14 hv, sr_1_15 hv, sr_1_16 hv, sk_54 hv, sr_54_2 hv, sr_54_3 hv, sr_54_4 hv, sr_54_5 hv, sr_54_7 hv, sr_54_8 hv, sr_54_9 hv, sr_54_12 hv, sr_54_13 hv, sr_54_14 hv, sr_54_22 hv, sr_54_25 hv, sr_54_26 hv, sr_54_27 hv, sr_54_34 hv, sr_54_35 hv, sr_54_36 hv, sr_54_37 hv, sr_54_38 hv, sr_54_40 hv, sr_54_43 hv, sr_54_44 hv, sr_54_45 hv, sr_54_46 hv, sr_54_47 hv, nL, s_whyB ok, m1, s_refuse_1, t_refuses_1, t_canBe, bI_t c1, t_lies, c2]
      exact Inv_ref_1 hk hI
    · simp (disch := first | omega | (simp only [IvS_I, IvS_J, IvS_r]; assumption)) only [List.map_cons, List.map_nil, Value.int.injEq, gSc_r, gSc_I, n10, n01, Nat.lt_irrefl, Nat.not_lt_zero, ne_eq, Nat.add_zero, Nat.one_ne_zero, Nat.zero_ne_one, Nat.reduceEqDiff, bI_T, bI_F, bI_0, bI_1, bI_01, not_and_self, true_and, and_true, not_true_eq_false, not_false_eq_true, false_imp_iff, true_imp_iff, imp_self, gPv_n, gPv_i, gPv_r, gPv_0, Option.toList_some, Option.toList_none, List.singleton_append, List.cons_append, List.nil_append, List.length_nil, List.length_cons, Nat.zero_le, Nat.reduceAdd, Nat.reduceLeDiff, or_true, true_or, false_or, or_false, and_self, and_false, false_and, implies_true, Option.some.injEq, exists_eq_left', n_K_I, n_K_J, n_K_R, n_K_r, n_N_I, n_N_J, n_N_R, n_N_r, n_R_I, n_R_J, n_R_r, n_J_I, n_J_R, n_J_r, n_I_J, n_I_R, n_n_I, n_n_J, n_n_R, n_n_r, n_w_I, n_w_J, n_w_R, n_w_r, n_T_I, n_T_J, n_T_R, n_T_r, n_I_I, n_I_r, n_J_J, n_R_R, Nat.add_left_cancel_iff, Nat.add_right_cancel_iff, Nat.add_eq_left, Nat.left_eq_add, Nat.reduceEqDiff, Nat.reduceAdd, Nat.zero_ne_one, Nat.one_ne_zero, false_and, and_false, true_and, and_true, and_self, if_false, if_true, ↓reduceIte, c_114, e_114_0, e_114_1, e_114_4, e_114_5, e_114_6, e_114_7, e_114_9, e_114_11, e_114_14, e_114_16, e_114_18, e_114_21, e_114_22, e_114_24, e_114_27, c_181, e_181_0, e_181_1, e_181_2, e_181_3, e_181_5, e_181_8, e_181_11, e_181_13, e_181_14, e_181_16, e_181_19, e_181_22, e_181_23, e_181_24, e_181_27, sk_0 hv, sr_0_0 hv, sr_0_1 hv, sr_0_2 hv, sr_0_4 hv, sr_0_7 hv, sr_0_9 hv, sr_0_10 hv, sr_0_11 hv, sr_0_12 hv, sr_0_13 hv, sr_0_14 hv, sk_1 hv, sr_1_0 hv, sr_1_1 hv, sr_1_2 hv, sr_1_3 hv, sr_1_4 hv, sr_1_7 hv, sr_1_9 hv, sr_1_14 hv, sr_1_15 hv, sr_1_16 hv, sk_54 hv, sr_54_2 hv, sr_54_3 hv, sr_54_4 hv, sr_54_5 hv, sr_54_7 hv, sr_54_8 hv, sr_54_9 hv, sr_54_12 hv, sr_54_13 hv, sr_54_14 hv, sr_54_22 hv, sr_54_25 hv, sr_54_26 hv, sr_54_27 hv, sr_54_34 hv, sr_54_35 hv, sr_54_36 hv, sr_54_37 hv, sr_54_38 hv, sr_54_40 hv, sr_54_43 hv, sr_54_44 hv, sr_54_45 hv, sr_54_46 hv, sr_54_47 hv, nL, s_whyB ok, m1, s_refuse_1, t_refuses_1, t_canBe, bI_f c1, t_lies]
      exact Inv_ref_1 hk hI
end
