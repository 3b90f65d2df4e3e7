/-! clear, forget, log, wish -/
section
variable {LS : (Nat → Int32) → (Nat → Int32) → Nat → (Nat → Int32) → Nat → (Nat → Int32) → Nat → (Nat → Int32) → (Nat → Int32) → Nat → Prop} {CV : Nat → (Nat → Int32) → (Nat → Nat → Int32) → Prop} {MV : (Nat → Int32) → Int32 → (Nat → Int32) → (Nat → Int32) → (Nat → Int32) → Prop}
theorem nI_of_len (n : Nat) : Int32.ofNat n = nI n := rfl
theorem an_v {A : Nat → Int32} {k n : Nat} (h : A k = nI n) (hn : n < 2147483648) : an A k = n := by simp only [an, h]; exact nI_clamp hn
theorem Wp_0 {A A' : Nat → Int32} (w : Wp A) (h : A' 251 = nI 0) (h' : A' 252 = nI 0) (hA : ∀ j, j ≠ 251 → j ≠ 252 → A' j = A j) : Wp A' := by
  obtain ⟨w1, w2, w3, w4, w5, w6⟩ := w
  have q3 := (an_le w3 (by omega)).1
  refine ⟨⟨0, h, by omega⟩, ⟨0, h', by omega⟩, by rw [hA _ (by omega) (by omega)]; exact w3, ?_, ?_, ?_⟩
  · intro k hk
    rw [an_v h (by omega)] at hk
    omega
  · intro k hk
    rw [an_v h' (by omega)] at hk
    omega
  · intro k hk
    rw [an_c (hA 253 (by omega) (by omega))] at hk
    rw [hA _ (by omega) (by omega), hn_c (hA 250 (by omega) (by omega))]
    exact w6 k hk
theorem Wp_1 {A A' : Nat → Int32} (w : Wp A) (h : A' 253 = nI 0) (hA : ∀ j, j ≠ 253 → A' j = A j) : Wp A' := by
  obtain ⟨w1, w2, w3, w4, w5, w6⟩ := w
  have q1 := (an_le w1 (by omega)).1
  have q2 := (an_le w2 (by omega)).1
  refine ⟨by rw [hA _ (by omega)]; exact w1, by rw [hA _ (by omega)]; exact w2, ⟨0, h, by omega⟩, ?_, ?_, ?_⟩
  · intro k hk
    rw [an_c (hA 251 (by omega))] at hk
    rw [hA _ (by omega), hA _ (by omega), hn_c (hA 250 (by omega))]
    exact w4 k hk
  · intro k hk
    rw [an_c (hA 252 (by omega))] at hk
    rw [hA _ (by omega), hA _ (by omega), hn_c (hA 250 (by omega))]
    exact w5 k hk
  · intro k hk
    rw [an_v h (by omega)] at hk
    omega
/-- one of the three lists of a Town -/
def TL (t : Nat) (σ : gS) (A : Nat → Int32) (o b c : Nat) : Prop := gI σ (t + o) 2 = A c ∧ ∀ k, k < an A c → gI σ (t + (o + 1)) k = A (b + 2 * k) ∧ gI σ (t + (o + 2)) k = A (b + 1 + 2 * k)
theorem Tp_TL {t : Nat} {σ : gS} {A : Nat → Int32} : Tp t σ A ↔ TL t σ A 8 216 251 ∧ TL t σ A 11 224 252 ∧ TL t σ A 14 232 253 := Iff.rfl
theorem TL_c {t : Nat} {σ τ : gS} {A A' : Nat → Int32} {o b c : Nat} (w : TL t σ A o b c) (h0 : gI τ (t + o) 2 = gI σ (t + o) 2) (h1 : gI τ (t + (o + 1)) = gI σ (t + (o + 1))) (h2 : gI τ (t + (o + 2)) = gI σ (t + (o + 2))) (hc : A' c = A c) (hA : ∀ k, k < an A c → A' (b + 2 * k) = A (b + 2 * k) ∧ A' (b + 1 + 2 * k) = A (b + 1 + 2 * k)) : TL t τ A' o b c := by
  refine ⟨by rw [h0, hc]; exact w.1, ?_⟩
  intro k hk
  rw [an_c hc] at hk
  rw [h1, h2, (hA k hk).1, (hA k hk).2]
  exact w.2 k hk
theorem TL_0 {t : Nat} {τ : gS} {A' : Nat → Int32} {o b c : Nat} (h0 : gI τ (t + o) 2 = nI 0) (hc : A' c = nI 0) : TL t τ A' o b c := by
  refine ⟨by rw [h0, hc], ?_⟩
  intro k hk
  rw [an_v hc (by omega)] at hk
  omega
theorem TL_1 {t : Nat} {σ τ : gS} {A A' : Nat → Int32} {o b c z : Nat} {x y : Int32} (w : TL t σ A o b c) (hz : an A c = z) (hz2 : z < 100) (h0 : gI τ (t + o) 2 = nI (z + 1)) (h1 : gI τ (t + (o + 1)) z = x) (h2 : gI τ (t + (o + 2)) z = y) (h1' : ∀ k, k ≠ z → gI τ (t + (o + 1)) k = gI σ (t + (o + 1)) k) (h2' : ∀ k, k ≠ z → gI τ (t + (o + 2)) k = gI σ (t + (o + 2)) k) (hc : A' c = nI (z + 1)) (hx : A' (b + 2 * z) = x) (hy : A' (b + 1 + 2 * z) = y) (hA : ∀ k, k < z → A' (b + 2 * k) = A (b + 2 * k) ∧ A' (b + 1 + 2 * k) = A (b + 1 + 2 * k)) : TL t τ A' o b c := by
  refine ⟨by rw [h0, hc], ?_⟩
  intro k hk
  rw [an_v hc (by omega)] at hk
  by_cases hkz : k = z
  · subst hkz
    rw [h1, h2, hx, hy]
    exact ⟨rfl, rfl⟩
  · have hk2 : k < z := by omega
    rw [h1' k hkz, h2' k hkz, (hA k hk2).1, (hA k hk2).2]
    exact w.2 k (by omega)
theorem ob_forget {G : gG} : gOb (Inv LS CV MV G) (gb G) (gB G) (gB G + 54) 142 259 0 := by
  intro σ k as hl hk hI
  obtain rfl := len0 hl
  have hv := Inv_Sh hI
  have hb := Inv_b hI
  obtain ⟨own, ⟨w1, w2, w3, w4, w5⟩, ⟨t1, t2, t3, t4, t5⟩, lw⟩ := Inv_i4 hI
  obtain ⟨g1, g2, g3⟩ := Tp_TL.mp t4
  have t6 : gI σ (gB G + 15) 2 = gI σ (gB G + 56) 253 := t4.2.2.1
  have q1 := (an_le w4.1 (by omega)).1
  have q2 := (an_le w4.2.1 (by omega)).1
  simp (disch := first | omega | (simp only [IvS_I, IvS_J, IvS_r]; assumption)) only [List.map_cons, List.map_nil, Value.int.injEq, gSc_r, gSc_I, n10, n01, Nat.not_lt_zero, ne_eq, Nat.add_zero, Nat.one_ne_zero, Nat.zero_ne_one, Nat.reduceEqDiff, bI_T, bI_F, bI_0, bI_1, bI_01, not_and_self, true_and, and_true, not_true_eq_false, not_false_eq_true, false_imp_iff, true_imp_iff, imp_self, gPv_n, gPv_i, gPv_r, gPv_0, Option.toList_some, Option.toList_none, List.singleton_append, List.cons_append, List.nil_append, List.length_nil, List.length_cons, Nat.zero_le, Nat.reduceAdd, Nat.reduceLeDiff, or_true, true_or, false_or, or_false, and_self, and_false, false_and, implies_true, Option.some.injEq, exists_eq_left', n_K_I, n_K_J, n_K_R, n_K_r, n_N_I, n_N_J, n_N_R, n_N_r, n_R_I, n_R_J, n_R_r, n_J_I, n_J_R, n_J_r, n_I_J, n_I_R, n_n_I, n_n_J, n_n_R, n_n_r, n_w_I, n_w_J, n_w_R, n_w_r, n_T_I, n_T_J, n_T_R, n_T_r, n_I_I, n_I_r, n_J_J, n_R_R, Nat.add_left_cancel_iff, Nat.add_right_cancel_iff, Nat.add_eq_left, Nat.left_eq_add, Nat.reduceEqDiff, Nat.reduceAdd, Nat.zero_ne_one, Nat.one_ne_zero, false_and, and_false, true_and, and_true, and_self, if_false, if_true, ↓reduceIte, c_142, e_142_0, e_142_1, e_142_4, e_142_7, e_142_10, e_142_11, e_142_12, e_142_15, e_142_18, e_142_19, e_142_22, e_142_23, e_142_26, e_142_26n, e_142_27, e_142_30, e_142_31, e_142_32, e_142_35, e_142_36, c_259, e_259_0, e_259_1, e_259_4, e_259_7, e_259_8, e_259_9, e_259_10, e_259_13, e_259_16, e_259_17, e_259_18, e_259_19, e_259_19n, e_259_20, e_259_23, e_259_24, e_259_25, e_259_28, e_259_29, sk_0 hv, sr_0_0 hv, sr_0_1 hv, sr_0_2 hv, sr_0_4 hv, sr_0_7 hv, sr_0_9 hv, sr_0_10 hv, sr_0_11 hv, sr_0_12 hv, sr_0_13 hv, sr_0_14 hv, sk_1 hv, sr_1_0 hv, sr_1_1 hv, sr_1_2 hv, sr_1_3 hv, sr_1_4 hv, sr_1_7 hv, sr_1_9 hv, sr_1_14 hv, sr_1_15 hv, sr_1_16 hv, sk_15 hv, sr_15_0 hv, sr_15_1 hv, sk_54 hv, sr_54_2 hv, sr_54_3 hv, sr_54_4 hv, sr_54_5 hv, sr_54_7 hv, sr_54_8 hv, sr_54_9 hv, sr_54_12 hv, sr_54_13 hv, sr_54_14 hv, sr_54_22 hv, sr_54_25 hv, sr_54_26 hv, sr_54_27 hv, sr_54_34 hv, sr_54_35 hv, sr_54_36 hv, sr_54_37 hv, sr_54_38 hv, sr_54_40 hv, sr_54_43 hv, sr_54_44 hv, sr_54_45 hv, sr_54_46 hv, sr_54_47 hv, sk_56 hv, sn_56 hv, nL, nI_add, nI_mul, nI_clamp, nI_ltI, nI_leI, nI_eq, nI_pos, nI_pos', Nat.reduceAdd, Nat.reduceMul, Nat.reducePow, t6, Nat.reduceLT]
  refine Inv_A (by repeat (first | exact Sm_refl _ _ | refine Sm_B ?_ (by decide) | refine Sm_B0 ?_)) hI (by intro o ho; simp (disch := omega) only [rI_ne]) (by intro h; simpa (disch := omega) only [I6, rI_ne, rI_nk] using h) (by intro j hj; simp (disch := omega) only [rI_ne, rI_nk]) ⟨1, by omega, by omega, by simp (disch := omega) only [rI_ne, rI_nk, rI_eq]⟩ (by simp (disch := omega) only [rI_ne, rI_nk, rI_eq]) (by intro h; simp only [I7] at h ⊢; simp (disch := omega) only [rI_ne, rI_nk, rI_eq, h, and_self]) ?_ hk
  intro own hl i4
  refine I4_p (by simp only [n_K_I]) (by simp only [n_N_I]) (by simp only [n_R_I]) hl (by intros; simp (disch := omega) only [rI_ne, rI_nk]) (by intros; simp (disch := omega) only [rI_ne, rI_nk]) (by intros; simp (disch := omega) only [rI_ne, rI_nk]) i4 ?_ ?_
  · exact Wp_1 w4 (by simp (disch := omega) only [rI_ne, rI_eq]) (by intros; simp (disch := omega) only [rI_ne, rI_nk])
  · refine Tp_TL.mpr ⟨TL_c g1 ?_ ?_ ?_ ?_ ?_, TL_c g2 ?_ ?_ ?_ ?_ ?_, TL_0 ?_ ?_⟩
    all_goals first | (simp (disch := omega) only [rI_ne, rI_nk, rI_eq, Nat.add_assoc, Nat.reduceAdd]; done) | (intro k hk; simp (disch := omega) only [rI_ne, rI_nk, and_self])
theorem ob_clear {G : gG} : gOb (Inv LS CV MV G) (gb G) (gB G) (gB G + 54) 138 250 0 := by
  intro σ k as hl hk hI
  obtain rfl := len0 hl
  have hv := Inv_Sh hI
  have hb := Inv_b hI
  obtain ⟨own, ⟨w1, w2, w3, w4, w5⟩, ⟨t1, t2, t3, t4, t5⟩, lw⟩ := Inv_i4 hI
  obtain ⟨g1, g2, g3⟩ := Tp_TL.mp t4
  have q3 := (an_le w4.2.2.1 (by omega)).1
  have t6 : gI σ (gB G + 9) 2 = gI σ (gB G + 56) 251 := t4.1.1
  have t7 : gI σ (gB G + 12) 2 = gI σ (gB G + 56) 252 := t4.2.1.1
  simp (disch := first | omega | (simp only [IvS_I, IvS_J, IvS_r]; assumption)) only [List.map_cons, List.map_nil, Value.int.injEq, gSc_r, gSc_I, n10, n01, Nat.not_lt_zero, ne_eq, Nat.add_zero, Nat.one_ne_zero, Nat.zero_ne_one, Nat.reduceEqDiff, bI_T, bI_F, bI_0, bI_1, bI_01, not_and_self, true_and, and_true, not_true_eq_false, not_false_eq_true, false_imp_iff, true_imp_iff, imp_self, gPv_n, gPv_i, gPv_r, gPv_0, Option.toList_some, Option.toList_none, List.singleton_append, List.cons_append, List.nil_append, List.length_nil, List.length_cons, Nat.zero_le, Nat.reduceAdd, Nat.reduceLeDiff, or_true, true_or, false_or, or_false, and_self, and_false, false_and, implies_true, Option.some.injEq, exists_eq_left', n_K_I, n_K_J, n_K_R, n_K_r, n_N_I, n_N_J, n_N_R, n_N_r, n_R_I, n_R_J, n_R_r, n_J_I, n_J_R, n_J_r, n_I_J, n_I_R, n_n_I, n_n_J, n_n_R, n_n_r, n_w_I, n_w_J, n_w_R, n_w_r, n_T_I, n_T_J, n_T_R, n_T_r, n_I_I, n_I_r, n_J_J, n_R_R, Nat.add_left_cancel_iff, Nat.add_right_cancel_iff, Nat.add_eq_left, Nat.left_eq_add, Nat.reduceEqDiff, Nat.reduceAdd, Nat.zero_ne_one, Nat.one_ne_zero, false_and, and_false, true_and, and_true, and_self, if_false, if_true, ↓reduceIte, c_138, e_138_0, e_138_1, e_138_4, e_138_7, e_138_10, e_138_11, e_138_14, e_138_17, e_138_20, e_138_21, e_138_22, e_138_23, e_138_26, e_138_29, e_138_30, e_138_33, e_138_34, e_138_37, e_138_40, e_138_41, e_138_44, e_138_45, e_138_48, e_138_48n, e_138_49, e_138_52, e_138_53, e_138_54, e_138_57, e_138_58, c_250, e_250_0, e_250_1, e_250_4, e_250_7, e_250_8, e_250_9, e_250_12, e_250_15, e_250_16, e_250_17, e_250_18, e_250_19, e_250_22, e_250_25, e_250_26, e_250_27, e_250_28, e_250_31, e_250_34, e_250_35, e_250_36, e_250_37, e_250_37n, e_250_38, e_250_41, e_250_42, e_250_43, e_250_46, e_250_47, sk_0 hv, sr_0_0 hv, sr_0_1 hv, sr_0_2 hv, sr_0_4 hv, sr_0_7 hv, sr_0_9 hv, sr_0_10 hv, sr_0_11 hv, sr_0_12 hv, sr_0_13 hv, sr_0_14 hv, sk_1 hv, sr_1_0 hv, sr_1_1 hv, sr_1_2 hv, sr_1_3 hv, sr_1_4 hv, sr_1_7 hv, sr_1_9 hv, sr_1_14 hv, sr_1_15 hv, sr_1_16 hv, sk_9 hv, sr_9_0 hv, sr_9_1 hv, sk_12 hv, sr_12_0 hv, sr_12_1 hv, sk_54 hv, sr_54_2 hv, sr_54_3 hv, sr_54_4 hv, sr_54_5 hv, sr_54_7 hv, sr_54_8 hv, sr_54_9 hv, sr_54_12 hv, sr_54_13 hv, sr_54_14 hv, sr_54_22 hv, sr_54_25 hv, sr_54_26 hv, sr_54_27 hv, sr_54_34 hv, sr_54_35 hv, sr_54_36 hv, sr_54_37 hv, sr_54_38 hv, sr_54_40 hv, sr_54_43 hv, sr_54_44 hv, sr_54_45 hv, sr_54_46 hv, sr_54_47 hv, sk_56 hv, sn_56 hv, nL, nI_add, nI_mul, nI_clamp, nI_ltI, nI_leI, nI_eq, nI_pos, nI_pos', Nat.reduceAdd, Nat.reduceMul, Nat.reducePow, t6, t7, Nat.reduceLT]
  refine Inv_A (by repeat (first | exact Sm_refl _ _ | refine Sm_B ?_ (by decide) | refine Sm_B0 ?_)) hI (by intro o ho; simp (disch := omega) only [rI_ne]) (by intro h; simpa (disch := omega) only [I6, rI_ne, rI_nk] using h) (by intro j hj; simp (disch := omega) only [rI_ne, rI_nk]) ⟨1, by omega, by omega, by simp (disch := omega) only [rI_ne, rI_nk, rI_eq]⟩ (by simp (disch := omega) only [rI_ne, rI_nk, rI_eq]) (by intro h; simp only [I7] at h ⊢; simp (disch := omega) only [rI_ne, rI_nk, rI_eq, h, and_self]) ?_ hk
  intro own hl i4
  refine I4_p (by simp only [n_K_I]) (by simp only [n_N_I]) (by simp only [n_R_I]) hl (by intros; simp (disch := omega) only [rI_ne, rI_nk]) (by intros; simp (disch := omega) only [rI_ne, rI_nk]) (by intros; simp (disch := omega) only [rI_ne, rI_nk]) i4 ?_ ?_
  · exact Wp_0 w4 (by simp (disch := omega) only [rI_ne, rI_nk, rI_eq]) (by simp (disch := omega) only [rI_ne, rI_eq]) (by intros; simp (disch := omega) only [rI_ne, rI_nk])
  · refine Tp_TL.mpr ⟨TL_0 ?_ ?_, TL_0 ?_ ?_, TL_c g3 ?_ ?_ ?_ ?_ ?_⟩
    all_goals first | (simp (disch := omega) only [rI_ne, rI_nk, rI_eq, Nat.add_assoc, Nat.reduceAdd]; done) | (intro k hk; simp (disch := omega) only [rI_ne, rI_nk, and_self])
theorem Wp_log {A A' : Nat → Int32} {z f : Nat} (w : Wp A) (hz : an A 253 = z) (hz8 : z < 8) (hf : f < hn A) (h1 : A' (232 + 2 * z) = nI f) (h2 : A' 253 = nI (z + 1)) (hA : ∀ j, j ≠ 232 + 2 * z → j ≠ 233 + 2 * z → j ≠ 253 → A' j = A j) : Wp A' := by
  obtain ⟨w1, w2, w3, w4, w5, w6⟩ := w
  have q1 := (an_le w1 (by omega)).1
  have q2 := (an_le w2 (by omega)).1
  have e := hn_c (hA 250 (by omega) (by omega) (by omega))
  refine ⟨by rw [hA _ (by omega) (by omega) (by omega)]; exact w1, by rw [hA _ (by omega) (by omega) (by omega)]; exact w2, ⟨z + 1, h2, by omega⟩, ?_, ?_, ?_⟩
  · intro k hk
    rw [an_c (hA 251 (by omega) (by omega) (by omega))] at hk
    rw [hA _ (by omega) (by omega) (by omega), hA _ (by omega) (by omega) (by omega), e]
    exact w4 k hk
  · intro k hk
    rw [an_c (hA 252 (by omega) (by omega) (by omega))] at hk
    rw [hA _ (by omega) (by omega) (by omega), hA _ (by omega) (by omega) (by omega), e]
    exact w5 k hk
  · intro k hk
    rw [an_v h2 (by omega)] at hk
    rw [e]
    by_cases hkz : k = z
    · subst hkz
      exact ⟨f, h1, hf⟩
    · rw [hA _ (by omega) (by omega) (by omega)]
      exact w6 k (by omega)
theorem Wp_w4 {A A' : Nat → Int32} {z f t : Nat} (w : Wp A) (hz : an A 251 = z) (hz8 : z < 4) (hf : f < hn A) (ht : t < hn A) (h1 : A' (216 + 2 * z) = nI f) (h3 : A' (216 + 1 + 2 * z) = nI t) (h2 : A' 251 = nI (z + 1)) (hA : ∀ j, j ≠ 216 + 2 * z → j ≠ 216 + 1 + 2 * z → j ≠ 251 → A' j = A j) : Wp A' := by
  obtain ⟨w1, w2, w3, w4, w5, w6⟩ := w
  have q1 := (an_le w1 (by omega)).1
  have q2 := (an_le w2 (by omega)).1
  have q3 := (an_le w3 (by omega)).1
  have e := hn_c (hA 250 (by omega) (by omega) (by omega))
  have e3 : ∀ k, k < an A' 253 → ∃ f : Nat, A' (232 + 2 * k) = nI f ∧ f < hn A' := by
    intro k hk
    rw [an_c (hA 253 (by omega) (by omega) (by omega))] at hk
    rw [hA _ (by omega) (by omega) (by omega), e]
    exact w6 k hk
  have e1 : ∀ k, k < an A' 252 → ∃ f t : Nat, A' (224 + 2 * k) = nI f ∧ A' (224 + 1 + 2 * k) = nI t ∧ f < hn A' ∧ t < hn A' := by
    intro k hk
    rw [an_c (hA 252 (by omega) (by omega) (by omega))] at hk
    rw [hA _ (by omega) (by omega) (by omega), hA _ (by omega) (by omega) (by omega), e]
    first | exact w4 k hk | exact w5 k hk
  have e2 : ∀ k, k < an A' 251 → ∃ f t : Nat, A' (216 + 2 * k) = nI f ∧ A' (216 + 1 + 2 * k) = nI t ∧ f < hn A' ∧ t < hn A' := by
    intro k hk
    rw [an_v h2 (by omega)] at hk
    rw [e]
    by_cases hkz : k = z
    · subst hkz
      exact ⟨f, t, h1, h3, hf, ht⟩
    · rw [hA _ (by omega) (by omega) (by omega), hA _ (by omega) (by omega) (by omega)]
      first | exact w4 k (by omega) | exact w5 k (by omega)
  have f1 : ∃ n : Nat, A' 251 = nI n ∧ n ≤ 4 := ⟨z + 1, h2, by omega⟩
  have f2 : ∃ n : Nat, A' 252 = nI n ∧ n ≤ 4 := by
    rw [hA _ (by omega) (by omega) (by omega)]
    first | exact w1 | exact w2
  have f3 : ∃ n : Nat, A' 253 = nI n ∧ n ≤ 8 := by
    rw [hA _ (by omega) (by omega) (by omega)]
    exact w3
  first | exact ⟨f1, f2, f3, e2, e1, e3⟩ | exact ⟨f2, f1, f3, e1, e2, e3⟩
theorem Wp_w5 {A A' : Nat → Int32} {z f t : Nat} (w : Wp A) (hz : an A 252 = z) (hz8 : z < 4) (hf : f < hn A) (ht : t < hn A) (h1 : A' (224 + 2 * z) = nI f) (h3 : A' (224 + 1 + 2 * z) = nI t) (h2 : A' 252 = nI (z + 1)) (hA : ∀ j, j ≠ 224 + 2 * z → j ≠ 224 + 1 + 2 * z → j ≠ 252 → A' j = A j) : Wp A' := by
  obtain ⟨w1, w2, w3, w4, w5, w6⟩ := w
  have q1 := (an_le w1 (by omega)).1
  have q2 := (an_le w2 (by omega)).1
  have q3 := (an_le w3 (by omega)).1
  have e := hn_c (hA 250 (by omega) (by omega) (by omega))
  have e3 : ∀ k, k < an A' 253 → ∃ f : Nat, A' (232 + 2 * k) = nI f ∧ f < hn A' := by
    intro k hk
    rw [an_c (hA 253 (by omega) (by omega) (by omega))] at hk
    rw [hA _ (by omega) (by omega) (by omega), e]
    exact w6 k hk
  have e1 : ∀ k, k < an A' 251 → ∃ f t : Nat, A' (216 + 2 * k) = nI f ∧ A' (216 + 1 + 2 * k) = nI t ∧ f < hn A' ∧ t < hn A' := by
    intro k hk
    rw [an_c (hA 251 (by omega) (by omega) (by omega))] at hk
    rw [hA _ (by omega) (by omega) (by omega), hA _ (by omega) (by omega) (by omega), e]
    first | exact w4 k hk | exact w5 k hk
  have e2 : ∀ k, k < an A' 252 → ∃ f t : Nat, A' (224 + 2 * k) = nI f ∧ A' (224 + 1 + 2 * k) = nI t ∧ f < hn A' ∧ t < hn A' := by
    intro k hk
    rw [an_v h2 (by omega)] at hk
    rw [e]
    by_cases hkz : k = z
    · subst hkz
      exact ⟨f, t, h1, h3, hf, ht⟩
    · rw [hA _ (by omega) (by omega) (by omega), hA _ (by omega) (by omega) (by omega)]
      first | exact w4 k (by omega) | exact w5 k (by omega)
  have f1 : ∃ n : Nat, A' 252 = nI n ∧ n ≤ 4 := ⟨z + 1, h2, by omega⟩
  have f2 : ∃ n : Nat, A' 251 = nI n ∧ n ≤ 4 := by
    rw [hA _ (by omega) (by omega) (by omega)]
    first | exact w1 | exact w2
  have f3 : ∃ n : Nat, A' 253 = nI n ∧ n ≤ 8 := by
    rw [hA _ (by omega) (by omega) (by omega)]
    exact w3
  first | exact ⟨f1, f2, f3, e2, e1, e3⟩ | exact ⟨f2, f1, f3, e1, e2, e3⟩
theorem ob_log {G : gG} : gOb (Inv LS CV MV G) (gb G) (gB G) (gB G + 54) 141 258 2 := by
  intro σ k as hl hk hI
  obtain ⟨p0, p1, rfl⟩ := len2 hl
  have hv := Inv_Sh hI
  have hb := Inv_b hI
  obtain ⟨own, ⟨w1, w2, w3, w4, w5⟩, ⟨t1, t2, t3, t4, t5⟩, lw⟩ := Inv_i4 hI
  have hn1 := hn_le w1
  have hn2 := hn_eq w1
  obtain ⟨q1, q2⟩ := an_le w4.2.2.1 (by omega)
  have t6 : gI σ (gB G + 15) 2 = gI σ (gB G + 56) 253 := t4.2.2.1
  have zk : 20 ≤ 21 ∧ 21 < 27 := by decide
  by_cases h1 : -nI 1 ≤ p1 ∧ p1 ≤ nI 99
  · by_cases h0 : nI 0 ≤ p0 ∧ p0 < nI (hn (gI σ (gB G + 56)))
    · obtain ⟨h, hh, rfl⟩ := in_lt (by omega) h0
      generalize hz : an (gI σ (gB G + 56)) 253 = z at q1 q2
      by_cases hz8 : z = 8
      · subst hz8
        simp (disch := first | omega | (simp only [IvS_I]; assumption) | (simp only [n_K_I, n_K_J, n_K_R, n_K_r, n_N_I, n_N_J, n_N_R, n_N_r, n_R_I, n_R_J, n_R_r, n_J_I, n_J_R, n_J_r, n_I_J, n_I_R, n_n_I, n_n_J, n_n_R, n_n_r, n_w_I, n_w_J, n_w_R, n_w_r, n_T_I, n_T_J, n_T_R, n_T_r, n_I_I, n_I_r, n_J_J, n_R_R, Nat.add_left_cancel_iff, Nat.add_right_cancel_iff, Nat.add_eq_left, Nat.left_eq_add, Nat.reduceEqDiff, Nat.reduceAdd, Nat.zero_ne_one, Nat.one_ne_zero, false_and, and_false, true_and, and_true, and_self, if_false, if_true, ↓reduceIte, sk_16 hv, sk_17 hv]; decide)) only [List.map_cons, List.map_nil, Value.int.injEq, gSc_r, gSc_I, n10, n01, Nat.not_lt_zero, ne_eq, Nat.add_zero, Nat.one_ne_zero, Nat.zero_ne_one, Nat.reduceEqDiff, bI_T, bI_F, bI_0, bI_1, bI_01, not_and_self, true_and, and_true, not_true_eq_false, not_false_eq_true, false_imp_iff, true_imp_iff, imp_self, gPv_n, gPv_i, gPv_r, gPv_0, Option.toList_some, Option.toList_none, List.singleton_append, List.cons_append, List.nil_append, List.length_nil, List.length_cons, Nat.zero_le, Nat.reduceAdd, Nat.reduceLeDiff, or_true, true_or, false_or, or_false, and_self, and_false, false_and, implies_true, Option.some.injEq, exists_eq_left', n_K_I, n_K_J, n_K_R, n_K_r, n_N_I, n_N_J, n_N_R, n_N_r, n_R_I, n_R_J, n_R_r, n_J_I, n_J_R, n_J_r, n_I_J, n_I_R, n_n_I, n_n_J, n_n_R, n_n_r, n_w_I, n_w_J, n_w_R, n_w_r, n_T_I, n_T_J, n_T_R, n_T_r, n_I_I, n_I_r, n_J_J, n_R_R, Nat.add_left_cancel_iff, Nat.add_right_cancel_iff, Nat.add_eq_left, Nat.left_eq_add, Nat.reduceEqDiff, Nat.reduceAdd, Nat.zero_ne_one, Nat.one_ne_zero, false_and, and_false, true_and, and_true, and_self, if_false, if_true, ↓reduceIte, c_141, e_141_0, e_141_1, e_141_2, e_141_4, e_141_7, e_141_10, e_141_11, e_141_12, e_141_15, e_141_16, e_141_17, e_141_20, e_141_21, e_141_24, e_141_27, e_141_28, e_141_30, e_141_33, e_141_34, e_141_35, e_141_36, e_141_39, e_141_42, e_141_43, e_141_44, e_141_47, c_258, e_258_0, e_258_1, e_258_2, e_258_4, e_258_7, e_258_10, e_258_11, e_258_12, e_258_15, e_258_16, e_258_17, e_258_18, e_258_21, e_258_24, e_258_25, e_258_27, e_258_30, e_258_31, e_258_32, e_258_35, e_258_38, e_258_39, e_258_40, e_258_41, e_258_43, e_258_46, e_258_47, e_258_49, e_258_52, e_258_53, e_258_54, e_258_57, e_258_60, e_258_61, e_258_62, e_258_63, e_258_64, e_258_65, e_258_66, e_258_67, e_258_70, e_258_73, e_258_74, e_258_75, e_258_76, e_258_77, e_258_78, e_258_79, e_258_80, e_258_81, e_258_82, e_258_85, e_258_88, e_258_89, e_258_90, e_258_91, e_258_92, e_258_93, e_258_94, e_258_95, e_258_96, e_258_97, e_258_100, c_159, e_159_0, e_159_0n, e_159_1, e_159_4, e_159_7, e_159_8, e_159_10, e_159_13, e_159_14, e_159_14n, e_159_15, e_159_16, e_159_17, e_159_20, e_159_21, e_159_24, e_159_24n, e_159_25, e_159_28, e_159_29, e_159_30, e_159_33, e_159_34, e_159_34n, e_159_35, e_159_38, e_159_41, c_37, e_37_0, e_37_1, e_37_4, e_37_5, e_37_8, e_37_9, e_37_12, e_37_13, e_37_16, e_37_17, sk_0 hv, sr_0_0 hv, sr_0_1 hv, sr_0_2 hv, sr_0_4 hv, sr_0_7 hv, sr_0_9 hv, sr_0_10 hv, sr_0_11 hv, sr_0_12 hv, sr_0_13 hv, sr_0_14 hv, sk_1 hv, sr_1_0 hv, sr_1_1 hv, sr_1_2 hv, sr_1_3 hv, sr_1_4 hv, sr_1_7 hv, sr_1_9 hv, sr_1_14 hv, sr_1_15 hv, sr_1_16 hv, sk_15 hv, sr_15_0 hv, sr_15_1 hv, sk_16 hv, sn_16 hv, sk_17 hv, sn_17 hv, sk_54 hv, sr_54_2 hv, sr_54_3 hv, sr_54_4 hv, sr_54_5 hv, sr_54_7 hv, sr_54_8 hv, sr_54_9 hv, sr_54_12 hv, sr_54_13 hv, sr_54_14 hv, sr_54_22 hv, sr_54_25 hv, sr_54_26 hv, sr_54_27 hv, sr_54_34 hv, sr_54_35 hv, sr_54_36 hv, sr_54_37 hv, sr_54_38 hv, sr_54_40 hv, sr_54_43 hv, sr_54_44 hv, sr_54_45 hv, sr_54_46 hv, sr_54_47 hv, sk_56 hv, sn_56 hv, nL, nI_add, nI_mul, nI_clamp, nI_ltI, nI_leI, nI_eq, nI_pos, nI_pos', Nat.reduceAdd, Nat.reduceMul, Nat.reducePow, s_within, s_has (sk_1 hv), s_refuse_5, t_refuses_5, t_isHouse, t_lies, t1.1, hn2, le_sub1, bI_t, h1, hh, t6, q2, nI_of_len, Nat.reduceLT]
        exact Inv_ref_5 hk hI
      · have hz9 : z < 8 := by omega
        have hz7 : ¬ 8 ≤ z := by omega
        have g1 : 232 + 2 * z < 5062 := by omega
        have g2 : 232 + 2 * z + 1 < 5062 := by omega
        simp (disch := first | omega | (simp only [IvS_I]; assumption) | (simp only [n_K_I, n_K_J, n_K_R, n_K_r, n_N_I, n_N_J, n_N_R, n_N_r, n_R_I, n_R_J, n_R_r, n_J_I, n_J_R, n_J_r, n_I_J, n_I_R, n_n_I, n_n_J, n_n_R, n_n_r, n_w_I, n_w_J, n_w_R, n_w_r, n_T_I, n_T_J, n_T_R, n_T_r, n_I_I, n_I_r, n_J_J, n_R_R, Nat.add_left_cancel_iff, Nat.add_right_cancel_iff, Nat.add_eq_left, Nat.left_eq_add, Nat.reduceEqDiff, Nat.reduceAdd, Nat.zero_ne_one, Nat.one_ne_zero, false_and, and_false, true_and, and_true, and_self, if_false, if_true, ↓reduceIte, sk_16 hv, sk_17 hv]; decide)) only [List.map_cons, List.map_nil, Value.int.injEq, gSc_r, gSc_I, n10, n01, Nat.not_lt_zero, ne_eq, Nat.add_zero, Nat.one_ne_zero, Nat.zero_ne_one, Nat.reduceEqDiff, bI_T, bI_F, bI_0, bI_1, bI_01, not_and_self, true_and, and_true, not_true_eq_false, not_false_eq_true, false_imp_iff, true_imp_iff, imp_self, gPv_n, gPv_i, gPv_r, gPv_0, Option.toList_some, Option.toList_none, List.singleton_append, List.cons_append, List.nil_append, List.length_nil, List.length_cons, Nat.zero_le, Nat.reduceAdd, Nat.reduceLeDiff, or_true, true_or, false_or, or_false, and_self, and_false, false_and, implies_true, Option.some.injEq, exists_eq_left', n_K_I, n_K_J, n_K_R, n_K_r, n_N_I, n_N_J, n_N_R, n_N_r, n_R_I, n_R_J, n_R_r, n_J_I, n_J_R, n_J_r, n_I_J, n_I_R, n_n_I, n_n_J, n_n_R, n_n_r, n_w_I, n_w_J, n_w_R, n_w_r, n_T_I, n_T_J, n_T_R, n_T_r, rI_ne, rI_nk, rI_eq, rr_ne, rr_eq, n_J_J, n_R_R, Nat.add_left_cancel_iff, Nat.add_right_cancel_iff, Nat.add_eq_left, Nat.left_eq_add, Nat.reduceEqDiff, Nat.reduceAdd, Nat.zero_ne_one, Nat.one_ne_zero, false_and, and_false, true_and, and_true, and_self, if_false, if_true, ↓reduceIte, c_141, e_141_0, e_141_1, e_141_2, e_141_4, e_141_7, e_141_10, e_141_11, e_141_12, e_141_15, e_141_16, e_141_17, e_141_20, e_141_21, e_141_24, e_141_27, e_141_28, e_141_30, e_141_33, e_141_34, e_141_35, e_141_36, e_141_39, e_141_42, e_141_43, e_141_44, e_141_47, c_258, e_258_0, e_258_1, e_258_2, e_258_4, e_258_7, e_258_10, e_258_11, e_258_12, e_258_15, e_258_16, e_258_17, e_258_18, e_258_21, e_258_24, e_258_25, e_258_27, e_258_30, e_258_31, e_258_32, e_258_35, e_258_38, e_258_39, e_258_40, e_258_41, e_258_43, e_258_46, e_258_47, e_258_49, e_258_52, e_258_53, e_258_54, e_258_57, e_258_60, e_258_61, e_258_62, e_258_63, e_258_64, e_258_65, e_258_66, e_258_67, e_258_70, e_258_73, e_258_74, e_258_75, e_258_76, e_258_77, e_258_78, e_258_79, e_258_80, e_258_81, e_258_82, e_258_85, e_258_88, e_258_89, e_258_90, e_258_91, e_258_92, e_258_93, e_258_94, e_258_95, e_258_96, e_258_97, e_258_100, c_159, e_159_0, e_159_0n, e_159_1, e_159_4, e_159_7, e_159_8, e_159_10, e_159_13, e_159_14, e_159_14n, e_159_15, e_159_16, e_159_17, e_159_20, e_159_21, e_159_24, e_159_24n, e_159_25, e_159_28, e_159_29, e_159_30, e_159_33, e_159_34, e_159_34n, e_159_35, e_159_38, e_159_41, c_37, e_37_0, e_37_1, e_37_4, e_37_5, e_37_8, e_37_9, e_37_12, e_37_13, e_37_16, e_37_17, c_38, e_38_0, e_38_1, e_38_4, e_38_5, e_38_8, e_38_9, e_38_12, e_38_13, e_38_16, e_38_17, e_38_20, e_38_21, e_38_24, e_38_25, e_38_28, e_38_29, e_38_32, e_38_33, e_38_34, e_38_35, e_38_38, e_38_39, e_38_42, e_38_43, e_38_44, e_38_45, e_38_45n, e_38_46, e_38_49, e_38_50, e_38_51, e_38_54, sk_0 hv, sr_0_0 hv, sr_0_1 hv, sr_0_2 hv, sr_0_4 hv, sr_0_7 hv, sr_0_9 hv, sr_0_10 hv, sr_0_11 hv, sr_0_12 hv, sr_0_13 hv, sr_0_14 hv, sk_1 hv, sr_1_0 hv, sr_1_1 hv, sr_1_2 hv, sr_1_3 hv, sr_1_4 hv, sr_1_7 hv, sr_1_9 hv, sr_1_14 hv, sr_1_15 hv, sr_1_16 hv, sk_15 hv, sr_15_0 hv, sr_15_1 hv, sk_16 hv, sn_16 hv, sk_17 hv, sn_17 hv, sk_54 hv, sr_54_2 hv, sr_54_3 hv, sr_54_4 hv, sr_54_5 hv, sr_54_7 hv, sr_54_8 hv, sr_54_9 hv, sr_54_12 hv, sr_54_13 hv, sr_54_14 hv, sr_54_22 hv, sr_54_25 hv, sr_54_26 hv, sr_54_27 hv, sr_54_34 hv, sr_54_35 hv, sr_54_36 hv, sr_54_37 hv, sr_54_38 hv, sr_54_40 hv, sr_54_43 hv, sr_54_44 hv, sr_54_45 hv, sr_54_46 hv, sr_54_47 hv, sk_56 hv, sn_56 hv, nL, nI_add, nI_mul, nI_clamp, nI_ltI, nI_leI, nI_eq, nI_pos, nI_pos', Nat.reduceAdd, Nat.reduceMul, Nat.reducePow, s_within, s_has (sk_1 hv), s_accept, t_good, t_isHouse, t_lies, t1.1, hn2, le_sub1, bI_t, h1, hh, t6, q2, nI_of_len, Nat.reduceLT, hz9, hz8, hz7, g1, g2]
        refine Inv_A (by repeat (first | exact Sm_refl _ _ | refine Sm_B ?_ (by decide) | refine Sm_B0 ?_)) hI (by intro o ho; simp (disch := omega) only [rI_ne]) (by intro h; simpa (disch := omega) only [I6, rI_ne, rI_nk] using h) (by intro j hj; simp (disch := omega) only [rI_ne, rI_nk]) ⟨1, by omega, by omega, by simp (disch := omega) only [rI_ne, rI_nk, rI_eq]⟩ (by simp (disch := omega) only [rI_ne, rI_nk, rI_eq]) (by intro h; simp only [I7] at h ⊢; simp (disch := omega) only [rI_ne, rI_nk, rI_eq, h, and_self]) ?_ hk
        intro own hl i4
        obtain ⟨g3, g4, g5⟩ := Tp_TL.mp t4
        have q3 := (an_le w4.1 (by omega)).1
        have q4 := (an_le w4.2.1 (by omega)).1
        refine I4_p (by simp only [n_K_I]) (by simp only [n_N_I]) (by simp only [n_R_I]) hl (by intros; simp (disch := omega) only [rI_ne, rI_nk]) (by intros; simp (disch := omega) only [rI_ne, rI_nk]) (by intros; simp (disch := omega) only [rI_ne, rI_nk]) i4 ?_ ?_
        · exact Wp_log (z := z) (f := h) w4 hz hz9 hh (by simp (disch := omega) only [rI_ne, rI_nk, rI_eq]) (by simp (disch := omega) only [rI_ne, rI_eq]) (by intros; simp (disch := omega) only [rI_ne, rI_nk])
        · refine Tp_TL.mpr ⟨TL_c g3 ?_ ?_ ?_ ?_ ?_, TL_c g4 ?_ ?_ ?_ ?_ ?_, TL_1 (z := z) (x := nI h) (y := p1) g5 hz (by omega) ?_ ?_ ?_ ?_ ?_ ?_ ?_ ?_ ?_⟩
          all_goals first | (simp (disch := omega) only [rI_ne, rI_nk, rI_eq, Nat.add_assoc, Nat.reduceAdd]; done) | (simp (disch := omega) only [rI_ne]; rw [show 232 + 1 + 2 * z = 232 + 2 * z + 1 from by omega]; simp (disch := omega) only [rI_ne, rI_nk, rI_eq]) | (intro k hk; simp (disch := omega) only [rI_ne, rI_nk, and_self, Nat.add_assoc, Nat.reduceAdd])
    · simp (disch := first | omega | (simp only [IvS_I, IvS_J, IvS_r]; assumption)) only [List.map_cons, List.map_nil, Value.int.injEq, gSc_r, gSc_I, n10, n01, Nat.not_lt_zero, ne_eq, Nat.add_zero, Nat.one_ne_zero, Nat.zero_ne_one, Nat.reduceEqDiff, bI_T, bI_F, bI_0, bI_1, bI_01, not_and_self, true_and, and_true, not_true_eq_false, not_false_eq_true, false_imp_iff, true_imp_iff, imp_self, gPv_n, gPv_i, gPv_r, gPv_0, Option.toList_some, Option.toList_none, List.singleton_append, List.cons_append, List.nil_append, List.length_nil, List.length_cons, Nat.zero_le, Nat.reduceAdd, Nat.reduceLeDiff, or_true, true_or, false_or, or_false, and_self, and_false, false_and, implies_true, Option.some.injEq, exists_eq_left', n_K_I, n_K_J, n_K_R, n_K_r, n_N_I, n_N_J, n_N_R, n_N_r, n_R_I, n_R_J, n_R_r, n_J_I, n_J_R, n_J_r, n_I_J, n_I_R, n_n_I, n_n_J, n_n_R, n_n_r, n_w_I, n_w_J, n_w_R, n_w_r, n_T_I, n_T_J, n_T_R, n_T_r, n_I_I, n_I_r, n_J_J, n_R_R, Nat.add_left_cancel_iff, Nat.add_right_cancel_iff, Nat.add_eq_left, Nat.left_eq_add, Nat.reduceEqDiff, Nat.reduceAdd, Nat.zero_ne_one, Nat.one_ne_zero, false_and, and_false, true_and, and_true, and_self, if_false, if_true, ↓reduceIte, c_141, e_141_0, e_141_1, e_141_2, e_141_4, e_141_7, e_141_10, e_141_11, e_141_12, e_141_15, e_141_16, e_141_17, e_141_20, e_141_21, e_141_24, e_141_27, e_141_28, e_141_30, e_141_33, e_141_34, e_141_35, e_141_36, e_141_39, e_141_42, e_141_43, e_141_44, e_141_47, c_258, e_258_0, e_258_1, e_258_2, e_258_4, e_258_7, e_258_10, e_258_11, e_258_12, e_258_15, e_258_16, e_258_17, e_258_18, e_258_21, e_258_24, e_258_25, e_258_27, e_258_30, e_258_31, e_258_32, e_258_35, e_258_38, e_258_39, e_258_40, e_258_41, e_258_43, e_258_46, e_258_47, e_258_49, e_258_52, e_258_53, e_258_54, e_258_57, e_258_60, e_258_61, e_258_62, e_258_63, e_258_64, e_258_65, e_258_66, e_258_67, e_258_70, e_258_73, e_258_74, e_258_75, e_258_76, e_258_77, e_258_78, e_258_79, e_258_80, e_258_81, e_258_82, e_258_85, e_258_88, e_258_89, e_258_90, e_258_91, e_258_92, e_258_93, e_258_94, e_258_95, e_258_96, e_258_97, e_258_100, sk_0 hv, sr_0_0 hv, sr_0_1 hv, sr_0_2 hv, sr_0_4 hv, sr_0_7 hv, sr_0_9 hv, sr_0_10 hv, sr_0_11 hv, sr_0_12 hv, sr_0_13 hv, sr_0_14 hv, sk_1 hv, sr_1_0 hv, sr_1_1 hv, sr_1_2 hv, sr_1_3 hv, sr_1_4 hv, sr_1_7 hv, sr_1_9 hv, sr_1_14 hv, sr_1_15 hv, sr_1_16 hv, sk_54 hv, sr_54_2 hv, sr_54_3 hv, sr_54_4 hv, sr_54_5 hv, sr_54_7 hv, sr_54_8 hv, sr_54_9 hv, sr_54_12 hv, sr_54_13 hv, sr_54_14 hv, sr_54_22 hv, sr_54_25 hv, sr_54_26 hv, sr_54_27 hv, sr_54_34 hv, sr_54_35 hv, sr_54_36 hv, sr_54_37 hv, sr_54_38 hv, sr_54_40 hv, sr_54_43 hv, sr_54_44 hv, sr_54_45 hv, sr_54_46 hv, sr_54_47 hv, sk_56 hv, sn_56 hv, nL, s_within, s_has (sk_1 hv), s_refuse_2, t_refuses_2, t_isHouse, t_lies, t1.1, hn2, le_sub1, bI_t, h1, h0]
      exact Inv_ref_2 hk hI
  · simp (disch := first | omega | (simp only [IvS_I, IvS_J, IvS_r]; assumption)) only [List.map_cons, List.map_nil, Value.int.injEq, gSc_r, gSc_I, n10, n01, Nat.not_lt_zero, ne_eq, Nat.add_zero, Nat.one_ne_zero, Nat.zero_ne_one, Nat.reduceEqDiff, bI_T, bI_F, bI_0, bI_1, bI_01, not_and_self, true_and, and_true, not_true_eq_false, not_false_eq_true, false_imp_iff, true_imp_iff, imp_self, gPv_n, gPv_i, gPv_r, gPv_0, Option.toList_some, Option.toList_none, List.singleton_append, List.cons_append, List.nil_append, List.length_nil, List.length_cons, Nat.zero_le, Nat.reduceAdd, Nat.reduceLeDiff, or_true, true_or, false_or, or_false, and_self, and_false, false_and, implies_true, Option.some.injEq, exists_eq_left', n_K_I, n_K_J, n_K_R, n_K_r, n_N_I, n_N_J, n_N_R, n_N_r, n_R_I, n_R_J, n_R_r, n_J_I, n_J_R, n_J_r, n_I_J, n_I_R, n_n_I, n_n_J, n_n_R, n_n_r, n_w_I, n_w_J, n_w_R, n_w_r, n_T_I, n_T_J, n_T_R, n_T_r, n_I_I, n_I_r, n_J_J, n_R_R, Nat.add_left_cancel_iff, Nat.add_right_cancel_iff, Nat.add_eq_left, Nat.left_eq_add, Nat.reduceEqDiff, Nat.reduceAdd, Nat.zero_ne_one, Nat.one_ne_zero, false_and, and_false, true_and, and_true, and_self, if_false, if_true, ↓reduceIte, c_141, e_141_0, e_141_1, e_141_2, e_141_4, e_141_7, e_141_10, e_141_11, e_141_12, e_141_15, e_141_16, e_141_17, e_141_20, e_141_21, e_141_24, e_141_27, e_141_28, e_141_30, e_141_33, e_141_34, e_141_35, e_141_36, e_141_39, e_141_42, e_141_43, e_141_44, e_141_47, c_258, e_258_0, e_258_1, e_258_2, e_258_4, e_258_7, e_258_10, e_258_11, e_258_12, e_258_15, e_258_16, e_258_17, e_258_18, e_258_21, e_258_24, e_258_25, e_258_27, e_258_30, e_258_31, e_258_32, e_258_35, e_258_38, e_258_39, e_258_40, e_258_41, e_258_43, e_258_46, e_258_47, e_258_49, e_258_52, e_258_53, e_258_54, e_258_57, e_258_60, e_258_61, e_258_62, e_258_63, e_258_64, e_258_65, e_258_66, e_258_67, e_258_70, e_258_73, e_258_74, e_258_75, e_258_76, e_258_77, e_258_78, e_258_79, e_258_80, e_258_81, e_258_82, e_258_85, e_258_88, e_258_89, e_258_90, e_258_91, e_258_92, e_258_93, e_258_94, e_258_95, e_258_96, e_258_97, e_258_100, sk_0 hv, sr_0_0 hv, sr_0_1 hv, sr_0_2 hv, sr_0_4 hv, sr_0_7 hv, sr_0_9 hv, sr_0_10 hv, sr_0_11 hv, sr_0_12 hv, sr_0_13 hv, sr_0_14 hv, sk_1 hv, sr_1_0 hv, sr_1_1 hv, sr_1_2 hv, sr_1_3 hv, sr_1_4 hv, sr_1_7 hv, sr_1_9 hv, sr_1_14 hv, sr_1_15 hv, sr_1_16 hv, sk_54 hv, sr_54_2 hv, sr_54_3 hv, sr_54_4 hv, sr_54_5 hv, sr_54_7 hv, sr_54_8 hv, sr_54_9 hv, sr_54_12 hv, sr_54_13 hv, sr_54_14 hv, sr_54_22 hv, sr_54_25 hv, sr_54_26 hv, sr_54_27 hv, sr_54_34 hv, sr_54_35 hv, sr_54_36 hv, sr_54_37 hv, sr_54_38 hv, sr_54_40 hv, sr_54_43 hv, sr_54_44 hv, sr_54_45 hv, sr_54_46 hv, sr_54_47 hv, sk_56 hv, sn_56 hv, nL, s_within, s_has (sk_1 hv), s_refuse_1, t_refuses_1, t_isHouse, t_lies, t1.1, hn2, le_sub1, bI_t, h1]
    exact Inv_ref_1 hk hI
end
