/-! doors: the model, two doors -/
section
variable {B : Nat} {own : Nat → Nat} {σ : gS} {A : Nat → Int32} {d v : Nat} {Q : Option Value → gS → Prop} {E : Nat → Nat}
theorem t_dr2i {p : Nat} {σ0 : gS} (X0 : MX B σ0 A) (hp : Wp A) (hq : QM B A v σ0 σ) (c : prB A p = true) (hp2 : p < 144) (K : ∀ τ', DmT B σ τ' → DmX B (o2 A) 2 f2 (144 * p + 144) τ' → wp (d + 8) pr_254 Q 133 [some (.ref (B + 54)), some (.int (nI 2)), some (.int (nI p)), some (.int (nI 144))] [] τ') : ∀ m q τ, q + m = 144 → p < q → DmT B σ τ → gI τ (B + 54) 30 = nI (p / 12) → gI τ (B + 54) 31 = nI (p % 12) → DmX B (o2 A) 2 f2 (144 * p + q) τ → wp (d + 8) pr_254 Q 83 [some (.ref (B + 54)), some (.int (nI 2)), some (.int (nI p)), some (.int (nI q))] [] τ := by
  have X := QM_X X0 hq
  have wh := X.2.2.1
  have h12 := hn_le wh
  have q6 := hq.2.2.2.2.2
  obtain ⟨r1, r2⟩ := pr_lt c
  intro m
  induction m with
  | zero =>
    intro q τ hpm hpq hF h30 h31 hD
    have e : q = 144 := by omega
    subst e
    simp (disch := omega) only [e_254_83, e_254_84, e_254_87, n10, n01, Nat.lt_irrefl, Nat.not_lt_zero, ne_eq, Nat.add_zero, Nat.one_ne_zero, Nat.zero_ne_one, Nat.reduceEqDiff, bI_T, bI_F, bI_0, bI_1, bI_01, not_and_self, true_and, and_true, not_true_eq_false, not_false_eq_true, false_imp_iff, true_imp_iff, imp_self, gPv_n, gPv_i, gPv_r, gPv_0, Option.toList_some, Option.toList_none, List.singleton_append, List.cons_append, List.nil_append, List.length_nil, List.length_cons, Nat.zero_le, Nat.reduceAdd, Nat.reduceLeDiff, or_true, true_or, false_or, or_false, and_self, and_false, false_and, implies_true, Option.some.injEq, exists_eq_left', nL, nI_add, nI_mul, nI_clamp, nI_ltI, nI_leI, nI_eq, nI_pos, nI_pos', Nat.reduceAdd, Nat.reduceMul, Nat.reducePow, Nat.le_refl]
    exact K τ hF hD
  | succ m ih =>
    intro q τ hpm hpq hF h30 h31 hD
    have z : ¬ 144 ≤ q := by omega
    have XT : MX B τ A := MX_S X hF.1 (by omega)
    have hvT := XT.1
    have e1 : (144 * p + q) / 144 = p := by omega
    have e2 : (144 * p + q) % 144 = q := by omega
    rw [e_254_83]
    cases c' : prB A q
    · have cp : o2 A (144 * p + q) = false := by rw [o2, e1, e2, c', Bool.and_false, Bool.and_false, Bool.false_and]
      simp (disch := omega) only [e_254_84, e_254_87, e_254_90, e_254_91, e_254_92, e_254_95, e_254_96, e_254_97, e_254_100, e_254_103, e_254_127, e_254_130, n10, n01, Nat.lt_irrefl, Nat.not_lt_zero, ne_eq, Nat.add_zero, Nat.one_ne_zero, Nat.zero_ne_one, Nat.reduceEqDiff, bI_T, bI_F, bI_0, bI_1, bI_01, not_and_self, true_and, and_true, not_true_eq_false, not_false_eq_true, false_imp_iff, true_imp_iff, imp_self, gPv_n, gPv_i, gPv_r, gPv_0, Option.toList_some, Option.toList_none, List.singleton_append, List.cons_append, List.nil_append, List.length_nil, List.length_cons, Nat.zero_le, Nat.reduceAdd, Nat.reduceLeDiff, or_true, true_or, false_or, or_false, and_self, and_false, false_and, implies_true, Option.some.injEq, exists_eq_left', nL, nI_add, nI_mul, nI_clamp, nI_ltI, nI_leI, nI_eq, nI_pos, nI_pos', Nat.reduceAdd, Nat.reduceMul, Nat.reducePow, sk_54 hvT, sr_54_2 hvT, sr_54_3 hvT, sr_54_4 hvT, sr_54_5 hvT, sr_54_7 hvT, sr_54_8 hvT, sr_54_9 hvT, sr_54_12 hvT, sr_54_13 hvT, sr_54_14 hvT, sr_54_22 hvT, sr_54_25 hvT, sr_54_26 hvT, sr_54_27 hvT, sr_54_34 hvT, sr_54_35 hvT, sr_54_36 hvT, sr_54_37 hvT, sr_54_38 hvT, sr_54_40 hvT, sr_54_43 hvT, sr_54_44 hvT, sr_54_45 hvT, sr_54_46 hvT, sr_54_47 hvT, z, t_isPair XT, c', Bool.false_eq_true]
      exact ih (q + 1) τ (by omega) (by omega) hF h30 h31 (DX_0 hD cp)
    · obtain ⟨r3, r4⟩ := pr_lt c'
      have cp : o2 A (144 * p + q) = wsB A (D2 A p q) := by
        rw [o2, e1, e2, c', c]
        simp [hpq]
      simp (disch := omega) only [e_254_84, e_254_87, e_254_90, e_254_91, e_254_92, e_254_95, e_254_96, e_254_97, e_254_100, e_254_103, e_254_106, e_254_107, e_254_108, e_254_110, e_254_111, e_254_114, e_254_115, e_254_116, e_254_118, e_254_119, e_254_122, e_254_123, e_254_124, n10, n01, Nat.lt_irrefl, Nat.not_lt_zero, ne_eq, Nat.add_zero, Nat.one_ne_zero, Nat.zero_ne_one, Nat.reduceEqDiff, bI_T, bI_F, bI_0, bI_1, bI_01, not_and_self, true_and, and_true, not_true_eq_false, not_false_eq_true, false_imp_iff, true_imp_iff, imp_self, gPv_n, gPv_i, gPv_r, gPv_0, Option.toList_some, Option.toList_none, List.singleton_append, List.cons_append, List.nil_append, List.length_nil, List.length_cons, Nat.zero_le, Nat.reduceAdd, Nat.reduceLeDiff, or_true, true_or, false_or, or_false, and_self, and_false, false_and, implies_true, Option.some.injEq, exists_eq_left', nL, nI_add, nI_mul, nI_clamp, nI_ltI, nI_leI, nI_eq, nI_pos, nI_pos', Nat.reduceAdd, Nat.reduceMul, Nat.reducePow, sk_54 hvT, sr_54_2 hvT, sr_54_3 hvT, sr_54_4 hvT, sr_54_5 hvT, sr_54_7 hvT, sr_54_8 hvT, sr_54_9 hvT, sr_54_12 hvT, sr_54_13 hvT, sr_54_14 hvT, sr_54_22 hvT, sr_54_25 hvT, sr_54_26 hvT, sr_54_27 hvT, sr_54_34 hvT, sr_54_35 hvT, sr_54_36 hvT, sr_54_37 hvT, sr_54_38 hvT, sr_54_40 hvT, sr_54_43 hvT, sr_54_44 hvT, sr_54_45 hvT, sr_54_46 hvT, sr_54_47 hvT, z, t_isPair XT, c', nI_div, nI_rem, n_K_I, n_K_J, n_K_R, n_K_r, n_N_I, n_N_J, n_N_R, n_N_r, n_R_I, n_R_J, n_R_r, n_J_I, n_J_R, n_J_r, n_I_J, n_I_R, n_n_I, n_n_J, n_n_R, n_n_r, n_w_I, n_w_J, n_w_R, n_w_r, n_T_I, n_T_J, n_T_R, n_T_r, rI_ne, rI_nk, rI_eq, rr_ne, rr_eq, n_J_J, n_R_R, Nat.add_left_cancel_iff, Nat.add_right_cancel_iff, Nat.add_eq_left, Nat.left_eq_add, Nat.reduceEqDiff, Nat.reduceAdd, Nat.zero_ne_one, Nat.one_ne_zero, false_and, and_false, true_and, and_true, and_self, if_false, if_true, ↓reduceIte]
      have hF1 : DmT B σ (sI (sI τ (B + 54) 32 (nI (q / 12))) (B + 54) 33 (nI (q % 12))) := DmT_I (DmT_I hF (by omega)) (by omega)
      have X1 : MX B (sI (sI τ (B + 54) 32 (nI (q / 12))) (B + 54) 33 (nI (q % 12))) A := MX_S X hF1.1 (by omega)
      have e : ∀ a, a ≠ B + 54 → a ≠ B + 74 → gI (sI (sI τ (B + 54) 32 (nI (q / 12))) (B + 54) 33 (nI (q % 12))) a = gI σ a := fun a x y => hF1.1.2.2.2.2.2.2.1 a (by omega)
      have hM : MVx A (A 249) (gI (sI (sI τ (B + 54) 32 (nI (q / 12))) (B + 54) 33 (nI (q % 12))) (B + 66)) (gI (sI (sI τ (B + 54) 32 (nI (q / 12))) (B + 54) 33 (nI (q % 12))) (B + 67)) (gI (sI (sI τ (B + 54) 32 (nI (q / 12))) (B + 54) 33 (nI (q % 12))) (B + 68)) := by
        rw [e _ (by omega) (by omega), e _ (by omega) (by omega), e _ (by omega) (by omega)]
        exact q6
      have g30 : gI (sI (sI τ (B + 54) 32 (nI (q / 12))) (B + 54) 33 (nI (q % 12))) (B + 54) 30 = nI (p / 12) := by rw [rI_nk (by omega), rI_nk (by omega), h30]
      have g31 : gI (sI (sI τ (B + 54) 32 (nI (q / 12))) (B + 54) 33 (nI (q % 12))) (B + 54) 31 = nI (p % 12) := by rw [rI_nk (by omega), rI_nk (by omega), h31]
      have g32 : gI (sI (sI τ (B + 54) 32 (nI (q / 12))) (B + 54) 33 (nI (q % 12))) (B + 54) 32 = nI (q / 12) := by rw [rI_nk (by omega), rI_eq]
      have g33 : gI (sI (sI τ (B + 54) 32 (nI (q / 12))) (B + 54) 33 (nI (q % 12))) (B + 54) 33 = nI (q % 12) := by rw [rI_eq]
      have hN : NX B (sI (sI τ (B + 54) 32 (nI (q / 12))) (B + 54) 33 (nI (q % 12))) (hn A) (D2 A p q) := by
        intro h hh d Q
        rw [t_nx1 X1 (show p / 12 < hn A by omega) r2 (by omega) g30 g31 hM hh, t_nx2 (F := D1 A p) X1 (show q / 12 < hn A by omega) r4 (by omega) g32 g33 hM hh]
      refine t_found (d := d + 1) (C := o2 A) (n := 2) (p := 144 * p + q) (f := f2) X1 hp hN (EdG_d (EdG_d (EdG_o wh) (EdG_w wh) (by omega) r2) (EdG_w wh) (by omega) r4) (by omega) (by omega) (DmX_I (DmX_I hD (by omega)) (by omega)) cp ?_ ?_
      · intro j hj
        have j2 : j = 0 ∨ j = 1 ∨ j = 2 ∨ j = 3 := by omega
        rcases j2 with rfl | rfl | rfl | rfl
        · rw [g30, f2, e1]
          rfl
        · rw [g31, f2, e1]
          rfl
        · rw [g32, f2, e2]
          rfl
        · rw [g33, f2, e2]
          rfl
      · intro τ2 k1 k2 k3
        have hF2 := DmT_f hF1 k1 k2
        simp (disch := omega) only [e_254_127, e_254_130, n10, n01, Nat.lt_irrefl, Nat.not_lt_zero, ne_eq, Nat.add_zero, Nat.one_ne_zero, Nat.zero_ne_one, Nat.reduceEqDiff, bI_T, bI_F, bI_0, bI_1, bI_01, not_and_self, true_and, and_true, not_true_eq_false, not_false_eq_true, false_imp_iff, true_imp_iff, imp_self, gPv_n, gPv_i, gPv_r, gPv_0, Option.toList_some, Option.toList_none, List.singleton_append, List.cons_append, List.nil_append, List.length_nil, List.length_cons, Nat.zero_le, Nat.reduceAdd, Nat.reduceLeDiff, or_true, true_or, false_or, or_false, and_self, and_false, false_and, implies_true, Option.some.injEq, exists_eq_left', nL, nI_add]
        exact ih (q + 1) τ2 (by omega) (by omega) hF2 (by rw [k2 30 (by omega) (by omega)]; exact g30) (by rw [k2 31 (by omega) (by omega)]; exact g31) k3
theorem t_dr2 {σ0 : gS} (X0 : MX B σ0 A) (hp : Wp A) (hq : QM B A v σ0 σ) (K : ∀ τ' x3, DmT B σ τ' → gI τ' (B + 54) 32 = -nI 1 → DmX B (o2 A) 2 f2 20736 τ' → wp (d + 8) pr_254 Q 144 [some (.ref (B + 54)), some (.int (nI 2)), some (.int (nI 144)), x3] [] τ') : ∀ m p τ (x3 : Option Value), p + m = 144 → DmT B σ τ → gI τ (B + 54) 32 = -nI 1 → DmX B (o2 A) 2 f2 (144 * p) τ → wp (d + 8) pr_254 Q 35 [some (.ref (B + 54)), some (.int (nI 2)), some (.int (nI p)), x3] [] τ := by
  have X := QM_X X0 hq
  intro m
  induction m with
  | zero =>
    intro p τ x3 hpm hF h32 hD
    have e : p = 144 := by omega
    subst e
    simp (disch := omega) only [e_254_35, e_254_36, e_254_39, n10, n01, Nat.lt_irrefl, Nat.not_lt_zero, ne_eq, Nat.add_zero, Nat.one_ne_zero, Nat.zero_ne_one, Nat.reduceEqDiff, bI_T, bI_F, bI_0, bI_1, bI_01, not_and_self, true_and, and_true, not_true_eq_false, not_false_eq_true, false_imp_iff, true_imp_iff, imp_self, gPv_n, gPv_i, gPv_r, gPv_0, Option.toList_some, Option.toList_none, List.singleton_append, List.cons_append, List.nil_append, List.length_nil, List.length_cons, Nat.zero_le, Nat.reduceAdd, Nat.reduceLeDiff, or_true, true_or, false_or, or_false, and_self, and_false, false_and, implies_true, Option.some.injEq, exists_eq_left', nL, nI_add, nI_mul, nI_clamp, nI_ltI, nI_leI, nI_eq, nI_pos, nI_pos', Nat.reduceAdd, Nat.reduceMul, Nat.reducePow, Nat.le_refl]
    exact K τ x3 hF h32 hD
  | succ m ih =>
    intro p τ x3 hpm hF h32 hD
    have z : ¬ 144 ≤ p := by omega
    have XT : MX B τ A := MX_S X hF.1 (by omega)
    have hvT := XT.1
    rw [e_254_35]
    cases c : prB A p
    · simp (disch := omega) only [e_254_36, e_254_39, e_254_42, e_254_43, e_254_44, e_254_47, e_254_50, e_254_138, e_254_141, n10, n01, Nat.lt_irrefl, Nat.not_lt_zero, ne_eq, Nat.add_zero, Nat.one_ne_zero, Nat.zero_ne_one, Nat.reduceEqDiff, bI_T, bI_F, bI_0, bI_1, bI_01, not_and_self, true_and, and_true, not_true_eq_false, not_false_eq_true, false_imp_iff, true_imp_iff, imp_self, gPv_n, gPv_i, gPv_r, gPv_0, Option.toList_some, Option.toList_none, List.singleton_append, List.cons_append, List.nil_append, List.length_nil, List.length_cons, Nat.zero_le, Nat.reduceAdd, Nat.reduceLeDiff, or_true, true_or, false_or, or_false, and_self, and_false, false_and, implies_true, Option.some.injEq, exists_eq_left', nL, nI_add, nI_mul, nI_clamp, nI_ltI, nI_leI, nI_eq, nI_pos, nI_pos', Nat.reduceAdd, Nat.reduceMul, Nat.reducePow, sk_54 hvT, sr_54_2 hvT, sr_54_3 hvT, sr_54_4 hvT, sr_54_5 hvT, sr_54_7 hvT, sr_54_8 hvT, sr_54_9 hvT, sr_54_12 hvT, sr_54_13 hvT, sr_54_14 hvT, sr_54_22 hvT, sr_54_25 hvT, sr_54_26 hvT, sr_54_27 hvT, sr_54_34 hvT, sr_54_35 hvT, sr_54_36 hvT, sr_54_37 hvT, sr_54_38 hvT, sr_54_40 hvT, sr_54_43 hvT, sr_54_44 hvT, sr_54_45 hvT, sr_54_46 hvT, sr_54_47 hvT, z, t_isPair XT, c, Bool.false_eq_true]
      refine ih (p + 1) τ x3 (by omega) hF h32 (DX_sk hD (by omega) ?_)
      intro j j1 j2
      have e1 : j / 144 = p := by omega
      rw [o2, e1, c, Bool.false_and, Bool.and_false, Bool.false_and]
    · simp (disch := omega) only [e_254_36, e_254_39, e_254_42, e_254_43, e_254_44, e_254_47, e_254_50, e_254_53, e_254_54, e_254_55, e_254_57, e_254_58, e_254_61, e_254_62, e_254_63, e_254_65, e_254_66, e_254_69, e_254_70, e_254_71, e_254_74, e_254_75, e_254_76, e_254_79, e_254_80, e_254_81, e_254_82, n10, n01, Nat.lt_irrefl, Nat.not_lt_zero, ne_eq, Nat.add_zero, Nat.one_ne_zero, Nat.zero_ne_one, Nat.reduceEqDiff, bI_T, bI_F, bI_0, bI_1, bI_01, not_and_self, true_and, and_true, not_true_eq_false, not_false_eq_true, false_imp_iff, true_imp_iff, imp_self, gPv_n, gPv_i, gPv_r, gPv_0, Option.toList_some, Option.toList_none, List.singleton_append, List.cons_append, List.nil_append, List.length_nil, List.length_cons, Nat.zero_le, Nat.reduceAdd, Nat.reduceLeDiff, or_true, true_or, false_or, or_false, and_self, and_false, false_and, implies_true, Option.some.injEq, exists_eq_left', nL, nI_add, nI_mul, nI_clamp, nI_ltI, nI_leI, nI_eq, nI_pos, nI_pos', Nat.reduceAdd, Nat.reduceMul, Nat.reducePow, sk_54 hvT, sr_54_2 hvT, sr_54_3 hvT, sr_54_4 hvT, sr_54_5 hvT, sr_54_7 hvT, sr_54_8 hvT, sr_54_9 hvT, sr_54_12 hvT, sr_54_13 hvT, sr_54_14 hvT, sr_54_22 hvT, sr_54_25 hvT, sr_54_26 hvT, sr_54_27 hvT, sr_54_34 hvT, sr_54_35 hvT, sr_54_36 hvT, sr_54_37 hvT, sr_54_38 hvT, sr_54_40 hvT, sr_54_43 hvT, sr_54_44 hvT, sr_54_45 hvT, sr_54_46 hvT, sr_54_47 hvT, z, t_isPair XT, c, nI_div, nI_rem, n_K_I, n_K_J, n_K_R, n_K_r, n_N_I, n_N_J, n_N_R, n_N_r, n_R_I, n_R_J, n_R_r, n_J_I, n_J_R, n_J_r, n_I_J, n_I_R, n_n_I, n_n_J, n_n_R, n_n_r, n_w_I, n_w_J, n_w_R, n_w_r, n_T_I, n_T_J, n_T_R, n_T_r, rI_ne, rI_nk, rI_eq, rr_ne, rr_eq, n_J_J, n_R_R, Nat.add_left_cancel_iff, Nat.add_right_cancel_iff, Nat.add_eq_left, Nat.left_eq_add, Nat.reduceEqDiff, Nat.reduceAdd, Nat.zero_ne_one, Nat.one_ne_zero, false_and, and_false, true_and, and_true, and_self, if_false, if_true, ↓reduceIte, Nat.reduceEqDiff]
      refine t_dr2i X0 hp hq c (by omega) ?_ (144 - (p + 1)) (p + 1) _ (by omega) (by omega) (DmT_I (DmT_I hF (by omega)) (by omega)) (by rw [rI_nk (by omega), rI_eq]) rI_eq (DmX_I (DmX_I (DX_sk hD (by omega) ?_) (by omega)) (by omega))
      · intro τ2 k1 k2
        have hv2 : IvS B τ2 := fr_IvS k1.1.1 k1.1.2.1 k1.1.2.2.1 X.1
        simp (disch := omega) only [e_254_133, e_254_134, e_254_135, e_254_138, e_254_141, n10, n01, Nat.lt_irrefl, Nat.not_lt_zero, ne_eq, Nat.add_zero, Nat.one_ne_zero, Nat.zero_ne_one, Nat.reduceEqDiff, bI_T, bI_F, bI_0, bI_1, bI_01, not_and_self, true_and, and_true, not_true_eq_false, not_false_eq_true, false_imp_iff, true_imp_iff, imp_self, gPv_n, gPv_i, gPv_r, gPv_0, Option.toList_some, Option.toList_none, List.singleton_append, List.cons_append, List.nil_append, List.length_nil, List.length_cons, Nat.zero_le, Nat.reduceAdd, Nat.reduceLeDiff, or_true, true_or, false_or, or_false, and_self, and_false, false_and, implies_true, Option.some.injEq, exists_eq_left', nL, nI_add, nI_mul, nI_clamp, nI_ltI, nI_leI, nI_eq, nI_pos, nI_pos', Nat.reduceAdd, Nat.reduceMul, Nat.reducePow, sk_54 hv2, sr_54_2 hv2, sr_54_3 hv2, sr_54_4 hv2, sr_54_5 hv2, sr_54_7 hv2, sr_54_8 hv2, sr_54_9 hv2, sr_54_12 hv2, sr_54_13 hv2, sr_54_14 hv2, sr_54_22 hv2, sr_54_25 hv2, sr_54_26 hv2, sr_54_27 hv2, sr_54_34 hv2, sr_54_35 hv2, sr_54_36 hv2, sr_54_37 hv2, sr_54_38 hv2, sr_54_40 hv2, sr_54_43 hv2, sr_54_44 hv2, sr_54_45 hv2, sr_54_46 hv2, sr_54_47 hv2, nI_add]
        exact ih (p + 1) _ _ (by omega) (DmT_I k1 (by omega)) rI_eq (DmX_I (by rw [show 144 * (p + 1) = 144 * p + 144 from by omega]; exact k2) (by omega))
      · intro j j1 j2
        have e1 : ¬ j / 144 < j % 144 := by omega
        rw [o2, decide_eq_false e1, Bool.false_and, Bool.false_and]
theorem QM_D {τ τ' : gS} (hq : QM B A v σ τ) (h : DmT B τ τ') (h32 : gI τ' (B + 54) 32 = -nI 1) : QM B A v σ (sI τ' (B + 54) 30 (-nI 1)) := by
  obtain ⟨h1, h2, ⟨h3, h3'⟩, h4, h5, h6⟩ := hq
  have e : ∀ a, a ≠ B + 54 → a ≠ B + 74 → gI τ' a = gI τ a := fun a x y => h.1.2.2.2.2.2.2.1 a (by omega)
  refine ⟨Sm_I (Sm_trans h1 (Sm_mono h.1 (fun a ha => by omega))) (Or.inl rfl), ?_, ⟨rI_eq, ?_⟩, ?_, ?_, ?_⟩
  · intro j hj
    rw [rI_nk (by omega), h.2 j (by omega) (by omega) (by omega) (by omega) (by omega) (by omega)]
    exact h2 j hj
  · rw [rI_nk (by omega)]
    exact h32
  · rw [rI_nk (by omega), h.2 28 (by omega) (by omega) (by omega) (by omega) (by omega) (by omega)]
    exact h4
  · rw [rI_nk (by omega), h.2 29 (by omega) (by omega) (by omega) (by omega) (by omega) (by omega)]
    exact h5
  · rw [rI_ne (by omega), rI_ne (by omega), rI_ne (by omega), e _ (by omega) (by omega), e _ (by omega) (by omega), e _ (by omega) (by omega)]
    exact h6
theorem t_seeks (X : MX B σ A) (hp : Wp A) (hm : Mc B A σ v) (h30 : gI σ (B + 54) 30 = -nI 1) (h32 : gI σ (B + 54) 32 = -nI 1) (K : ∀ τ, QM B A v σ τ → DrR A (gI τ (B + 54) 41) (gI τ (B + 54) 42) (gI τ (B + 74)) → Q none τ) : wc (d + 70) 254 [.ref (B + 54)] σ Q := by
  have hv := X.1
  have wh := X.2.2.1
  simp (disch := omega) only [c_254, e_254_0, e_254_1, n10, n01, Nat.lt_irrefl, Nat.not_lt_zero, ne_eq, Nat.add_zero, Nat.one_ne_zero, Nat.zero_ne_one, Nat.reduceEqDiff, bI_T, bI_F, bI_0, bI_1, bI_01, not_and_self, true_and, and_true, not_true_eq_false, not_false_eq_true, false_imp_iff, true_imp_iff, imp_self, gPv_n, gPv_i, gPv_r, gPv_0, Option.toList_some, Option.toList_none, List.singleton_append, List.cons_append, List.nil_append, List.length_nil, List.length_cons, Nat.zero_le, Nat.reduceAdd, Nat.reduceLeDiff, or_true, true_or, false_or, or_false, and_self, and_false, false_and, implies_true, Option.some.injEq, exists_eq_left', nL, sk_54 hv, sr_54_2 hv, sr_54_3 hv, sr_54_4 hv, sr_54_5 hv, sr_54_7 hv, sr_54_8 hv, sr_54_9 hv, sr_54_12 hv, sr_54_13 hv, sr_54_14 hv, sr_54_22 hv, sr_54_25 hv, sr_54_26 hv, sr_54_27 hv, sr_54_34 hv, sr_54_35 hv, sr_54_36 hv, sr_54_37 hv, sr_54_38 hv, sr_54_40 hv, sr_54_43 hv, sr_54_44 hv, sr_54_45 hv, sr_54_46 hv, sr_54_47 hv]
  refine t_look (d := d) X hm h30 h32 ?_
  intro τ1 hq
  have X1 := QM_X X hq
  have hv1 := X1.1
  simp (disch := omega) only [e_254_4, e_254_5, e_254_6, e_254_9, e_254_10, e_254_11, e_254_14, e_254_15, e_254_16, n10, n01, Nat.lt_irrefl, Nat.not_lt_zero, ne_eq, Nat.add_zero, Nat.one_ne_zero, Nat.zero_ne_one, Nat.reduceEqDiff, bI_T, bI_F, bI_0, bI_1, bI_01, not_and_self, true_and, and_true, not_true_eq_false, not_false_eq_true, false_imp_iff, true_imp_iff, imp_self, gPv_n, gPv_i, gPv_r, gPv_0, Option.toList_some, Option.toList_none, List.singleton_append, List.cons_append, List.nil_append, List.length_nil, List.length_cons, Nat.zero_le, Nat.reduceAdd, Nat.reduceLeDiff, or_true, true_or, false_or, or_false, and_self, and_false, false_and, implies_true, Option.some.injEq, exists_eq_left', nL, sk_54 hv1, sr_54_2 hv1, sr_54_3 hv1, sr_54_4 hv1, sr_54_5 hv1, sr_54_7 hv1, sr_54_8 hv1, sr_54_9 hv1, sr_54_12 hv1, sr_54_13 hv1, sr_54_14 hv1, sr_54_22 hv1, sr_54_25 hv1, sr_54_26 hv1, sr_54_27 hv1, sr_54_34 hv1, sr_54_35 hv1, sr_54_36 hv1, sr_54_37 hv1, sr_54_38 hv1, sr_54_40 hv1, sr_54_43 hv1, sr_54_44 hv1, sr_54_45 hv1, sr_54_46 hv1, sr_54_47 hv1, n_K_I, n_K_J, n_K_R, n_K_r, n_N_I, n_N_J, n_N_R, n_N_r, n_R_I, n_R_J, n_R_r, n_J_I, n_J_R, n_J_r, n_I_J, n_I_R, n_n_I, n_n_J, n_n_R, n_n_r, n_w_I, n_w_J, n_w_R, n_w_r, n_T_I, n_T_J, n_T_R, n_T_r, rI_ne, rI_nk, rI_eq, rr_ne, rr_eq, n_J_J, n_R_R, Nat.add_left_cancel_iff, Nat.add_right_cancel_iff, Nat.add_eq_left, Nat.left_eq_add, Nat.reduceEqDiff, Nat.reduceAdd, Nat.zero_ne_one, Nat.one_ne_zero, false_and, and_false, true_and, and_true, and_self, if_false, if_true, ↓reduceIte]
  have hq2 : QM B A v σ (sI (sI τ1 (B + 54) 42 (nI 0)) (B + 54) 41 (-nI 1)) := QM_I (QM_I hq (by omega)) (by omega)
  have X2 := QM_X X hq2
  refine t_found (d := d + 62) (C := fun _ => wsB A (opn A (A 249))) (n := 0) (p := 0) (f := f1) X2 hp (NX_0 X hq2) (EdG_o wh) (by omega) (by omega) ⟨?_, ?_⟩ rfl (fun j hj => absurd hj (by omega)) ?_
  · rw [rI_nk (by omega), rI_eq]
    rfl
  · exact rI_eq
  intro τ2 k1 k2 k3
  have hF : DmT B (sI (sI τ1 (B + 54) 42 (nI 0)) (B + 54) 41 (-nI 1)) τ2 := ⟨k1, fun j _ _ _ _ a b => k2 j a b⟩
  have hv2 : IvS B τ2 := fr_IvS k1.1 k1.2.1 k1.2.2.1 X2.1
  have e32 : gI τ2 (B + 54) 32 = -nI 1 := by rw [k2 32 (by omega) (by omega)]; exact hq2.2.2.1.2
  cases w : wsB A (opn A (A 249))
  · obtain ⟨y1, y2⟩ := k3
    have y1 : gI τ2 (B + 54) 42 = nI 0 := by
      rw [y1]
      simp [cn, w]
    have y2 : gI τ2 (B + 54) 41 = -nI 1 := by
      simp only [fo, w, Bool.false_eq_true, if_false] at y2
      exact y2
    simp (disch := omega) only [e_254_19, e_254_20, e_254_21, e_254_22, e_254_23, e_254_26, e_254_27, e_254_30, e_254_33, e_254_34, n10, n01, Nat.lt_irrefl, Nat.not_lt_zero, ne_eq, Nat.add_zero, Nat.one_ne_zero, Nat.zero_ne_one, Nat.reduceEqDiff, bI_T, bI_F, bI_0, bI_1, bI_01, not_and_self, true_and, and_true, not_true_eq_false, not_false_eq_true, false_imp_iff, true_imp_iff, imp_self, gPv_n, gPv_i, gPv_r, gPv_0, Option.toList_some, Option.toList_none, List.singleton_append, List.cons_append, List.nil_append, List.length_nil, List.length_cons, Nat.zero_le, Nat.reduceAdd, Nat.reduceLeDiff, or_true, true_or, false_or, or_false, and_self, and_false, false_and, implies_true, Option.some.injEq, exists_eq_left', nL, nI_add, nI_mul, nI_clamp, nI_ltI, nI_leI, nI_eq, nI_pos, nI_pos', Nat.reduceAdd, Nat.reduceMul, Nat.reducePow, sk_54 hv2, sr_54_2 hv2, sr_54_3 hv2, sr_54_4 hv2, sr_54_5 hv2, sr_54_7 hv2, sr_54_8 hv2, sr_54_9 hv2, sr_54_12 hv2, sr_54_13 hv2, sr_54_14 hv2, sr_54_22 hv2, sr_54_25 hv2, sr_54_26 hv2, sr_54_27 hv2, sr_54_34 hv2, sr_54_35 hv2, sr_54_36 hv2, sr_54_37 hv2, sr_54_38 hv2, sr_54_40 hv2, sr_54_43 hv2, sr_54_44 hv2, sr_54_45 hv2, sr_54_46 hv2, sr_54_47 hv2, y1, Nat.reduceLT]
    refine t_dr1 (d := d + 61) X hp hq2 ?_ 144 0 τ2 _ (by omega) hF e32 ⟨y1, y2⟩
    intro τ3 x3 hF3 h323 hD
    have hv3 : IvS B τ3 := fr_IvS hF3.1.1 hF3.1.2.1 hF3.1.2.2.1 X2.1
    have cl := cn_le (o1 A) 144 0
    obtain ⟨z1, z2⟩ := id hD
    by_cases c : cn (o1 A) 144 0 = 0
    · rw [c] at z1
      have f0 := (cn_fo' 144 0).mp c
      rw [f0] at z2
      simp (disch := omega) only [e_254_20, e_254_21, e_254_22, e_254_23, e_254_26, e_254_27, e_254_30, e_254_33, e_254_34, e_254_144, e_254_147, n10, n01, Nat.lt_irrefl, Nat.not_lt_zero, ne_eq, Nat.add_zero, Nat.one_ne_zero, Nat.zero_ne_one, Nat.reduceEqDiff, bI_T, bI_F, bI_0, bI_1, bI_01, not_and_self, true_and, and_true, not_true_eq_false, not_false_eq_true, false_imp_iff, true_imp_iff, imp_self, gPv_n, gPv_i, gPv_r, gPv_0, Option.toList_some, Option.toList_none, List.singleton_append, List.cons_append, List.nil_append, List.length_nil, List.length_cons, Nat.zero_le, Nat.reduceAdd, Nat.reduceLeDiff, or_true, true_or, false_or, or_false, and_self, and_false, false_and, implies_true, Option.some.injEq, exists_eq_left', nL, nI_add, nI_mul, nI_clamp, nI_ltI, nI_leI, nI_eq, nI_pos, nI_pos', Nat.reduceAdd, Nat.reduceMul, Nat.reducePow, sk_54 hv3, sr_54_2 hv3, sr_54_3 hv3, sr_54_4 hv3, sr_54_5 hv3, sr_54_7 hv3, sr_54_8 hv3, sr_54_9 hv3, sr_54_12 hv3, sr_54_13 hv3, sr_54_14 hv3, sr_54_22 hv3, sr_54_25 hv3, sr_54_26 hv3, sr_54_27 hv3, sr_54_34 hv3, sr_54_35 hv3, sr_54_36 hv3, sr_54_37 hv3, sr_54_38 hv3, sr_54_40 hv3, sr_54_43 hv3, sr_54_44 hv3, sr_54_45 hv3, sr_54_46 hv3, sr_54_47 hv3, z1, Nat.reduceLT]
      refine t_dr2 (d := d + 61) X hp hq2 ?_ 144 0 τ3 _ (by omega) hF3 h323 ⟨z1, z2⟩
      intro τ4 x3 hF4 h324 hD4
      have hv4 : IvS B τ4 := fr_IvS hF4.1.1 hF4.1.2.1 hF4.1.2.2.1 X2.1
      simp (disch := omega) only [e_254_20, e_254_21, e_254_22, e_254_23, e_254_144, e_254_147, e_254_150, e_254_151, e_254_152, e_254_155, n10, n01, Nat.lt_irrefl, Nat.not_lt_zero, ne_eq, Nat.add_zero, Nat.one_ne_zero, Nat.zero_ne_one, Nat.reduceEqDiff, bI_T, bI_F, bI_0, bI_1, bI_01, not_and_self, true_and, and_true, not_true_eq_false, not_false_eq_true, false_imp_iff, true_imp_iff, imp_self, gPv_n, gPv_i, gPv_r, gPv_0, Option.toList_some, Option.toList_none, List.singleton_append, List.cons_append, List.nil_append, List.length_nil, List.length_cons, Nat.zero_le, Nat.reduceAdd, Nat.reduceLeDiff, or_true, true_or, false_or, or_false, and_self, and_false, false_and, implies_true, Option.some.injEq, exists_eq_left', nL, nI_add, nI_mul, nI_clamp, nI_ltI, nI_leI, nI_eq, nI_pos, nI_pos', Nat.reduceAdd, Nat.reduceMul, Nat.reducePow, sk_54 hv4, sr_54_2 hv4, sr_54_3 hv4, sr_54_4 hv4, sr_54_5 hv4, sr_54_7 hv4, sr_54_8 hv4, sr_54_9 hv4, sr_54_12 hv4, sr_54_13 hv4, sr_54_14 hv4, sr_54_22 hv4, sr_54_25 hv4, sr_54_26 hv4, sr_54_27 hv4, sr_54_34 hv4, sr_54_35 hv4, sr_54_36 hv4, sr_54_37 hv4, sr_54_38 hv4, sr_54_40 hv4, sr_54_43 hv4, sr_54_44 hv4, sr_54_45 hv4, sr_54_46 hv4, sr_54_47 hv4, Nat.reduceLT]
      refine K _ (QM_D hq2 hF4 h324) ?_
      rw [rI_nk (by omega), rI_nk (by omega), rI_ne (by omega), DrR, w, if_neg (by decide), if_neg (by omega)]
      exact hD4
    · simp (disch := omega) only [e_254_20, e_254_21, e_254_22, e_254_23, e_254_26, e_254_27, e_254_30, e_254_144, e_254_147, e_254_150, e_254_151, e_254_152, e_254_155, n10, n01, Nat.lt_irrefl, Nat.not_lt_zero, ne_eq, Nat.add_zero, Nat.one_ne_zero, Nat.zero_ne_one, Nat.reduceEqDiff, bI_T, bI_F, bI_0, bI_1, bI_01, not_and_self, true_and, and_true, not_true_eq_false, not_false_eq_true, false_imp_iff, true_imp_iff, imp_self, gPv_n, gPv_i, gPv_r, gPv_0, Option.toList_some, Option.toList_none, List.singleton_append, List.cons_append, List.nil_append, List.length_nil, List.length_cons, Nat.zero_le, Nat.reduceAdd, Nat.reduceLeDiff, or_true, true_or, false_or, or_false, and_self, and_false, false_and, implies_true, Option.some.injEq, exists_eq_left', nL, nI_add, nI_mul, nI_clamp, nI_ltI, nI_leI, nI_eq, nI_pos, nI_pos', Nat.reduceAdd, Nat.reduceMul, Nat.reducePow, sk_54 hv3, sr_54_2 hv3, sr_54_3 hv3, sr_54_4 hv3, sr_54_5 hv3, sr_54_7 hv3, sr_54_8 hv3, sr_54_9 hv3, sr_54_12 hv3, sr_54_13 hv3, sr_54_14 hv3, sr_54_22 hv3, sr_54_25 hv3, sr_54_26 hv3, sr_54_27 hv3, sr_54_34 hv3, sr_54_35 hv3, sr_54_36 hv3, sr_54_37 hv3, sr_54_38 hv3, sr_54_40 hv3, sr_54_43 hv3, sr_54_44 hv3, sr_54_45 hv3, sr_54_46 hv3, sr_54_47 hv3, z1, c, Nat.reduceLT]
      refine K _ (QM_D hq2 hF3 h323) ?_
      rw [rI_nk (by omega), rI_nk (by omega), rI_ne (by omega), DrR, w, if_neg (by decide), if_pos c]
      exact hD
  · obtain ⟨y1, y2⟩ := k3
    have y1 : gI τ2 (B + 54) 42 = nI 1 := by
      rw [y1]
      simp [cn, w]
    have y2 : gI τ2 (B + 54) 41 = nI 0 := by
      simp only [fo, w, if_true] at y2
      exact y2.1
    simp (disch := omega) only [e_254_19, e_254_20, e_254_21, e_254_22, e_254_23, e_254_26, e_254_27, e_254_30, e_254_150, e_254_151, e_254_152, e_254_155, n10, n01, Nat.lt_irrefl, Nat.not_lt_zero, ne_eq, Nat.add_zero, Nat.one_ne_zero, Nat.zero_ne_one, Nat.reduceEqDiff, bI_T, bI_F, bI_0, bI_1, bI_01, not_and_self, true_and, and_true, not_true_eq_false, not_false_eq_true, false_imp_iff, true_imp_iff, imp_self, gPv_n, gPv_i, gPv_r, gPv_0, Option.toList_some, Option.toList_none, List.singleton_append, List.cons_append, List.nil_append, List.length_nil, List.length_cons, Nat.zero_le, Nat.reduceAdd, Nat.reduceLeDiff, or_true, true_or, false_or, or_false, and_self, and_false, false_and, implies_true, Option.some.injEq, exists_eq_left', nL, nI_add, nI_mul, nI_clamp, nI_ltI, nI_leI, nI_eq, nI_pos, nI_pos', Nat.reduceAdd, Nat.reduceMul, Nat.reducePow, sk_54 hv2, sr_54_2 hv2, sr_54_3 hv2, sr_54_4 hv2, sr_54_5 hv2, sr_54_7 hv2, sr_54_8 hv2, sr_54_9 hv2, sr_54_12 hv2, sr_54_13 hv2, sr_54_14 hv2, sr_54_22 hv2, sr_54_25 hv2, sr_54_26 hv2, sr_54_27 hv2, sr_54_34 hv2, sr_54_35 hv2, sr_54_36 hv2, sr_54_37 hv2, sr_54_38 hv2, sr_54_40 hv2, sr_54_43 hv2, sr_54_44 hv2, sr_54_45 hv2, sr_54_46 hv2, sr_54_47 hv2, y1, Nat.reduceLT, Nat.reduceEqDiff]
    refine K _ (QM_D hq2 hF e32) ?_
    rw [rI_nk (by omega), rI_nk (by omega), rI_ne (by omega), DrR, w, if_pos rfl]
    exact ⟨y2, y1⟩
end
