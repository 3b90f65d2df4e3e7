/-! floods: the model's days -/
section
variable {B : Nat} {own : Nat → Nat} {σ : gS} {A : Nat → Int32} {d v : Nat} {Q : Option Value → gS → Prop}
theorem t_draws {s : Nat} (hv : IvS B σ) (h49 : gI σ (B + 54) 49 = nI s) (hs : s ≤ 1000003) : wc (d + 1) 270 [.ref (B + 54), .int (nI 4)] σ Q ↔ Q (some (.int (nI (nxD s % 4)))) (sI σ (B + 54) 49 (nI (nxD s))) := by
  have nl := nxD_lt s
  have q1 : (1103 : Int64) = nJ 1103 := rfl
  have q2 : (12345 : Int64) = nJ 12345 := rfl
  have q3 : (1000003 : Int64) = nJ 1000003 := rfl
  have z0 : ¬ nJ 1000003 = 0 := by decide
  have z4 : ¬ (4 : Nat) = 0 := by omega
  have en : nJ (1103 * s + 12345) - nJ (1103 * s + 12345) / nJ 1000003 * nJ 1000003 = nJ (nxD s) := by
    rw [nJ_div (by omega) (by omega), nJ_mul, nJ_rem, nxD]
  simp (disch := omega) only [c_270, e_270_0, e_270_1, e_270_4, e_270_5, e_270_8, e_270_9, e_270_10, e_270_13, e_270_14, e_270_17, e_270_18, e_270_19, e_270_22, e_270_23, e_270_26, e_270_27, e_270_28, n10, n01, Nat.lt_irrefl, Nat.not_lt_zero, ne_eq, Nat.add_zero, Nat.one_ne_zero, Nat.zero_ne_one, Nat.reduceEqDiff, bI_T, bI_F, bI_0, bI_1, bI_01, not_and_self, true_and, and_true, not_true_eq_false, not_false_eq_true, false_imp_iff, true_imp_iff, imp_self, gPv_n, gPv_i, gPv_r, gPv_0, Option.toList_some, Option.toList_none, List.singleton_append, List.cons_append, List.nil_append, List.length_nil, List.length_cons, Nat.zero_le, Nat.reduceAdd, Nat.reduceLeDiff, or_true, true_or, false_or, or_false, and_self, and_false, false_and, implies_true, Option.some.injEq, exists_eq_left', n_K_I, n_K_J, n_K_R, n_K_r, n_N_I, n_N_J, n_N_R, n_N_r, n_R_I, n_R_J, n_R_r, n_J_I, n_J_R, n_J_r, n_I_J, n_I_R, n_n_I, n_n_J, n_n_R, n_n_r, n_w_I, n_w_J, n_w_R, n_w_r, n_T_I, n_T_J, n_T_R, n_T_r, rI_ne, rI_nk, rI_eq, rr_ne, rr_eq, n_J_J, n_R_R, Nat.add_left_cancel_iff, Nat.add_right_cancel_iff, Nat.add_eq_left, Nat.left_eq_add, Nat.reduceEqDiff, Nat.reduceAdd, Nat.zero_ne_one, Nat.one_ne_zero, false_and, and_false, true_and, and_true, and_self, if_false, if_true, ↓reduceIte, nL, nI_add, nI_mul, nI_clamp, nI_ltI, nI_leI, nI_eq, nI_pos, nI_pos', Nat.reduceAdd, Nat.reduceMul, Nat.reducePow, sk_54 hv, sr_54_2 hv, sr_54_3 hv, sr_54_4 hv, sr_54_5 hv, sr_54_7 hv, sr_54_8 hv, sr_54_9 hv, sr_54_12 hv, sr_54_13 hv, sr_54_14 hv, sr_54_22 hv, sr_54_25 hv, sr_54_26 hv, sr_54_27 hv, sr_54_34 hv, sr_54_35 hv, sr_54_36 hv, sr_54_37 hv, sr_54_38 hv, sr_54_40 hv, sr_54_43 hv, sr_54_44 hv, sr_54_45 hv, sr_54_46 hv, sr_54_47 hv, h49, nJ_i2l, q1, q2, q3, nJ_mul, nJ_add, z0, en, nJ_l2i, z4, nI_div, nI_rem]
theorem t_dwL {y1 y2 y3 y4 : Int32} (X : MX B σ A) : ∀ m h s b, h + m = hn A → s ≤ 1000003 → b < 4096 → (wp (d + 2) pr_271 Q 53 [some (.ref (B + 54)), some (.int y1), some (.int y2), some (.int y3), some (.int y4), some (.int (nI b)), some (.int (nI h))] [] (sI σ (B + 54) 49 (nI s)) ↔ wp (d + 2) pr_271 Q 94 [some (.ref (B + 54)), some (.int y1), some (.int y2), some (.int y3), some (.int y4), some (.int (nI (dw (St A) m h s b).2)), some (.int (nI (hn A)))] [] (sI σ (B + 54) 49 (nI (dw (St A) m h s b).1))) := by
  obtain ⟨hv0, hA, wh, wd, wl⟩ := id X
  have h12 := hn_le wh
  have hn2 := hn_eq wh
  have hv : ∀ x : Int32, IvS B (sI σ (B + 54) 49 x) := fun x => IvS_I.mpr hv0
  have e56 : ∀ x : Int32, gI (sI σ (B + 54) 49 x) (B + 56) = A := fun x => by rw [rI_ne (by omega)]; exact hA
  intro m
  induction m with
  | zero =>
    intro h s b hh hs hb
    have e : h = hn A := by omega
    subst e
    simp (disch := omega) only [e_271_53, e_271_55, e_271_56, e_271_59, n10, n01, Nat.lt_irrefl, Nat.not_lt_zero, ne_eq, Nat.add_zero, Nat.one_ne_zero, Nat.zero_ne_one, Nat.reduceEqDiff, bI_T, bI_F, bI_0, bI_1, bI_01, not_and_self, true_and, and_true, not_true_eq_false, not_false_eq_true, false_imp_iff, true_imp_iff, imp_self, gPv_n, gPv_i, gPv_r, gPv_0, Option.toList_some, Option.toList_none, List.singleton_append, List.cons_append, List.nil_append, List.length_nil, List.length_cons, Nat.zero_le, Nat.reduceAdd, Nat.reduceLeDiff, or_true, true_or, false_or, or_false, and_self, and_false, false_and, implies_true, Option.some.injEq, exists_eq_left', nL, nI_add, nI_mul, nI_clamp, nI_ltI, nI_leI, nI_eq, nI_pos, nI_pos', Nat.reduceAdd, Nat.reduceMul, Nat.reducePow, sk_54 (hv _), sr_54_2 (hv _), sr_54_3 (hv _), sr_54_4 (hv _), sr_54_5 (hv _), sr_54_7 (hv _), sr_54_8 (hv _), sr_54_9 (hv _), sr_54_12 (hv _), sr_54_13 (hv _), sr_54_14 (hv _), sr_54_22 (hv _), sr_54_25 (hv _), sr_54_26 (hv _), sr_54_27 (hv _), sr_54_34 (hv _), sr_54_35 (hv _), sr_54_36 (hv _), sr_54_37 (hv _), sr_54_38 (hv _), sr_54_40 (hv _), sr_54_43 (hv _), sr_54_44 (hv _), sr_54_45 (hv _), sr_54_46 (hv _), sr_54_47 (hv _), t_houses (hv _), e56, hn2, Nat.le_refl, dw]
  | succ m ih =>
    intro h s b hh hs hb
    have z : ¬ hn A ≤ h := by omega
    have nl := nxD_lt s
    have m4 : nxD s % 4 < 4 := Nat.mod_lt _ (by decide)
    rw [e_271_53]
    cases c : St A h
    · simp (disch := omega) only [e_271_55, e_271_56, e_271_59, e_271_62, e_271_63, e_271_65, e_271_68, e_271_88, e_271_91, n10, n01, Nat.lt_irrefl, Nat.not_lt_zero, ne_eq, Nat.add_zero, Nat.one_ne_zero, Nat.zero_ne_one, Nat.reduceEqDiff, bI_T, bI_F, bI_0, bI_1, bI_01, not_and_self, true_and, and_true, not_true_eq_false, not_false_eq_true, false_imp_iff, true_imp_iff, imp_self, gPv_n, gPv_i, gPv_r, gPv_0, Option.toList_some, Option.toList_none, List.singleton_append, List.cons_append, List.nil_append, List.length_nil, List.length_cons, Nat.zero_le, Nat.reduceAdd, Nat.reduceLeDiff, or_true, true_or, false_or, or_false, and_self, and_false, false_and, implies_true, Option.some.injEq, exists_eq_left', nL, nI_add, nI_mul, nI_clamp, nI_ltI, nI_leI, nI_eq, nI_pos, nI_pos', Nat.reduceAdd, Nat.reduceMul, Nat.reducePow, sk_54 (hv _), sr_54_2 (hv _), sr_54_3 (hv _), sr_54_4 (hv _), sr_54_5 (hv _), sr_54_7 (hv _), sr_54_8 (hv _), sr_54_9 (hv _), sr_54_12 (hv _), sr_54_13 (hv _), sr_54_14 (hv _), sr_54_22 (hv _), sr_54_25 (hv _), sr_54_26 (hv _), sr_54_27 (hv _), sr_54_34 (hv _), sr_54_35 (hv _), sr_54_36 (hv _), sr_54_37 (hv _), sr_54_38 (hv _), sr_54_40 (hv _), sr_54_43 (hv _), sr_54_44 (hv _), sr_54_45 (hv _), sr_54_46 (hv _), sr_54_47 (hv _), t_houses (hv _), t_stands (hv _), e56, hn2, z, c, Bool.false_eq_true]
      rw [ih (h + 1) s b (by omega) hs hb]
      simp only [dw, c, Bool.false_eq_true, if_false]
    · have td : ∀ (d : Nat) (Q : Option Value → gS → Prop), wc (d + 1) 270 [.ref (B + 54), .int (nI 4)] (sI σ (B + 54) 49 (nI s)) Q ↔ Q (some (.int (nI (nxD s % 4)))) (sI σ (B + 54) 49 (nI (nxD s))) := fun d Q => by
        rw [t_draws (hv _) rI_eq hs, sI_sI]
      by_cases c4 : nxD s % 4 = 0
      · simp (disch := omega) only [e_271_55, e_271_56, e_271_59, e_271_62, e_271_63, e_271_65, e_271_68, e_271_71, e_271_72, e_271_73, e_271_76, e_271_79, e_271_81, e_271_82, e_271_84, e_271_85, e_271_86, e_271_88, e_271_91, n10, n01, Nat.lt_irrefl, Nat.not_lt_zero, ne_eq, Nat.add_zero, Nat.one_ne_zero, Nat.zero_ne_one, Nat.reduceEqDiff, bI_T, bI_F, bI_0, bI_1, bI_01, not_and_self, true_and, and_true, not_true_eq_false, not_false_eq_true, false_imp_iff, true_imp_iff, imp_self, gPv_n, gPv_i, gPv_r, gPv_0, Option.toList_some, Option.toList_none, List.singleton_append, List.cons_append, List.nil_append, List.length_nil, List.length_cons, Nat.zero_le, Nat.reduceAdd, Nat.reduceLeDiff, or_true, true_or, false_or, or_false, and_self, and_false, false_and, implies_true, Option.some.injEq, exists_eq_left', nL, nI_add, nI_mul, nI_clamp, nI_ltI, nI_leI, nI_eq, nI_pos, nI_pos', Nat.reduceAdd, Nat.reduceMul, Nat.reducePow, sk_54 (hv _), sr_54_2 (hv _), sr_54_3 (hv _), sr_54_4 (hv _), sr_54_5 (hv _), sr_54_7 (hv _), sr_54_8 (hv _), sr_54_9 (hv _), sr_54_12 (hv _), sr_54_13 (hv _), sr_54_14 (hv _), sr_54_22 (hv _), sr_54_25 (hv _), sr_54_26 (hv _), sr_54_27 (hv _), sr_54_34 (hv _), sr_54_35 (hv _), sr_54_36 (hv _), sr_54_37 (hv _), sr_54_38 (hv _), sr_54_40 (hv _), sr_54_43 (hv _), sr_54_44 (hv _), sr_54_45 (hv _), sr_54_46 (hv _), sr_54_47 (hv _), t_houses (hv _), t_stands (hv _), e56, hn2, z, c, td, c4, nI_shl, Nat.one_mul, nI_or]
        have p2 : 2 ^ h < 2 ^ 12 := Nat.pow_lt_pow_right (by decide) (by omega)
        rw [ih (h + 1) (nxD s) (b ||| 2 ^ h) (by omega) (by omega) (Nat.or_lt_two_pow (n := 12) hb p2)]
        simp only [dw, c, c4, if_true]
      · simp (disch := omega) only [e_271_55, e_271_56, e_271_59, e_271_62, e_271_63, e_271_65, e_271_68, e_271_71, e_271_72, e_271_73, e_271_76, e_271_79, e_271_81, e_271_82, e_271_84, e_271_85, e_271_86, e_271_88, e_271_91, n10, n01, Nat.lt_irrefl, Nat.not_lt_zero, ne_eq, Nat.add_zero, Nat.one_ne_zero, Nat.zero_ne_one, Nat.reduceEqDiff, bI_T, bI_F, bI_0, bI_1, bI_01, not_and_self, true_and, and_true, not_true_eq_false, not_false_eq_true, false_imp_iff, true_imp_iff, imp_self, gPv_n, gPv_i, gPv_r, gPv_0, Option.toList_some, Option.toList_none, List.singleton_append, List.cons_append, List.nil_append, List.length_nil, List.length_cons, Nat.zero_le, Nat.reduceAdd, Nat.reduceLeDiff, or_true, true_or, false_or, or_false, and_self, and_false, false_and, implies_true, Option.some.injEq, exists_eq_left', nL, nI_add, nI_mul, nI_clamp, nI_ltI, nI_leI, nI_eq, nI_pos, nI_pos', Nat.reduceAdd, Nat.reduceMul, Nat.reducePow, sk_54 (hv _), sr_54_2 (hv _), sr_54_3 (hv _), sr_54_4 (hv _), sr_54_5 (hv _), sr_54_7 (hv _), sr_54_8 (hv _), sr_54_9 (hv _), sr_54_12 (hv _), sr_54_13 (hv _), sr_54_14 (hv _), sr_54_22 (hv _), sr_54_25 (hv _), sr_54_26 (hv _), sr_54_27 (hv _), sr_54_34 (hv _), sr_54_35 (hv _), sr_54_36 (hv _), sr_54_37 (hv _), sr_54_38 (hv _), sr_54_40 (hv _), sr_54_43 (hv _), sr_54_44 (hv _), sr_54_45 (hv _), sr_54_46 (hv _), sr_54_47 (hv _), t_houses (hv _), t_stands (hv _), e56, hn2, z, c, td, c4]
        rw [ih (h + 1) (nxD s) b (by omega) (by omega) hb]
        simp only [dw, c, c4, if_true, if_false]
def FmI (B : Nat) (σ : gS) (A : Nat → Int32) (v seed n : Nat) (τ : gS) (i : Nat) : Prop := Sm (fun a => a = B + 54 ∨ B + 65 ≤ a ∧ a ≤ B + 68 ∨ a = B + 73 ∨ a = B + 78 ∨ a = B + 79) σ τ ∧ (∀ j, j = 0 ∨ j = 1 ∨ j = 6 ∨ j = 10 ∨ j = 11 ∨ j = 30 ∨ j = 32 → gI τ (B + 54) j = gI σ (B + 54) j) ∧ gI τ (B + 54) 48 = nI n ∧ gI τ (B + 54) 49 = nI (flS A seed i) ∧ Mc B A τ v ∧ ∀ j, j < i → gI τ (B + 78) j = nI (flW A seed j) ∧ gI τ (B + 79) j = nI (flP A seed j)
set_option maxHeartbeats 1000000 in
theorem t_flL {seed n : Nat} {y1 : Int32} (X : MX B σ A) (wt : Wt A) (z30 : gI σ (B + 54) 30 = -nI 1) (z32 : gI σ (B + 54) 32 = -nI 1) (hs : seed ≤ 1000000) (hn40 : n ≤ 40) : ∀ m i τ (x5 x6 : Option Value), i + m = n → FmI B σ A v seed n τ i →
    (∀ τ' x5 x6, FmI B σ A v seed n τ' n → wp (d + 68) pr_271 Q 158 [some (.ref (B + 54)), some (.int y1), some (.int (nI n)), some (.int (nI (flM A seed n))), some (.int (nI n)), x5, x6] [] τ') →
    wp (d + 68) pr_271 Q 41 [some (.ref (B + 54)), some (.int y1), some (.int (nI n)), some (.int (nI (flM A seed i))), some (.int (nI i)), x5, x6] [] τ := by
  obtain ⟨_, _, wh, wd, wl⟩ := id X
  have h12 := hn_le wh
  obtain ⟨d99, dn⟩ := an_le wt.2 (by omega)
  intro m
  induction m with
  | zero =>
    intro i τ x5 x6 hi hF K
    have e : i = n := by omega
    subst e
    simp (disch := omega) only [e_271_41, e_271_43, e_271_44, n10, n01, Nat.lt_irrefl, Nat.not_lt_zero, ne_eq, Nat.add_zero, Nat.one_ne_zero, Nat.zero_ne_one, Nat.reduceEqDiff, bI_T, bI_F, bI_0, bI_1, bI_01, not_and_self, true_and, and_true, not_true_eq_false, not_false_eq_true, false_imp_iff, true_imp_iff, imp_self, gPv_n, gPv_i, gPv_r, gPv_0, Option.toList_some, Option.toList_none, List.singleton_append, List.cons_append, List.nil_append, List.length_nil, List.length_cons, Nat.zero_le, Nat.reduceAdd, Nat.reduceLeDiff, or_true, true_or, false_or, or_false, and_self, and_false, false_and, implies_true, Option.some.injEq, exists_eq_left', nL, nI_add, nI_mul, nI_clamp, nI_ltI, nI_leI, nI_eq, nI_pos, nI_pos', Nat.reduceAdd, Nat.reduceMul, Nat.reducePow, Nat.le_refl]
    exact K τ _ _ hF
  | succ m ih =>
    intro i τ x5 x6 hi hF K
    obtain ⟨hS, hf, f48, f49, fM, fR⟩ := hF
    have Xt := MX_S X hS (by omega)
    have z : ¬ n ≤ i := by omega
    have y40 : i < 40 := by omega
    have hsl := flS_le (A := A) h12 (show seed ≤ 1000003 by omega) i
    have hwl := flW_lt (A := A) h12 (show seed ≤ 1000003 by omega) i
    rw [e_271_41]
    simp (disch := omega) only [e_271_43, e_271_44, e_271_47, e_271_48, e_271_50, e_271_51, n10, n01, Nat.lt_irrefl, Nat.not_lt_zero, ne_eq, Nat.add_zero, Nat.one_ne_zero, Nat.zero_ne_one, Nat.reduceEqDiff, bI_T, bI_F, bI_0, bI_1, bI_01, not_and_self, true_and, and_true, not_true_eq_false, not_false_eq_true, false_imp_iff, true_imp_iff, imp_self, gPv_n, gPv_i, gPv_r, gPv_0, Option.toList_some, Option.toList_none, List.singleton_append, List.cons_append, List.nil_append, List.length_nil, List.length_cons, Nat.zero_le, Nat.reduceAdd, Nat.reduceLeDiff, or_true, true_or, false_or, or_false, and_self, and_false, false_and, implies_true, Option.some.injEq, exists_eq_left', nL, nI_add, nI_mul, nI_clamp, nI_ltI, nI_leI, nI_eq, nI_pos, nI_pos', Nat.reduceAdd, Nat.reduceMul, Nat.reducePow, z]
    have r := t_dwL (d := d + 66) (Q := Q) (y1 := y1) (y2 := nI n) (y3 := nI (flM A seed i)) (y4 := nI i) Xt (hn A) 0 (flS A seed i) 0 (by omega) hsl (by omega)
    rw [sI_id f49] at r
    rw [r]
    have eW : (dw (St A) (hn A) 0 (flS A seed i) 0).2 = flW A seed i := rfl
    have eS : (dw (St A) (hn A) 0 (flS A seed i) 0).1 = flS A seed (i + 1) := rfl
    rw [eW, eS]
    have hv1 : IvS B (sI τ (B + 54) 49 (nI (flS A seed (i + 1)))) := IvS_I.mpr Xt.1
    have e249 : gI (sI τ (B + 54) 49 (nI (flS A seed (i + 1)))) (B + 56) 249 = nI (an A 249) := by rw [rI_ne (by omega), Xt.2.1]; exact dn
    simp (disch := omega) only [e_271_94, e_271_95, e_271_96, e_271_99, e_271_102, e_271_103, e_271_105, e_271_106, n10, n01, Nat.lt_irrefl, Nat.not_lt_zero, ne_eq, Nat.add_zero, Nat.one_ne_zero, Nat.zero_ne_one, Nat.reduceEqDiff, bI_T, bI_F, bI_0, bI_1, bI_01, not_and_self, true_and, and_true, not_true_eq_false, not_false_eq_true, false_imp_iff, true_imp_iff, imp_self, gPv_n, gPv_i, gPv_r, gPv_0, Option.toList_some, Option.toList_none, List.singleton_append, List.cons_append, List.nil_append, List.length_nil, List.length_cons, Nat.zero_le, Nat.reduceAdd, Nat.reduceLeDiff, or_true, true_or, false_or, or_false, and_self, and_false, false_and, implies_true, Option.some.injEq, exists_eq_left', nL, nI_add, nI_mul, nI_clamp, nI_ltI, nI_leI, nI_eq, nI_pos, nI_pos', Nat.reduceAdd, Nat.reduceMul, Nat.reducePow, sk_54 hv1, sr_54_2 hv1, sr_54_3 hv1, sr_54_4 hv1, sr_54_5 hv1, sr_54_7 hv1, sr_54_8 hv1, sr_54_9 hv1, sr_54_12 hv1, sr_54_13 hv1, sr_54_14 hv1, sr_54_22 hv1, sr_54_25 hv1, sr_54_26 hv1, sr_54_27 hv1, sr_54_34 hv1, sr_54_35 hv1, sr_54_36 hv1, sr_54_37 hv1, sr_54_38 hv1, sr_54_40 hv1, sr_54_43 hv1, sr_54_44 hv1, sr_54_45 hv1, sr_54_46 hv1, sr_54_47 hv1, sk_56 hv1, sn_56 hv1, e249, Nat.reduceLT]
    have X1 : MX B (sI τ (B + 54) 49 (nI (flS A seed (i + 1)))) A := MX_S Xt (Sm_I (P := fun a => a = B + 54) (Sm_refl _ _) rfl) (by omega)
    have M1 : Mc B A (sI τ (B + 54) 49 (nI (flS A seed (i + 1)))) v := by
      simp only [Mc]
      rw [rI_nk (by omega), rI_nk (by omega), rI_nk (by omega), rI_ne (by omega), rI_ne (by omega), rI_ne (by omega)]
      exact fM
    refine t_layV (dy := nI (an A 249 + i)) X1 M1 ?_
    intro τ2 hS2 hf2 h28 h29 hM2
    have X2 := MX_S X1 hS2 (by omega)
    have hv2 := X2.1
    simp (disch := omega) only [e_271_109, e_271_110, e_271_112, n10, n01, Nat.lt_irrefl, Nat.not_lt_zero, ne_eq, Nat.add_zero, Nat.one_ne_zero, Nat.zero_ne_one, Nat.reduceEqDiff, bI_T, bI_F, bI_0, bI_1, bI_01, not_and_self, true_and, and_true, not_true_eq_false, not_false_eq_true, false_imp_iff, true_imp_iff, imp_self, gPv_n, gPv_i, gPv_r, gPv_0, Option.toList_some, Option.toList_none, List.singleton_append, List.cons_append, List.nil_append, List.length_nil, List.length_cons, Nat.zero_le, Nat.reduceAdd, Nat.reduceLeDiff, or_true, true_or, false_or, or_false, and_self, and_false, false_and, implies_true, Option.some.injEq, exists_eq_left', nL, nI_add, nI_mul, nI_clamp, nI_ltI, nI_leI, nI_eq, nI_pos, nI_pos', Nat.reduceAdd, Nat.reduceMul, Nat.reducePow, sk_54 hv2, sr_54_2 hv2, sr_54_3 hv2, sr_54_4 hv2, sr_54_5 hv2, sr_54_7 hv2, sr_54_8 hv2, sr_54_9 hv2, sr_54_12 hv2, sr_54_13 hv2, sr_54_14 hv2, sr_54_22 hv2, sr_54_25 hv2, sr_54_26 hv2, sr_54_27 hv2, sr_54_34 hv2, sr_54_35 hv2, sr_54_36 hv2, sr_54_37 hv2, sr_54_38 hv2, sr_54_40 hv2, sr_54_43 hv2, sr_54_44 hv2, sr_54_45 hv2, sr_54_46 hv2, sr_54_47 hv2]
    have g30 : gI τ2 (B + 54) 30 = -nI 1 := by rw [hf2 30 (by omega) (by omega) (by omega) (by omega) (by omega) (by omega) (by omega), rI_nk (by omega), hf 30 (by omega)]; exact z30
    have g32 : gI τ2 (B + 54) 32 = -nI 1 := by rw [hf2 32 (by omega) (by omega) (by omega) (by omega) (by omega) (by omega) (by omega), rI_nk (by omega), hf 32 (by omega)]; exact z32
    refine t_partsOf (d := d + 63) (E := opn A (nI (an A 249 + i))) X2 ⟨hM2.1, g30, g32⟩ (EdG_o wh) ?_
    intro τ3 hP h39 _
    have X3 := PmI_X X2 hP
    have hv3 := X3.1
    have ep : (ptL (opn A (nI (an A 249 + i))) (ad (mkN (St A) (hn A)) (flW A seed i))).length = flP A seed i := rfl
    rw [ep] at h39
    have pl := flP_le (A := A) (seed := seed) (i := i)
    have mm := flM_le (A := A) (seed := seed) i
    have go : ∀ q, q = flM A seed (i + 1) → wp (d + 68) pr_271 Q 41 [some (.ref (B + 54)), some (.int y1), some (.int (nI n)), some (.int (nI q)), some (.int (nI (i + 1))), some (.int (nI (flW A seed i))), some (.int (nI (hn A)))] [] (sI (sI τ3 (B + 78) i (nI (flW A seed i))) (B + 79) i (nI (flP A seed i))) := by
      intro q hq
      subst hq
      have eo : ∀ j, j ≠ 39 → j ≠ 19 → j ≠ 20 → j ≠ 21 → j ≠ 23 → j ≠ 24 → j ≠ 28 → j ≠ 29 → j ≠ 49 → gI (sI (sI τ3 (B + 78) i (nI (flW A seed i))) (B + 79) i (nI (flP A seed i))) (B + 54) j = gI τ (B + 54) j := by
        intro j h1 h2 h3 h4 h5 h6 h7 h8 h9
        rw [rI_ne (by omega), rI_ne (by omega), hP.2 j h1, hf2 j h2 h3 h4 h5 h6 h7 h8, rI_nk h9]
      refine ih (i + 1) _ _ _ (by omega) ⟨?_, ?_, ?_, ?_, ?_, ?_⟩ K
      · refine Sm_I (Sm_I (Sm_trans hS (Sm_trans (Sm_I (Sm_refl _ _) (Or.inl rfl)) (Sm_trans (Sm_mono hS2 ?_) (Sm_mono hP.1 ?_)))) ?_) ?_
        · intro a ha; omega
        · intro a ha; omega
        · omega
        · omega
      · intro j hj
        rw [eo j (by omega) (by omega) (by omega) (by omega) (by omega) (by omega) (by omega) (by omega) (by omega)]
        exact hf j hj
      · rw [eo 48 (by omega) (by omega) (by omega) (by omega) (by omega) (by omega) (by omega) (by omega) (by omega)]; exact f48
      · rw [rI_ne (by omega), rI_ne (by omega), hP.2 49 (by omega), hf2 49 (by omega) (by omega) (by omega) (by omega) (by omega) (by omega) (by omega), rI_eq]
      · have e28 : gI (sI (sI τ3 (B + 78) i (nI (flW A seed i))) (B + 79) i (nI (flP A seed i))) (B + 54) 28 = nI v := by rw [rI_ne (by omega), rI_ne (by omega), hP.2 28 (by omega), h28]
        have e29 : gI (sI (sI τ3 (B + 78) i (nI (flW A seed i))) (B + 79) i (nI (flP A seed i))) (B + 54) 29 = nI (an A 249 + i) := by rw [rI_ne (by omega), rI_ne (by omega), hP.2 29 (by omega), h29]
        refine ⟨by rw [eo 1 (by omega) (by omega) (by omega) (by omega) (by omega) (by omega) (by omega) (by omega) (by omega)]; exact fM.1, fM.2.1, Or.inr ⟨v, e28, Nat.le_refl _⟩, fun _ => ?_⟩
        rw [e29, rI_ne (by omega), rI_ne (by omega), rI_ne (by omega), rI_ne (by omega), rI_ne (by omega), rI_ne (by omega), hP.1.2.2.2.2.2.2.1 (B + 66) (by omega), hP.1.2.2.2.2.2.2.1 (B + 67) (by omega), hP.1.2.2.2.2.2.2.1 (B + 68) (by omega)]
        exact hM2
      · intro j hj
        by_cases c : j = i
        · subst c
          exact ⟨by rw [rI_ne (by omega), rI_eq], by rw [rI_eq]⟩
        · rw [rI_ne (by omega), rI_nk c, rI_nk c, rI_ne (by omega), hP.1.2.2.2.2.2.2.1 (B + 78) (by omega), hP.1.2.2.2.2.2.2.1 (B + 79) (by omega), hS2.2.2.2.2.2.2.1 (B + 78) (by omega), hS2.2.2.2.2.2.2.1 (B + 79) (by omega), rI_ne (by omega), rI_ne (by omega)]
          exact fR j (by omega)
    by_cases c : flP A seed i ≤ flM A seed i
    · simp (disch := omega) only [e_271_115, e_271_116, e_271_119, e_271_121, e_271_123, e_271_124, e_271_125, e_271_128, e_271_130, e_271_131, e_271_134, e_271_135, e_271_136, e_271_139, e_271_140, e_271_143, e_271_144, e_271_147, e_271_150, e_271_151, e_271_152, e_271_155, n10, n01, Nat.lt_irrefl, Nat.not_lt_zero, ne_eq, Nat.add_zero, Nat.one_ne_zero, Nat.zero_ne_one, Nat.reduceEqDiff, bI_T, bI_F, bI_0, bI_1, bI_01, not_and_self, true_and, and_true, not_true_eq_false, not_false_eq_true, false_imp_iff, true_imp_iff, imp_self, gPv_n, gPv_i, gPv_r, gPv_0, Option.toList_some, Option.toList_none, List.singleton_append, List.cons_append, List.nil_append, List.length_nil, List.length_cons, Nat.zero_le, Nat.reduceAdd, Nat.reduceLeDiff, or_true, true_or, false_or, or_false, and_self, and_false, false_and, implies_true, Option.some.injEq, exists_eq_left', n_K_I, n_K_J, n_K_R, n_K_r, n_N_I, n_N_J, n_N_R, n_N_r, n_R_I, n_R_J, n_R_r, n_J_I, n_J_R, n_J_r, n_I_J, n_I_R, n_n_I, n_n_J, n_n_R, n_n_r, n_w_I, n_w_J, n_w_R, n_w_r, n_T_I, n_T_J, n_T_R, n_T_r, rI_ne, rI_nk, rI_eq, rr_ne, rr_eq, n_J_J, n_R_R, Nat.add_left_cancel_iff, Nat.add_right_cancel_iff, Nat.add_eq_left, Nat.left_eq_add, Nat.reduceEqDiff, Nat.reduceAdd, Nat.zero_ne_one, Nat.one_ne_zero, false_and, and_false, true_and, and_true, and_self, if_false, if_true, ↓reduceIte, nL, nI_add, nI_mul, nI_clamp, nI_ltI, nI_leI, nI_eq, nI_pos, nI_pos', Nat.reduceAdd, Nat.reduceMul, Nat.reducePow, sk_54 hv3, sr_54_2 hv3, sr_54_3 hv3, sr_54_4 hv3, sr_54_5 hv3, sr_54_7 hv3, sr_54_8 hv3, sr_54_9 hv3, sr_54_12 hv3, sr_54_13 hv3, sr_54_14 hv3, sr_54_22 hv3, sr_54_25 hv3, sr_54_26 hv3, sr_54_27 hv3, sr_54_34 hv3, sr_54_35 hv3, sr_54_36 hv3, sr_54_37 hv3, sr_54_38 hv3, sr_54_40 hv3, sr_54_43 hv3, sr_54_44 hv3, sr_54_45 hv3, sr_54_46 hv3, sr_54_47 hv3, sk_78 hv3, sn_78 hv3, sk_79 hv3, sn_79 hv3, y40, h39, c]
      exact go _ (by simp only [flM]; omega)
    · simp (disch := omega) only [e_271_115, e_271_116, e_271_119, e_271_121, e_271_123, e_271_124, e_271_125, e_271_128, e_271_130, e_271_131, e_271_134, e_271_135, e_271_136, e_271_139, e_271_140, e_271_143, e_271_144, e_271_147, e_271_150, e_271_151, e_271_152, e_271_155, n10, n01, Nat.lt_irrefl, Nat.not_lt_zero, ne_eq, Nat.add_zero, Nat.one_ne_zero, Nat.zero_ne_one, Nat.reduceEqDiff, bI_T, bI_F, bI_0, bI_1, bI_01, not_and_self, true_and, and_true, not_true_eq_false, not_false_eq_true, false_imp_iff, true_imp_iff, imp_self, gPv_n, gPv_i, gPv_r, gPv_0, Option.toList_some, Option.toList_none, List.singleton_append, List.cons_append, List.nil_append, List.length_nil, List.length_cons, Nat.zero_le, Nat.reduceAdd, Nat.reduceLeDiff, or_true, true_or, false_or, or_false, and_self, and_false, false_and, implies_true, Option.some.injEq, exists_eq_left', n_K_I, n_K_J, n_K_R, n_K_r, n_N_I, n_N_J, n_N_R, n_N_r, n_R_I, n_R_J, n_R_r, n_J_I, n_J_R, n_J_r, n_I_J, n_I_R, n_n_I, n_n_J, n_n_R, n_n_r, n_w_I, n_w_J, n_w_R, n_w_r, n_T_I, n_T_J, n_T_R, n_T_r, rI_ne, rI_nk, rI_eq, rr_ne, rr_eq, n_J_J, n_R_R, Nat.add_left_cancel_iff, Nat.add_right_cancel_iff, Nat.add_eq_left, Nat.left_eq_add, Nat.reduceEqDiff, Nat.reduceAdd, Nat.zero_ne_one, Nat.one_ne_zero, false_and, and_false, true_and, and_true, and_self, if_false, if_true, ↓reduceIte, nL, nI_add, nI_mul, nI_clamp, nI_ltI, nI_leI, nI_eq, nI_pos, nI_pos', Nat.reduceAdd, Nat.reduceMul, Nat.reducePow, sk_54 hv3, sr_54_2 hv3, sr_54_3 hv3, sr_54_4 hv3, sr_54_5 hv3, sr_54_7 hv3, sr_54_8 hv3, sr_54_9 hv3, sr_54_12 hv3, sr_54_13 hv3, sr_54_14 hv3, sr_54_22 hv3, sr_54_25 hv3, sr_54_26 hv3, sr_54_27 hv3, sr_54_34 hv3, sr_54_35 hv3, sr_54_36 hv3, sr_54_37 hv3, sr_54_38 hv3, sr_54_40 hv3, sr_54_43 hv3, sr_54_44 hv3, sr_54_45 hv3, sr_54_46 hv3, sr_54_47 hv3, sk_78 hv3, sn_78 hv3, sk_79 hv3, sn_79 hv3, y40, h39, c]
      exact go _ (by simp only [flM]; omega)
end
