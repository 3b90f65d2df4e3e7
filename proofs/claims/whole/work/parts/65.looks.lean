/-! the model looks; a question changes nothing that is kept -/
def MVx (A : Nat → Int32) (dy : Int32) (r66 r67 r68 : Nat → Int32) : Prop := (∀ a, a < hn A → r66 a = nI (opn A dy a)) ∧ ∀ a b, a < hn A → b < hn A → a ≠ b → r67 (12 * a + b) = tks A a b (A (72 + 12 * a + b)) dy ∧ r68 (12 * a + b) = bI (wdB A dy a b = true)
def Mc (B : Nat) (A : Nat → Int32) (σ : gS) (v : Nat) : Prop := gI σ (B + 54) 1 = nI v ∧ v < 1000000 ∧ (gI σ (B + 54) 28 = -nI 1 ∨ ∃ a, gI σ (B + 54) 28 = nI a ∧ a ≤ v) ∧ (gI σ (B + 54) 28 = nI v → MVx A (gI σ (B + 54) 29) (gI σ (B + 66)) (gI σ (B + 67)) (gI σ (B + 68)))
section
variable {B : Nat} {σ : gS} {A : Nat → Int32} {d : Nat} {Q : Option Value → gS → Prop} {dy : Int32}
theorem t_lv2 (X : MX B σ A) : ∀ m a τ (x3 x4 : Option Value), a + m = hn A → LvI B σ τ → (∀ a', a' < a → gI τ (B + 66) a' = nI (opn A dy a')) → (∀ a' b', a' < a → b' < hn A → a' ≠ b' → gI τ (B + 67) (12 * a' + b') = tks A a' b' (A (72 + 12 * a' + b')) dy ∧ gI τ (B + 68) (12 * a' + b') = bI (wdB A dy a' b' = true)) →
    (∀ τ', LvI B σ τ' → MVx A dy (gI τ' (B + 66)) (gI τ' (B + 67)) (gI τ' (B + 68)) → Q none τ') →
    wp (d + 67) pr_233 Q 35 [some (.ref (B + 54)), some (.int dy), some (.int (nI a)), x3, x4] [] τ := by
  obtain ⟨_, _, wh, wd, wl⟩ := id X
  have h12 := hn_le wh
  have hn2 := hn_eq wh
  intro m
  induction m with
  | zero =>
    intro a τ x3 x4 ha hL h1 h2 K
    obtain ⟨hv, hA, _⟩ := LvI_X X hL
    have z : hn A ≤ a := by omega
    simp (disch := omega) only [e_233_35, e_233_36, e_233_37, e_233_40, e_233_222, n10, n01, Nat.lt_irrefl, Nat.not_lt_zero, ne_eq, Nat.add_zero, Nat.one_ne_zero, Nat.zero_ne_one, Nat.reduceEqDiff, bI_T, bI_F, bI_0, bI_1, bI_01, not_and_self, true_and, and_true, not_true_eq_false, not_false_eq_true, false_imp_iff, true_imp_iff, imp_self, gPv_n, gPv_i, gPv_r, gPv_0, Option.toList_some, Option.toList_none, List.singleton_append, List.cons_append, List.nil_append, List.length_nil, List.length_cons, Nat.zero_le, Nat.reduceAdd, Nat.reduceLeDiff, or_true, true_or, false_or, or_false, and_self, and_false, false_and, implies_true, Option.some.injEq, exists_eq_left', nL, nI_add, nI_mul, nI_clamp, nI_ltI, nI_leI, nI_eq, nI_pos, nI_pos', Nat.reduceAdd, Nat.reduceMul, Nat.reducePow, sk_54 hv, sr_54_2 hv, sr_54_3 hv, sr_54_4 hv, sr_54_5 hv, sr_54_7 hv, sr_54_8 hv, sr_54_9 hv, sr_54_12 hv, sr_54_13 hv, sr_54_14 hv, sr_54_22 hv, sr_54_25 hv, sr_54_26 hv, sr_54_27 hv, sr_54_34 hv, sr_54_35 hv, sr_54_36 hv, sr_54_37 hv, sr_54_38 hv, sr_54_40 hv, sr_54_43 hv, sr_54_44 hv, sr_54_45 hv, sr_54_46 hv, sr_54_47 hv, t_houses hv, hA, hn2, z]
    exact K τ hL ⟨fun a' h => h1 a' (by omega), fun a' b' h3 h4 h5 => h2 a' b' (by omega) h4 h5⟩
  | succ m ih =>
    intro a τ x3 x4 ha hL h1 h2 K
    obtain ⟨hv, hA, _⟩ := LvI_X X hL
    have z : ¬ hn A ≤ a := by omega
    have han : a < hn A := by omega
    have a12 : a < 12 := by omega
    rw [e_233_35]
    simp (disch := omega) only [e_233_36, e_233_37, e_233_40, e_233_43, e_233_44, e_233_47, e_233_48, e_233_49, e_233_50, e_233_51, n10, n01, Nat.lt_irrefl, Nat.not_lt_zero, ne_eq, Nat.add_zero, Nat.one_ne_zero, Nat.zero_ne_one, Nat.reduceEqDiff, bI_T, bI_F, bI_0, bI_1, bI_01, not_and_self, true_and, and_true, not_true_eq_false, not_false_eq_true, false_imp_iff, true_imp_iff, imp_self, gPv_n, gPv_i, gPv_r, gPv_0, Option.toList_some, Option.toList_none, List.singleton_append, List.cons_append, List.nil_append, List.length_nil, List.length_cons, Nat.zero_le, Nat.reduceAdd, Nat.reduceLeDiff, or_true, true_or, false_or, or_false, and_self, and_false, false_and, implies_true, Option.some.injEq, exists_eq_left', nL, nI_add, nI_mul, nI_clamp, nI_ltI, nI_leI, nI_eq, nI_pos, nI_pos', Nat.reduceAdd, Nat.reduceMul, Nat.reducePow, sk_54 hv, sr_54_2 hv, sr_54_3 hv, sr_54_4 hv, sr_54_5 hv, sr_54_7 hv, sr_54_8 hv, sr_54_9 hv, sr_54_12 hv, sr_54_13 hv, sr_54_14 hv, sr_54_22 hv, sr_54_25 hv, sr_54_26 hv, sr_54_27 hv, sr_54_34 hv, sr_54_35 hv, sr_54_36 hv, sr_54_37 hv, sr_54_38 hv, sr_54_40 hv, sr_54_43 hv, sr_54_44 hv, sr_54_45 hv, sr_54_46 hv, sr_54_47 hv, sk_66 hv, sn_66 hv, t_houses hv, hA, hn2, z, a12]
    refine t_lv1 X han (hn A) 0 _ _ (by omega) (LvI_I hL ⟨by omega, by omega⟩) ⟨?_, ?_, ?_⟩ ?_
    · intro a' ha'
      rw [rI_nk (by omega)]
      exact h1 a' ha'
    · rw [rI_eq]
      rfl
    · intro a' b' h3 h4
      rw [rI_ne (by omega), rI_ne (by omega)]
      exact h2 a' b' (by omega) (by omega) h4
    · intro τ' x3' x4' hL' hR'
      simp (disch := omega) only [e_233_216, e_233_219, n10, n01, Nat.lt_irrefl, Nat.not_lt_zero, ne_eq, Nat.add_zero, Nat.one_ne_zero, Nat.zero_ne_one, Nat.reduceEqDiff, bI_T, bI_F, bI_0, bI_1, bI_01, not_and_self, true_and, and_true, not_true_eq_false, not_false_eq_true, false_imp_iff, true_imp_iff, imp_self, gPv_n, gPv_i, gPv_r, gPv_0, Option.toList_some, Option.toList_none, List.singleton_append, List.cons_append, List.nil_append, List.length_nil, List.length_cons, Nat.zero_le, Nat.reduceAdd, Nat.reduceLeDiff, or_true, true_or, false_or, or_false, and_self, and_false, false_and, implies_true, Option.some.injEq, exists_eq_left', nL, nI_add, nI_mul, nI_clamp, nI_ltI, nI_leI, nI_eq, nI_pos, nI_pos', Nat.reduceAdd, Nat.reduceMul, Nat.reducePow]
      refine ih (a + 1) τ' _ _ (by omega) hL' ?_ ?_ K
      · intro a' ha'
        by_cases z2 : a' = a
        · subst z2; exact hR'.2.1
        · exact hR'.1 a' (by omega)
      · intro a' b' h3 h4 h5
        exact hR'.2.2 a' b' (by omega) h5
theorem t_layV {v : Nat} (X : MX B σ A) (hm : Mc B A σ v) (K : ∀ τ, Sm (fun a => a = B + 54 ∨ B + 65 ≤ a ∧ a ≤ B + 68) σ τ → (∀ j, j ≠ 19 → j ≠ 20 → j ≠ 21 → j ≠ 23 → j ≠ 24 → j ≠ 28 → j ≠ 29 → gI τ (B + 54) j = gI σ (B + 54) j) → gI τ (B + 54) 28 = nI v → gI τ (B + 54) 29 = dy → MVx A dy (gI τ (B + 66)) (gI τ (B + 67)) (gI τ (B + 68)) → Q none τ) : wc (d + 68) 233 [.ref (B + 54), .int dy] σ Q := by
  obtain ⟨hv, hA, wh, wd, wl⟩ := id X
  obtain ⟨m1, m2, m3, m4⟩ := hm
  have main : wp (d + 67) pr_233 Q 20 [some (.ref (B + 54)), some (.int dy), none, none, none] [] σ := by
    simp (disch := omega) only [e_233_20, e_233_21, e_233_22, e_233_25, e_233_28, e_233_29, e_233_30, e_233_33, e_233_34, n10, n01, Nat.lt_irrefl, Nat.not_lt_zero, ne_eq, Nat.add_zero, Nat.one_ne_zero, Nat.zero_ne_one, Nat.reduceEqDiff, bI_T, bI_F, bI_0, bI_1, bI_01, not_and_self, true_and, and_true, not_true_eq_false, not_false_eq_true, false_imp_iff, true_imp_iff, imp_self, gPv_n, gPv_i, gPv_r, gPv_0, Option.toList_some, Option.toList_none, List.singleton_append, List.cons_append, List.nil_append, List.length_nil, List.length_cons, Nat.zero_le, Nat.reduceAdd, Nat.reduceLeDiff, or_true, true_or, false_or, or_false, and_self, and_false, false_and, implies_true, Option.some.injEq, exists_eq_left', n_K_I, n_K_J, n_K_R, n_K_r, n_N_I, n_N_J, n_N_R, n_N_r, n_R_I, n_R_J, n_R_r, n_J_I, n_J_R, n_J_r, n_I_J, n_I_R, n_n_I, n_n_J, n_n_R, n_n_r, n_w_I, n_w_J, n_w_R, n_w_r, n_T_I, n_T_J, n_T_R, n_T_r, rI_ne, rI_nk, rI_eq, rr_ne, rr_eq, n_J_J, n_R_R, Nat.add_left_cancel_iff, Nat.add_right_cancel_iff, Nat.add_eq_left, Nat.left_eq_add, Nat.reduceEqDiff, Nat.reduceAdd, Nat.zero_ne_one, Nat.one_ne_zero, false_and, and_false, true_and, and_true, and_self, if_false, if_true, ↓reduceIte, nL, sk_54 hv, sr_54_2 hv, sr_54_3 hv, sr_54_4 hv, sr_54_5 hv, sr_54_7 hv, sr_54_8 hv, sr_54_9 hv, sr_54_12 hv, sr_54_13 hv, sr_54_14 hv, sr_54_22 hv, sr_54_25 hv, sr_54_26 hv, sr_54_27 hv, sr_54_34 hv, sr_54_35 hv, sr_54_36 hv, sr_54_37 hv, sr_54_38 hv, sr_54_40 hv, sr_54_43 hv, sr_54_44 hv, sr_54_45 hv, sr_54_46 hv, sr_54_47 hv, m1]
    have X' : MX B (sI (sI σ (B + 54) 28 (nI v)) (B + 54) 29 dy) A := ⟨by simp only [IvS_I]; exact hv, by rw [rI_ne (by omega), rI_ne (by omega)]; exact hA, wh, wd, wl⟩
    refine t_lv2 X' (hn A) 0 _ _ _ (by omega) ⟨Sm_refl _ _, fun _ _ _ _ _ _ => rfl⟩ (fun _ h => absurd h (by omega)) (fun _ _ h => absurd h (by omega)) ?_
    intro τ hL hM
    refine K τ (Sm_trans (Sm_I (Sm_I (Sm_refl _ _) (Or.inl rfl)) (Or.inl rfl)) hL.1) ?_ ?_ ?_ hM
    · intro j h1 h2 h3 h4 h5 h6 h7
      rw [hL.2 j h1 h2 h3 h4 h5, rI_nk h7, rI_nk h6]
    · rw [hL.2 28 (by omega) (by omega) (by omega) (by omega) (by omega), rI_nk (by omega), rI_eq]
    · rw [hL.2 29 (by omega) (by omega) (by omega) (by omega) (by omega), rI_eq]
  by_cases c1 : gI σ (B + 54) 28 = nI v
  · by_cases c2 : gI σ (B + 54) 29 = dy
    · simp (disch := omega) only [c_233, e_233_0, e_233_1, e_233_4, e_233_5, e_233_8, e_233_11, e_233_12, e_233_15, e_233_16, e_233_19, n10, n01, Nat.lt_irrefl, Nat.not_lt_zero, ne_eq, Nat.add_zero, Nat.one_ne_zero, Nat.zero_ne_one, Nat.reduceEqDiff, bI_T, bI_F, bI_0, bI_1, bI_01, not_and_self, true_and, and_true, not_true_eq_false, not_false_eq_true, false_imp_iff, true_imp_iff, imp_self, gPv_n, gPv_i, gPv_r, gPv_0, Option.toList_some, Option.toList_none, List.singleton_append, List.cons_append, List.nil_append, List.length_nil, List.length_cons, Nat.zero_le, Nat.reduceAdd, Nat.reduceLeDiff, or_true, true_or, false_or, or_false, and_self, and_false, false_and, implies_true, Option.some.injEq, exists_eq_left', nL, sk_54 hv, sr_54_2 hv, sr_54_3 hv, sr_54_4 hv, sr_54_5 hv, sr_54_7 hv, sr_54_8 hv, sr_54_9 hv, sr_54_12 hv, sr_54_13 hv, sr_54_14 hv, sr_54_22 hv, sr_54_25 hv, sr_54_26 hv, sr_54_27 hv, sr_54_34 hv, sr_54_35 hv, sr_54_36 hv, sr_54_37 hv, sr_54_38 hv, sr_54_40 hv, sr_54_43 hv, sr_54_44 hv, sr_54_45 hv, sr_54_46 hv, sr_54_47 hv, m1, c1, c2]
      have := m4 c1
      rw [c2] at this
      exact K σ (Sm_refl _ _) (fun _ _ _ _ _ _ _ _ => rfl) c1 c2 this
    · simp (disch := omega) only [c_233, e_233_0, e_233_1, e_233_4, e_233_5, e_233_8, e_233_11, e_233_12, e_233_15, e_233_16, e_233_19, n10, n01, Nat.lt_irrefl, Nat.not_lt_zero, ne_eq, Nat.add_zero, Nat.one_ne_zero, Nat.zero_ne_one, Nat.reduceEqDiff, bI_T, bI_F, bI_0, bI_1, bI_01, not_and_self, true_and, and_true, not_true_eq_false, not_false_eq_true, false_imp_iff, true_imp_iff, imp_self, gPv_n, gPv_i, gPv_r, gPv_0, Option.toList_some, Option.toList_none, List.singleton_append, List.cons_append, List.nil_append, List.length_nil, List.length_cons, Nat.zero_le, Nat.reduceAdd, Nat.reduceLeDiff, or_true, true_or, false_or, or_false, and_self, and_false, false_and, implies_true, Option.some.injEq, exists_eq_left', nL, sk_54 hv, sr_54_2 hv, sr_54_3 hv, sr_54_4 hv, sr_54_5 hv, sr_54_7 hv, sr_54_8 hv, sr_54_9 hv, sr_54_12 hv, sr_54_13 hv, sr_54_14 hv, sr_54_22 hv, sr_54_25 hv, sr_54_26 hv, sr_54_27 hv, sr_54_34 hv, sr_54_35 hv, sr_54_36 hv, sr_54_37 hv, sr_54_38 hv, sr_54_40 hv, sr_54_43 hv, sr_54_44 hv, sr_54_45 hv, sr_54_46 hv, sr_54_47 hv, m1, c1, c2]
      exact main
  · simp (disch := omega) only [c_233, e_233_0, e_233_1, e_233_4, e_233_5, e_233_8, e_233_11, e_233_12, e_233_15, e_233_16, e_233_19, n10, n01, Nat.lt_irrefl, Nat.not_lt_zero, ne_eq, Nat.add_zero, Nat.one_ne_zero, Nat.zero_ne_one, Nat.reduceEqDiff, bI_T, bI_F, bI_0, bI_1, bI_01, not_and_self, true_and, and_true, not_true_eq_false, not_false_eq_true, false_imp_iff, true_imp_iff, imp_self, gPv_n, gPv_i, gPv_r, gPv_0, Option.toList_some, Option.toList_none, List.singleton_append, List.cons_append, List.nil_append, List.length_nil, List.length_cons, Nat.zero_le, Nat.reduceAdd, Nat.reduceLeDiff, or_true, true_or, false_or, or_false, and_self, and_false, false_and, implies_true, Option.some.injEq, exists_eq_left', nL, sk_54 hv, sr_54_2 hv, sr_54_3 hv, sr_54_4 hv, sr_54_5 hv, sr_54_7 hv, sr_54_8 hv, sr_54_9 hv, sr_54_12 hv, sr_54_13 hv, sr_54_14 hv, sr_54_22 hv, sr_54_25 hv, sr_54_26 hv, sr_54_27 hv, sr_54_34 hv, sr_54_35 hv, sr_54_36 hv, sr_54_37 hv, sr_54_38 hv, sr_54_40 hv, sr_54_43 hv, sr_54_44 hv, sr_54_45 hv, sr_54_46 hv, sr_54_47 hv, m1, c1]
    exact main
theorem t_looks {v : Nat} (X : MX B σ A) (hm : Mc B A σ v) (K : ∀ τ, Sm (fun a => a = B + 54 ∨ B + 65 ≤ a ∧ a ≤ B + 68) σ τ → (∀ j, j ≠ 19 → j ≠ 20 → j ≠ 21 → j ≠ 23 → j ≠ 24 → j ≠ 28 → j ≠ 29 → gI τ (B + 54) j = gI σ (B + 54) j) → gI τ (B + 54) 28 = nI v → gI τ (B + 54) 29 = A 249 → MVx A (A 249) (gI τ (B + 66)) (gI τ (B + 67)) (gI τ (B + 68)) → Q none τ) : wc (d + 69) 234 [.ref (B + 54)] σ Q := by
  have hv := X.1
  have hA := X.2.1
  simp (disch := omega) only [c_234, e_234_0, e_234_1, e_234_2, e_234_5, e_234_8, e_234_9, n10, n01, Nat.lt_irrefl, Nat.not_lt_zero, ne_eq, Nat.add_zero, Nat.one_ne_zero, Nat.zero_ne_one, Nat.reduceEqDiff, bI_T, bI_F, bI_0, bI_1, bI_01, not_and_self, true_and, and_true, not_true_eq_false, not_false_eq_true, false_imp_iff, true_imp_iff, imp_self, gPv_n, gPv_i, gPv_r, gPv_0, Option.toList_some, Option.toList_none, List.singleton_append, List.cons_append, List.nil_append, List.length_nil, List.length_cons, Nat.zero_le, Nat.reduceAdd, Nat.reduceLeDiff, or_true, true_or, false_or, or_false, and_self, and_false, false_and, implies_true, Option.some.injEq, exists_eq_left', nL, nI_add, nI_mul, nI_clamp, nI_ltI, nI_leI, nI_eq, nI_pos, nI_pos', Nat.reduceAdd, Nat.reduceMul, Nat.reducePow, sk_54 hv, sr_54_2 hv, sr_54_3 hv, sr_54_4 hv, sr_54_5 hv, sr_54_7 hv, sr_54_8 hv, sr_54_9 hv, sr_54_12 hv, sr_54_13 hv, sr_54_14 hv, sr_54_22 hv, sr_54_25 hv, sr_54_26 hv, sr_54_27 hv, sr_54_34 hv, sr_54_35 hv, sr_54_36 hv, sr_54_37 hv, sr_54_38 hv, sr_54_40 hv, sr_54_43 hv, sr_54_44 hv, sr_54_45 hv, sr_54_46 hv, sr_54_47 hv, sk_56 hv, sn_56 hv, hA, Nat.reduceLT]
  refine t_layV X hm ?_
  intro τ h1 h2 h3 h4 h5
  simp only [n10, n01, Nat.lt_irrefl, Nat.not_lt_zero, ne_eq, Nat.add_zero, Nat.one_ne_zero, Nat.zero_ne_one, Nat.reduceEqDiff, bI_T, bI_F, bI_0, bI_1, bI_01, not_and_self, true_and, and_true, not_true_eq_false, not_false_eq_true, false_imp_iff, true_imp_iff, imp_self, gPv_n, gPv_i, gPv_r, gPv_0, Option.toList_some, Option.toList_none, List.singleton_append, List.cons_append, List.nil_append, List.length_nil, List.length_cons, Nat.zero_le, Nat.reduceAdd, Nat.reduceLeDiff, or_true, true_or, false_or, or_false, and_self, and_false, false_and, implies_true, Option.some.injEq, exists_eq_left', e_234_12]
  exact K τ h1 h2 h3 h4 h5
end
section
variable {CV : Nat → (Nat → Int32) → (Nat → Nat → Int32) → Prop} {G : gG} {σ : gS} {k : Nat}
theorem Inv_ctx (hI : Inv LSx CV MVx G σ k) (hk : k < 512) : ∃ own cc v, Ctx (gB G) own σ (gI σ (gB G + 56)) ∧ Ca CV (gB G) (gI σ (gB G + 56)) σ cc ∧ MX (gB G) σ (gI σ (gB G + 56)) ∧ Mc (gB G) (gI σ (gB G + 56)) σ v := by
  obtain ⟨own, i1, i2, i3, i4, i5, i6, i7, i8, i9, i10, i11⟩ := hI
  obtain ⟨⟨cc, c1, c2, c3⟩, v, v1, v2, v3⟩ := i3
  have hc : Ctx (gB G) own σ (gI σ (gB G + 56)) := ⟨i1.1, i4, fun a ha => (i2.1 a ha).1⟩
  refine ⟨own, cc, v, hc, ⟨c1, by omega, fun i hi => ⟨c3 i hi, fun z => i9 i hi (by rw [z, c1])⟩⟩, ⟨i1.1, rfl, i4.1.1, i4.1.2.1, Ctx_ok hc⟩, v1, by omega, v3, fun z => i10 (by rw [z, v1])⟩
theorem Inv_qry {σ1 σ2 : gS} {cc : Nat} (hk : k < 512) (hI : Inv LSx CV MVx G σ k) (hS1 : Sm (fun a => gB G + 25 ≤ a ∧ a < gB G + 50) σ σ1) (hCa : Ca CV (gB G) (gI σ (gB G + 56)) σ1 cc) (hS2 : Sm (fun a => a = gB G + 54 ∨ gB G + 61 ≤ a ∧ a < gB G + 78) σ1 σ2)
    (hf : ∀ j, j = 0 ∨ j = 1 ∨ j = 6 ∨ j = 10 ∨ j = 11 ∨ j = 30 ∨ j = 32 ∨ j = 48 → gI σ2 (gB G + 54) j = gI σ (gB G + 54) j)
    (hm : (gI σ2 (gB G + 54) 28 = gI σ (gB G + 54) 28 ∧ gI σ2 (gB G + 54) 29 = gI σ (gB G + 54) 29 ∧ gI σ2 (gB G + 66) = gI σ (gB G + 66) ∧ gI σ2 (gB G + 67) = gI σ (gB G + 67) ∧ gI σ2 (gB G + 68) = gI σ (gB G + 68)) ∨ (gI σ2 (gB G + 54) 28 = gI σ (gB G + 54) 1 ∧ MVx (gI σ (gB G + 56)) (gI σ2 (gB G + 54) 29) (gI σ2 (gB G + 66)) (gI σ2 (gB G + 67)) (gI σ2 (gB G + 68)))) : Inv LSx CV MVx G σ2 (k + 1) := by
  obtain ⟨own, i1, i2, i3, i4, i5, i6, i7, i8, i9, i10, i11⟩ := hI
  have e1 : ∀ a, ¬ (gB G + 25 ≤ a ∧ a < gB G + 50) → ¬ (a = gB G + 54 ∨ gB G + 61 ≤ a ∧ a < gB G + 78) → gI σ2 a = gI σ a := fun a h1 h2 => (hS2.2.2.2.2.2.2.1 a h2).trans (hS1.2.2.2.2.2.2.1 a h1)
  have eC : ∀ a, ¬ (a = gB G + 54 ∨ gB G + 61 ≤ a ∧ a < gB G + 78) → gI σ2 a = gI σ1 a := fun a h2 => hS2.2.2.2.2.2.2.1 a h2
  have hK : gK σ2 = gK σ := hS2.1.trans hS1.1
  have hN : gN σ2 = gN σ := hS2.2.1.trans hS1.2.1
  have hR : gR σ2 = gR σ := hS2.2.2.1.trans hS1.2.2.1
  have hnn : gn σ2 = gn σ := hS2.2.2.2.1.trans hS1.2.2.2.1
  have hw : gw σ2 = gw σ := hS2.2.2.2.2.1.trans hS1.2.2.2.2.1
  have hT : gT σ2 = gT σ := hS2.2.2.2.2.2.1.trans hS1.2.2.2.2.2.1
  have hb := i1.2.2.2.2.2.1
  have hSm : Sm (fun a => gB G ≤ a) σ σ2 := Sm_trans (Sm_mono hS1 (fun a ha => by omega)) (Sm_mono hS2 (fun a ha => by omega))
  have hl : ∀ a, own a ≠ 0 → gI σ2 a = gI σ a := fun a ha => e1 a (by have := i2.1 a ha; omega) (by have := i2.1 a ha; omega)
  have e56 : gI σ2 (gB G + 56) = gI σ (gB G + 56) := e1 _ (by omega) (by omega)
  have e17 : gI σ2 (gB G + 1) = gI σ (gB G + 1) := e1 _ (by omega) (by omega)
  refine ⟨own, fr_I1 hSm i1, fr_I2 hK hN hR hnn hw i2, ?_, ?_, fr_I5 hK hN hR (e1 _ (by omega) (by omega)) (e1 _ (by omega) (by omega)) (fun a ha _ => hl a ha) i5, ?_, ?_, ?_, ?_, ?_, ?_⟩
  · obtain ⟨⟨c, c1, c2, c3⟩, v, v1, v2, v3⟩ := i3
    refine ⟨⟨c, by rw [e17]; exact c1, by omega, ?_⟩, v, by rw [hf 1 (by omega)]; exact v1, by omega, ?_⟩
    · have ec : cc = c := by
        have := hCa.1
        rw [hS1.2.2.2.2.2.2.1 (gB G + 1) (by omega), c1] at this
        have := hCa.2.1
        rw [nI_eq (by omega) (by omega)] at *
        omega
      intro i hi
      have := cO_in i hi
      have h3 := (hCa.2.2 i hi).1
      rw [eC _ (by omega)]
      rw [ec] at h3
      exact h3
    · rcases hm with ⟨m1, _⟩ | ⟨m1, _⟩
      · rw [m1]; exact v3
      · rw [m1, v1]; exact Or.inr ⟨v, rfl, Nat.le_refl _⟩
  · rw [e56]
    refine fr_I4 hK hN hR ?_ (fun a ha => hl a (by omega)) i4
    intro o ho
    exact e1 _ (by omega) (by omega)
  · obtain ⟨q, q1, q2, q3, q4⟩ := i6
    exact ⟨q, q1, by rw [e1 (gB G) (by omega) (by omega)]; exact q2, by rw [hf 10 (by omega)]; exact q3, by rw [e1 (gB G + 19) (by omega) (by omega), e1 (gB G + 60) (by omega) (by omega)]; exact q4⟩
  · simp only [I7] at i7 ⊢
    rw [e1 (gB G) (by omega) (by omega), e1 (gB G + 24) (by omega) (by omega), e1 (gB G + 55) (by omega) (by omega), hf 11 (by omega), hf 6 (by omega), hf 0 (by omega)]
    exact i7
  · obtain ⟨q, q1, q2, q3, q4⟩ := i8
    exact ⟨q, q1, by rw [e1 (gB G + 50) (by omega) (by omega)]; exact q2, by rw [hf 48 (by omega)]; exact q3, by rw [e1 (gB G + 52) (by omega) (by omega), e1 (gB G + 53) (by omega) (by omega), e1 (gB G + 78) (by omega) (by omega), e1 (gB G + 79) (by omega) (by omega)]; exact q4⟩
  · intro c hc z
    have := cO_in c hc
    rw [e17, eC _ (by omega)] at z
    have h17 := hCa.1
    rw [hS1.2.2.2.2.2.2.1 (gB G + 1) (by omega)] at h17
    rw [h17] at z
    have := (hCa.2.2 c hc).2 z
    rw [e56, cw_c (fun o h1 h2 => eC _ (by omega))]
    exact this
  · intro z
    rw [e56]
    rcases hm with ⟨m1, m2, m3, m4, m5⟩ | ⟨m1, m2⟩
    · rw [m2, m3, m4, m5]
      exact i10 (by rw [← m1, z, hf 1 (by omega)])
    · exact m2
  · obtain ⟨z1, z2, z3, z4⟩ := i11
    exact ⟨(hf 30 (by omega)).trans z1, (hf 32 (by omega)).trans z2, by rw [e1 (gB G + 59) (by omega) (by omega)]; exact z3, fr_I12 hK hT z4⟩
end
