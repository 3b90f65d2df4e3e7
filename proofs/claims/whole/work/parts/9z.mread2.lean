/-! the model reads a law's tokens: tests, clauses -/
section
variable {B n : Nat} {c v P : Nat → Nat} {σ : gS} {d : Nat} {Q : Option Value → gS → Prop}
theorem t_nots {D dp q : Nat} {x3 : Option Value} (X : MRX B n c v P σ) : ∀ F t b τ, FI B σ τ t q → t ≤ n → n < t + F → (∀ τ', FI B σ τ' (pNots c F t b).1 q → (pNots c F t b).1 ≤ n → wp (D + 2) pr_209 Q 16 [some (.ref (B + 54)), some (.int (nI dp)), some (.int (nI 0)), x3] [] τ') → wp (D + 2) pr_209 Q 2 [some (.ref (B + 54)), some (.int (nI dp)), some (.int (nI 1)), x3] [] τ := by
  intro F
  induction F with
  | zero => intro t b τ h ht hF; omega
  | succ F ih =>
    intro t b τ h ht hF K
    have hv := rd_v X.1 h.1
    rw [pNots] at K
    rw [e_209_2]
    by_cases a : c t = 6
    · rw [if_pos a] at K
      simp (disch := omega) only [e_209_3, e_209_6, e_209_7, e_209_9, n10, n01, Nat.lt_irrefl, Nat.not_lt_zero, ne_eq, Nat.add_zero, Nat.one_ne_zero, Nat.zero_ne_one, Nat.reduceEqDiff, bI_T, bI_F, bI_0, bI_1, bI_01, not_and_self, true_and, and_true, not_true_eq_false, not_false_eq_true, false_imp_iff, true_imp_iff, imp_self, gPv_n, gPv_i, gPv_r, gPv_0, Option.toList_some, Option.toList_none, List.singleton_append, List.cons_append, List.nil_append, List.length_nil, List.length_cons, Nat.zero_le, Nat.reduceAdd, Nat.reduceLeDiff, or_true, true_or, false_or, or_false, and_self, and_false, false_and, implies_true, Option.some.injEq, exists_eq_left', nL, nI_add, nI_mul, nI_clamp, nI_ltI, nI_leI, nI_eq, nI_pos, nI_pos', Nat.reduceAdd, Nat.reduceMul, Nat.reducePow, sk_54 hv, sr_54_2 hv, sr_54_3 hv, sr_54_4 hv, sr_54_5 hv, sr_54_7 hv, sr_54_8 hv, sr_54_9 hv, sr_54_12 hv, sr_54_13 hv, sr_54_14 hv, sr_54_22 hv, sr_54_25 hv, sr_54_26 hv, sr_54_27 hv, sr_54_34 hv, sr_54_35 hv, sr_54_36 hv, sr_54_37 hv, sr_54_38 hv, sr_54_40 hv, sr_54_43 hv, sr_54_44 hv, sr_54_45 hv, sr_54_46 hv, sr_54_47 hv]
      refine t_tkT X h (by omega) a ?_
      intro τ' h' hn'
      simp (disch := omega) only [e_209_12, e_209_13, n10, n01, Nat.lt_irrefl, Nat.not_lt_zero, ne_eq, Nat.add_zero, Nat.one_ne_zero, Nat.zero_ne_one, Nat.reduceEqDiff, bI_T, bI_F, bI_0, bI_1, bI_01, not_and_self, true_and, and_true, not_true_eq_false, not_false_eq_true, false_imp_iff, true_imp_iff, imp_self, gPv_n, gPv_i, gPv_r, gPv_0, Option.toList_some, Option.toList_none, List.singleton_append, List.cons_append, List.nil_append, List.length_nil, List.length_cons, Nat.zero_le, Nat.reduceAdd, Nat.reduceLeDiff, or_true, true_or, false_or, or_false, and_self, and_false, false_and, implies_true, Option.some.injEq, exists_eq_left', nL]
      exact ih (t + 1) (!b) τ' h' hn' (by omega) K
    · rw [if_neg a] at K
      simp (disch := omega) only [e_209_3, e_209_6, e_209_7, e_209_9, e_209_12, e_209_13, n10, n01, Nat.lt_irrefl, Nat.not_lt_zero, ne_eq, Nat.add_zero, Nat.one_ne_zero, Nat.zero_ne_one, Nat.reduceEqDiff, bI_T, bI_F, bI_0, bI_1, bI_01, not_and_self, true_and, and_true, not_true_eq_false, not_false_eq_true, false_imp_iff, true_imp_iff, imp_self, gPv_n, gPv_i, gPv_r, gPv_0, Option.toList_some, Option.toList_none, List.singleton_append, List.cons_append, List.nil_append, List.length_nil, List.length_cons, Nat.zero_le, Nat.reduceAdd, Nat.reduceLeDiff, or_true, true_or, false_or, or_false, and_self, and_false, false_and, implies_true, Option.some.injEq, exists_eq_left', nL, nI_add, nI_mul, nI_clamp, nI_ltI, nI_leI, nI_eq, nI_pos, nI_pos', Nat.reduceAdd, Nat.reduceMul, Nat.reducePow, sk_54 hv, sr_54_2 hv, sr_54_3 hv, sr_54_4 hv, sr_54_5 hv, sr_54_7 hv, sr_54_8 hv, sr_54_9 hv, sr_54_12 hv, sr_54_13 hv, sr_54_14 hv, sr_54_22 hv, sr_54_25 hv, sr_54_26 hv, sr_54_27 hv, sr_54_34 hv, sr_54_35 hv, sr_54_36 hv, sr_54_37 hv, sr_54_38 hv, sr_54_40 hv, sr_54_43 hv, sr_54_44 hv, sr_54_45 hv, sr_54_46 hv, sr_54_47 hv, t_tkN X h ht (show 6 < 1000 by omega) a]
      rw [e_209_2]
      simp (disch := omega) only [e_209_3, n10, n01, Nat.lt_irrefl, Nat.not_lt_zero, ne_eq, Nat.add_zero, Nat.one_ne_zero, Nat.zero_ne_one, Nat.reduceEqDiff, bI_T, bI_F, bI_0, bI_1, bI_01, not_and_self, true_and, and_true, not_true_eq_false, not_false_eq_true, false_imp_iff, true_imp_iff, imp_self, gPv_n, gPv_i, gPv_r, gPv_0, Option.toList_some, Option.toList_none, List.singleton_append, List.cons_append, List.nil_append, List.length_nil, List.length_cons, Nat.zero_le, Nat.reduceAdd, Nat.reduceLeDiff, or_true, true_or, false_or, or_false, and_self, and_false, false_and, implies_true, Option.some.injEq, exists_eq_left', nL, nI_add, nI_mul, nI_clamp, nI_ltI, nI_leI, nI_eq, nI_pos, nI_pos', Nat.reduceAdd, Nat.reduceMul, Nat.reducePow]
      exact K τ h ht
set_option maxHeartbeats 1000000 in
theorem t_plain {D dp F : Nat} {S : Nat → Nat → zR zS} {T : Nat → Nat → zR zT} {b : Bool} (X : MRX B n c v P σ) (hF : n < F) (hS : Rd B n P σ (D + 3) 210 [.int (nI dp)] S) (hb : b = true → dp < 8 ∧ Rd B n P σ (D + 3) 207 [.int (nI (dp + 1))] T) (hb2 : b = false → dp = 8) : Rd B n P σ (D + 4) 209 [.int (nI dp)] (pPlain c S T b F) := by
  have n4 := X.2.1
  have dp8 : dp ≤ 8 := by
    cases b
    · have := hb2 rfl; omega
    · have := (hb rfl).1; omega
  refine ⟨?_, ?_⟩
  · intro τ t0 q Q h ht hq K
    have hv := rd_v X.1 h.1
    simp (disch := omega) only [c_209, e_209_0, e_209_1, n10, n01, Nat.lt_irrefl, Nat.not_lt_zero, ne_eq, Nat.add_zero, Nat.one_ne_zero, Nat.zero_ne_one, Nat.reduceEqDiff, bI_T, bI_F, bI_0, bI_1, bI_01, not_and_self, true_and, and_true, not_true_eq_false, not_false_eq_true, false_imp_iff, true_imp_iff, imp_self, gPv_n, gPv_i, gPv_r, gPv_0, Option.toList_some, Option.toList_none, List.singleton_append, List.cons_append, List.nil_append, List.length_nil, List.length_cons, Nat.zero_le, Nat.reduceAdd, Nat.reduceLeDiff, or_true, true_or, false_or, or_false, and_self, and_false, false_and, implies_true, Option.some.injEq, exists_eq_left', nL]
    refine t_nots (D := D + 1) X F t0 false τ h ht (by omega) ?_
    rw [pPlain] at K
    intro τ1 h1 ht1
    generalize (pNots c F t0 false).1 = t at h1 ht1 K
    generalize (pNots c F t0 false).2 = tn at K
    have hv1 := rd_v X.1 h1.1
    have r62 : gI τ1 (B + 62) t = nI (c t) := by rw [h1.1.1.2.2.2.2.2.2.1 _ (by omega)]; exact (X.2.2.1 t ht1).1
    have c1 := X.2.2.2.2.1 t
    have z : t < 401 := by omega
    by_cases a : c t = 140
    · rw [pPos, if_pos a] at K
      cases b
      · rw [if_neg (by decide)] at K
        have d8 := hb2 rfl
        simp (disch := omega) only [e_209_16, e_209_17, e_209_20, e_209_23, e_209_24, e_209_25, e_209_28, e_209_29, e_209_32, e_209_33, e_209_34, e_209_35, e_209_37, e_209_40, e_209_43, e_209_44, e_209_46, e_209_49, e_209_50, c_205, e_205_0, e_205_2, e_205_3, e_205_4, n10, n01, Nat.lt_irrefl, Nat.not_lt_zero, ne_eq, Nat.add_zero, Nat.one_ne_zero, Nat.zero_ne_one, Nat.reduceEqDiff, bI_T, bI_F, bI_0, bI_1, bI_01, not_and_self, true_and, and_true, not_true_eq_false, not_false_eq_true, false_imp_iff, true_imp_iff, imp_self, gPv_n, gPv_i, gPv_r, gPv_0, Option.toList_some, Option.toList_none, List.singleton_append, List.cons_append, List.nil_append, List.length_nil, List.length_cons, Nat.zero_le, Nat.reduceAdd, Nat.reduceLeDiff, or_true, true_or, false_or, or_false, and_self, and_false, false_and, implies_true, Option.some.injEq, exists_eq_left', nL, nI_add, nI_mul, nI_clamp, nI_ltI, nI_leI, nI_eq, nI_pos, nI_pos', Nat.reduceAdd, Nat.reduceMul, Nat.reducePow, sk_54 hv1, sr_54_2 hv1, sr_54_3 hv1, sr_54_4 hv1, sr_54_5 hv1, sr_54_7 hv1, sr_54_8 hv1, sr_54_9 hv1, sr_54_12 hv1, sr_54_13 hv1, sr_54_14 hv1, sr_54_22 hv1, sr_54_25 hv1, sr_54_26 hv1, sr_54_27 hv1, sr_54_34 hv1, sr_54_35 hv1, sr_54_36 hv1, sr_54_37 hv1, sr_54_38 hv1, sr_54_40 hv1, sr_54_43 hv1, sr_54_44 hv1, sr_54_45 hv1, sr_54_46 hv1, sr_54_47 hv1, sk_62 hv1, sn_62 hv1, t_fineT X h1, h1.2.1, r62, z, a, d8]
        refine t_fltT X h1 ht1 ?_
        intro τ' h' _
        have hv' := rd_v X.1 h'.1
        simp (disch := omega) only [e_209_53, e_209_54, e_209_57, e_209_60, n10, n01, Nat.lt_irrefl, Nat.not_lt_zero, ne_eq, Nat.add_zero, Nat.one_ne_zero, Nat.zero_ne_one, Nat.reduceEqDiff, bI_T, bI_F, bI_0, bI_1, bI_01, not_and_self, true_and, and_true, not_true_eq_false, not_false_eq_true, false_imp_iff, true_imp_iff, imp_self, gPv_n, gPv_i, gPv_r, gPv_0, Option.toList_some, Option.toList_none, List.singleton_append, List.cons_append, List.nil_append, List.length_nil, List.length_cons, Nat.zero_le, Nat.reduceAdd, Nat.reduceLeDiff, or_true, true_or, false_or, or_false, and_self, and_false, false_and, implies_true, Option.some.injEq, exists_eq_left', nL, nI_add, nI_mul, nI_clamp, nI_ltI, nI_leI, nI_eq, nI_pos, nI_pos', Nat.reduceAdd, Nat.reduceMul, Nat.reducePow, sk_54 hv', sr_54_2 hv', sr_54_3 hv', sr_54_4 hv', sr_54_5 hv', sr_54_7 hv', sr_54_8 hv', sr_54_9 hv', sr_54_12 hv', sr_54_13 hv', sr_54_14 hv', sr_54_22 hv', sr_54_25 hv', sr_54_26 hv', sr_54_27 hv', sr_54_34 hv', sr_54_35 hv', sr_54_36 hv', sr_54_37 hv', sr_54_38 hv', sr_54_40 hv', sr_54_43 hv', sr_54_44 hv', sr_54_45 hv', sr_54_46 hv', sr_54_47 hv', t_fineF X h']
        exact K τ' h'
      · rw [if_pos rfl] at K
        obtain ⟨d7, hT⟩ := hb rfl
        have d8 : ¬ dp = 8 := by omega
        have tn' : t < n := by
          by_cases z : t < n
          · exact z
          · have := X.2.2.2.1 t (by omega); omega
        have h2 : FI B σ (sI τ1 (B + 54) 16 (nI (t + 1))) (t + 1) q := ⟨rd_I h1.1 (by omega), by rw [rI_eq], by rw [rI_nk (by omega)]; exact h1.2.2.1, by rw [rI_nk (by omega)]; exact h1.2.2.2⟩
        simp (disch := omega) only [e_209_16, e_209_17, e_209_20, e_209_23, e_209_24, e_209_25, e_209_28, e_209_29, e_209_32, e_209_33, e_209_34, e_209_35, e_209_37, e_209_40, e_209_43, e_209_44, e_209_46, e_209_53, e_209_54, e_209_57, e_209_61, e_209_62, e_209_62n, e_209_63, e_209_66, e_209_67, e_209_68, e_209_71, e_209_72, e_209_73, e_209_74, e_209_75, c_205, e_205_0, e_205_2, e_205_3, e_205_4, n10, n01, Nat.lt_irrefl, Nat.not_lt_zero, ne_eq, Nat.add_zero, Nat.one_ne_zero, Nat.zero_ne_one, Nat.reduceEqDiff, bI_T, bI_F, bI_0, bI_1, bI_01, not_and_self, true_and, and_true, not_true_eq_false, not_false_eq_true, false_imp_iff, true_imp_iff, imp_self, gPv_n, gPv_i, gPv_r, gPv_0, Option.toList_some, Option.toList_none, List.singleton_append, List.cons_append, List.nil_append, List.length_nil, List.length_cons, Nat.zero_le, Nat.reduceAdd, Nat.reduceLeDiff, or_true, true_or, false_or, or_false, and_self, and_false, false_and, implies_true, Option.some.injEq, exists_eq_left', nL, nI_add, nI_mul, nI_clamp, nI_ltI, nI_leI, nI_eq, nI_pos, nI_pos', Nat.reduceAdd, Nat.reduceMul, Nat.reducePow, n_K_I, n_K_J, n_K_R, n_K_r, n_N_I, n_N_J, n_N_R, n_N_r, n_R_I, n_R_J, n_R_r, n_J_I, n_J_R, n_J_r, n_I_J, n_I_R, n_n_I, n_n_J, n_n_R, n_n_r, n_w_I, n_w_J, n_w_R, n_w_r, n_T_I, n_T_J, n_T_R, n_T_r, rI_ne, rI_nk, rI_eq, rr_ne, rr_eq, n_J_J, n_R_R, Nat.add_left_cancel_iff, Nat.add_right_cancel_iff, Nat.add_eq_left, Nat.left_eq_add, Nat.reduceEqDiff, Nat.reduceAdd, Nat.zero_ne_one, Nat.one_ne_zero, false_and, and_false, true_and, and_true, and_self, if_false, if_true, ↓reduceIte, sk_54 hv1, sr_54_2 hv1, sr_54_3 hv1, sr_54_4 hv1, sr_54_5 hv1, sr_54_7 hv1, sr_54_8 hv1, sr_54_9 hv1, sr_54_12 hv1, sr_54_13 hv1, sr_54_14 hv1, sr_54_22 hv1, sr_54_25 hv1, sr_54_26 hv1, sr_54_27 hv1, sr_54_34 hv1, sr_54_35 hv1, sr_54_36 hv1, sr_54_37 hv1, sr_54_38 hv1, sr_54_40 hv1, sr_54_43 hv1, sr_54_44 hv1, sr_54_45 hv1, sr_54_46 hv1, sr_54_47 hv1, sk_62 hv1, sn_62 hv1, t_fineT X h1, h1.2.1, r62, z, a, d8]
        refine hT.1 _ (t + 1) q _ h2 tn' hq ?_
        intro τ3 ok
        cases hr : T (t + 1) q with
        | inl e =>
          rw [hr] at ok K
          have ok : FE B P σ τ3 e := ok
          have hv3 := rd_v X.1 ok.1
          simp (disch := omega) only [e_209_78, e_209_79, e_209_81, e_209_84, e_209_87, e_209_133, c_205, e_205_0, e_205_2, e_205_3, e_205_4, n10, n01, Nat.lt_irrefl, Nat.not_lt_zero, ne_eq, Nat.add_zero, Nat.one_ne_zero, Nat.zero_ne_one, Nat.reduceEqDiff, bI_T, bI_F, bI_0, bI_1, bI_01, not_and_self, true_and, and_true, not_true_eq_false, not_false_eq_true, false_imp_iff, true_imp_iff, imp_self, gPv_n, gPv_i, gPv_r, gPv_0, Option.toList_some, Option.toList_none, List.singleton_append, List.cons_append, List.nil_append, List.length_nil, List.length_cons, Nat.zero_le, Nat.reduceAdd, Nat.reduceLeDiff, or_true, true_or, false_or, or_false, and_self, and_false, false_and, implies_true, Option.some.injEq, exists_eq_left', nL, nI_add, sk_54 hv3, sr_54_2 hv3, sr_54_3 hv3, sr_54_4 hv3, sr_54_5 hv3, sr_54_7 hv3, sr_54_8 hv3, sr_54_9 hv3, sr_54_12 hv3, sr_54_13 hv3, sr_54_14 hv3, sr_54_22 hv3, sr_54_25 hv3, sr_54_26 hv3, sr_54_27 hv3, sr_54_34 hv3, sr_54_35 hv3, sr_54_36 hv3, sr_54_37 hv3, sr_54_38 hv3, sr_54_40 hv3, sr_54_43 hv3, sr_54_44 hv3, sr_54_45 hv3, sr_54_46 hv3, sr_54_47 hv3, t_mustF X ok]
          exact K τ3 ok
        | inr x =>
          obtain ⟨t', q', f⟩ := x
          rw [hr] at ok K
          obtain ⟨ok, o1, o2⟩ : FI B σ τ3 t' q' ∧ t' ≤ n ∧ q' ≤ 50 := ok
          have hv3 := rd_v X.1 ok.1
          simp only at K
          simp (disch := omega) only [e_209_78, e_209_79, e_209_81, e_209_84, c_205, e_205_0, e_205_2, e_205_3, e_205_4, n10, n01, Nat.lt_irrefl, Nat.not_lt_zero, ne_eq, Nat.add_zero, Nat.one_ne_zero, Nat.zero_ne_one, Nat.reduceEqDiff, bI_T, bI_F, bI_0, bI_1, bI_01, not_and_self, true_and, and_true, not_true_eq_false, not_false_eq_true, false_imp_iff, true_imp_iff, imp_self, gPv_n, gPv_i, gPv_r, gPv_0, Option.toList_some, Option.toList_none, List.singleton_append, List.cons_append, List.nil_append, List.length_nil, List.length_cons, Nat.zero_le, Nat.reduceAdd, Nat.reduceLeDiff, or_true, true_or, false_or, or_false, and_self, and_false, false_and, implies_true, Option.some.injEq, exists_eq_left', nL, nI_add, Nat.reduceAdd, sk_54 hv3, sr_54_2 hv3, sr_54_3 hv3, sr_54_4 hv3, sr_54_5 hv3, sr_54_7 hv3, sr_54_8 hv3, sr_54_9 hv3, sr_54_12 hv3, sr_54_13 hv3, sr_54_14 hv3, sr_54_22 hv3, sr_54_25 hv3, sr_54_26 hv3, sr_54_27 hv3, sr_54_34 hv3, sr_54_35 hv3, sr_54_36 hv3, sr_54_37 hv3, sr_54_38 hv3, sr_54_40 hv3, sr_54_43 hv3, sr_54_44 hv3, sr_54_45 hv3, sr_54_46 hv3, sr_54_47 hv3]
          refine t_must X ok o1 (by omega) (by omega) ?_ ?_
          · intro τ4 h4 hc
            rw [if_neg hc] at K
            simp (disch := omega) only [e_209_87, e_209_133, n10, n01, Nat.lt_irrefl, Nat.not_lt_zero, ne_eq, Nat.add_zero, Nat.one_ne_zero, Nat.zero_ne_one, Nat.reduceEqDiff, bI_T, bI_F, bI_0, bI_1, bI_01, not_and_self, true_and, and_true, not_true_eq_false, not_false_eq_true, false_imp_iff, true_imp_iff, imp_self, gPv_n, gPv_i, gPv_r, gPv_0, Option.toList_some, Option.toList_none, List.singleton_append, List.cons_append, List.nil_append, List.length_nil, List.length_cons, Nat.zero_le, Nat.reduceAdd, Nat.reduceLeDiff, or_true, true_or, false_or, or_false, and_self, and_false, false_and, implies_true, Option.some.injEq, exists_eq_left']
            exact K τ4 h4
          · intro τ4 h4 hn4 hc
            rw [if_pos hc] at K
            simp (disch := omega) only [e_209_87, e_209_133, n10, n01, Nat.lt_irrefl, Nat.not_lt_zero, ne_eq, Nat.add_zero, Nat.one_ne_zero, Nat.zero_ne_one, Nat.reduceEqDiff, bI_T, bI_F, bI_0, bI_1, bI_01, not_and_self, true_and, and_true, not_true_eq_false, not_false_eq_true, false_imp_iff, true_imp_iff, imp_self, gPv_n, gPv_i, gPv_r, gPv_0, Option.toList_some, Option.toList_none, List.singleton_append, List.cons_append, List.nil_append, List.length_nil, List.length_cons, Nat.zero_le, Nat.reduceAdd, Nat.reduceLeDiff, or_true, true_or, false_or, or_false, and_self, and_false, false_and, implies_true, Option.some.injEq, exists_eq_left']
            exact K τ4 ⟨h4, hn4, o2⟩
    · rw [pPos, if_neg a] at K
      simp (disch := omega) only [e_209_16, e_209_17, e_209_20, e_209_23, e_209_24, e_209_25, e_209_28, e_209_29, e_209_32, e_209_33, e_209_34, e_209_35, e_209_37, e_209_40, e_209_90, e_209_91, e_209_92, c_205, e_205_0, e_205_2, e_205_3, e_205_4, n10, n01, Nat.lt_irrefl, Nat.not_lt_zero, ne_eq, Nat.add_zero, Nat.one_ne_zero, Nat.zero_ne_one, Nat.reduceEqDiff, bI_T, bI_F, bI_0, bI_1, bI_01, not_and_self, true_and, and_true, not_true_eq_false, not_false_eq_true, false_imp_iff, true_imp_iff, imp_self, gPv_n, gPv_i, gPv_r, gPv_0, Option.toList_some, Option.toList_none, List.singleton_append, List.cons_append, List.nil_append, List.length_nil, List.length_cons, Nat.zero_le, Nat.reduceAdd, Nat.reduceLeDiff, or_true, true_or, false_or, or_false, and_self, and_false, false_and, implies_true, Option.some.injEq, exists_eq_left', nL, nI_add, nI_mul, nI_clamp, nI_ltI, nI_leI, nI_eq, nI_pos, nI_pos', Nat.reduceAdd, Nat.reduceMul, Nat.reducePow, sk_54 hv1, sr_54_2 hv1, sr_54_3 hv1, sr_54_4 hv1, sr_54_5 hv1, sr_54_7 hv1, sr_54_8 hv1, sr_54_9 hv1, sr_54_12 hv1, sr_54_13 hv1, sr_54_14 hv1, sr_54_22 hv1, sr_54_25 hv1, sr_54_26 hv1, sr_54_27 hv1, sr_54_34 hv1, sr_54_35 hv1, sr_54_36 hv1, sr_54_37 hv1, sr_54_38 hv1, sr_54_40 hv1, sr_54_43 hv1, sr_54_44 hv1, sr_54_45 hv1, sr_54_46 hv1, sr_54_47 hv1, sk_62 hv1, sn_62 hv1, t_fineT X h1, h1.2.1, r62, z, a]
      refine hS.1 τ1 t q _ h1 ht1 hq ?_
      intro τ2 ok
      have feEnd : ∀ τ e, FE B P σ τ e → Q none τ → wp (D + 3) pr_209 Q 128 [some (.ref (B + 54)), some (.int (nI dp)), some (.int (nI 0)), some (.int (nI (c t)))] [] τ := by
        intro τ e h K
        have hv := rd_v X.1 h.1
        simp (disch := omega) only [e_209_128, e_209_129, e_209_130, n10, n01, Nat.lt_irrefl, Nat.not_lt_zero, ne_eq, Nat.add_zero, Nat.one_ne_zero, Nat.zero_ne_one, Nat.reduceEqDiff, bI_T, bI_F, bI_0, bI_1, bI_01, not_and_self, true_and, and_true, not_true_eq_false, not_false_eq_true, false_imp_iff, true_imp_iff, imp_self, gPv_n, gPv_i, gPv_r, gPv_0, Option.toList_some, Option.toList_none, List.singleton_append, List.cons_append, List.nil_append, List.length_nil, List.length_cons, Nat.zero_le, Nat.reduceAdd, Nat.reduceLeDiff, or_true, true_or, false_or, or_false, and_self, and_false, false_and, implies_true, Option.some.injEq, exists_eq_left', sk_54 hv, sr_54_2 hv, sr_54_3 hv, sr_54_4 hv, sr_54_5 hv, sr_54_7 hv, sr_54_8 hv, sr_54_9 hv, sr_54_12 hv, sr_54_13 hv, sr_54_14 hv, sr_54_22 hv, sr_54_25 hv, sr_54_26 hv, sr_54_27 hv, sr_54_34 hv, sr_54_35 hv, sr_54_36 hv, sr_54_37 hv, sr_54_38 hv, sr_54_40 hv, sr_54_43 hv, sr_54_44 hv, sr_54_45 hv, sr_54_46 hv, sr_54_47 hv]
        refine hS.2 τ e _ h ?_
        simp only [e_209_133, n10, n01, Nat.lt_irrefl, Nat.not_lt_zero, ne_eq, Nat.add_zero, Nat.one_ne_zero, Nat.zero_ne_one, Nat.reduceEqDiff, bI_T, bI_F, bI_0, bI_1, bI_01, not_and_self, true_and, and_true, not_true_eq_false, not_false_eq_true, false_imp_iff, true_imp_iff, imp_self, gPv_n, gPv_i, gPv_r, gPv_0, Option.toList_some, Option.toList_none, List.singleton_append, List.cons_append, List.nil_append, List.length_nil, List.length_cons, Nat.zero_le, Nat.reduceAdd, Nat.reduceLeDiff, or_true, true_or, false_or, or_false, and_self, and_false, false_and, implies_true, Option.some.injEq, exists_eq_left']
        exact K
      cases hr : S t q with
      | inl e =>
        rw [hr] at ok K
        have ok : FE B P σ τ2 e := ok
        have hv2 := rd_v X.1 ok.1
        simp (disch := omega) only [e_209_95, e_209_96, e_209_98, e_209_101, e_209_104, e_209_107, e_209_108, e_209_110, e_209_113, e_209_116, e_209_119, e_209_120, e_209_122, e_209_125, c_205, e_205_0, e_205_2, e_205_3, e_205_4, n10, n01, Nat.lt_irrefl, Nat.not_lt_zero, ne_eq, Nat.add_zero, Nat.one_ne_zero, Nat.zero_ne_one, Nat.reduceEqDiff, bI_T, bI_F, bI_0, bI_1, bI_01, not_and_self, true_and, and_true, not_true_eq_false, not_false_eq_true, false_imp_iff, true_imp_iff, imp_self, gPv_n, gPv_i, gPv_r, gPv_0, Option.toList_some, Option.toList_none, List.singleton_append, List.cons_append, List.nil_append, List.length_nil, List.length_cons, Nat.zero_le, Nat.reduceAdd, Nat.reduceLeDiff, or_true, true_or, false_or, or_false, and_self, and_false, false_and, implies_true, Option.some.injEq, exists_eq_left', nL, nI_eq, nI_add, sk_54 hv2, sr_54_2 hv2, sr_54_3 hv2, sr_54_4 hv2, sr_54_5 hv2, sr_54_7 hv2, sr_54_8 hv2, sr_54_9 hv2, sr_54_12 hv2, sr_54_13 hv2, sr_54_14 hv2, sr_54_22 hv2, sr_54_25 hv2, sr_54_26 hv2, sr_54_27 hv2, sr_54_34 hv2, sr_54_35 hv2, sr_54_36 hv2, sr_54_37 hv2, sr_54_38 hv2, sr_54_40 hv2, sr_54_43 hv2, sr_54_44 hv2, sr_54_45 hv2, sr_54_46 hv2, sr_54_47 hv2, t_tkF X ok, t_mustF X ok]
        exact feEnd τ2 e ok (K τ2 ok)
      | inr x =>
        obtain ⟨t1, q1, f⟩ := x
        rw [hr] at ok K
        obtain ⟨ok, o1, o2⟩ : FI B σ τ2 t1 q1 ∧ t1 ≤ n ∧ q1 ≤ 50 := ok
        have hv2 := rd_v X.1 ok.1
        simp only at K
        have go : ∀ τ3, FI B σ τ3 (t1 + 1) q1 → t1 + 1 ≤ n → (c t1 = 160 ∨ c t1 = 162 ∨ c t1 = 161) → wp (D + 3) pr_209 Q 128 [some (.ref (B + 54)), some (.int (nI dp)), some (.int (nI 0)), some (.int (nI (c t)))] [] τ3 := by
          intro τ3 h3 hn3 hc
          rw [if_pos hc] at K
          have hv3 := rd_v X.1 h3.1
          simp (disch := omega) only [e_209_128, e_209_129, e_209_130, n10, n01, Nat.lt_irrefl, Nat.not_lt_zero, ne_eq, Nat.add_zero, Nat.one_ne_zero, Nat.zero_ne_one, Nat.reduceEqDiff, bI_T, bI_F, bI_0, bI_1, bI_01, not_and_self, true_and, and_true, not_true_eq_false, not_false_eq_true, false_imp_iff, true_imp_iff, imp_self, gPv_n, gPv_i, gPv_r, gPv_0, Option.toList_some, Option.toList_none, List.singleton_append, List.cons_append, List.nil_append, List.length_nil, List.length_cons, Nat.zero_le, Nat.reduceAdd, Nat.reduceLeDiff, or_true, true_or, false_or, or_false, and_self, and_false, false_and, implies_true, Option.some.injEq, exists_eq_left', sk_54 hv3, sr_54_2 hv3, sr_54_3 hv3, sr_54_4 hv3, sr_54_5 hv3, sr_54_7 hv3, sr_54_8 hv3, sr_54_9 hv3, sr_54_12 hv3, sr_54_13 hv3, sr_54_14 hv3, sr_54_22 hv3, sr_54_25 hv3, sr_54_26 hv3, sr_54_27 hv3, sr_54_34 hv3, sr_54_35 hv3, sr_54_36 hv3, sr_54_37 hv3, sr_54_38 hv3, sr_54_40 hv3, sr_54_43 hv3, sr_54_44 hv3, sr_54_45 hv3, sr_54_46 hv3, sr_54_47 hv3]
          refine hS.1 τ3 (t1 + 1) q1 _ h3 hn3 o2 ?_
          intro τ4 ok4
          simp only [e_209_133, n10, n01, Nat.lt_irrefl, Nat.not_lt_zero, ne_eq, Nat.add_zero, Nat.one_ne_zero, Nat.zero_ne_one, Nat.reduceEqDiff, bI_T, bI_F, bI_0, bI_1, bI_01, not_and_self, true_and, and_true, not_true_eq_false, not_false_eq_true, false_imp_iff, true_imp_iff, imp_self, gPv_n, gPv_i, gPv_r, gPv_0, Option.toList_some, Option.toList_none, List.singleton_append, List.cons_append, List.nil_append, List.length_nil, List.length_cons, Nat.zero_le, Nat.reduceAdd, Nat.reduceLeDiff, or_true, true_or, false_or, or_false, and_self, and_false, false_and, implies_true, Option.some.injEq, exists_eq_left']
          refine K τ4 ?_
          cases hr2 : S (t1 + 1) q1 with
          | inl e => rw [hr2] at ok4; exact ok4
          | inr y =>
            obtain ⟨t2, q2, g⟩ := y
            rw [hr2] at ok4
            exact ok4
        by_cases b1 : c t1 = 160
        · simp (disch := omega) only [e_209_95, e_209_96, e_209_98, e_209_101, c_205, e_205_0, e_205_2, e_205_3, e_205_4, n10, n01, Nat.lt_irrefl, Nat.not_lt_zero, ne_eq, Nat.add_zero, Nat.one_ne_zero, Nat.zero_ne_one, Nat.reduceEqDiff, bI_T, bI_F, bI_0, bI_1, bI_01, not_and_self, true_and, and_true, not_true_eq_false, not_false_eq_true, false_imp_iff, true_imp_iff, imp_self, gPv_n, gPv_i, gPv_r, gPv_0, Option.toList_some, Option.toList_none, List.singleton_append, List.cons_append, List.nil_append, List.length_nil, List.length_cons, Nat.zero_le, Nat.reduceAdd, Nat.reduceLeDiff, or_true, true_or, false_or, or_false, and_self, and_false, false_and, implies_true, Option.some.injEq, exists_eq_left', nL, nI_add, Nat.reduceAdd, sk_54 hv2, sr_54_2 hv2, sr_54_3 hv2, sr_54_4 hv2, sr_54_5 hv2, sr_54_7 hv2, sr_54_8 hv2, sr_54_9 hv2, sr_54_12 hv2, sr_54_13 hv2, sr_54_14 hv2, sr_54_22 hv2, sr_54_25 hv2, sr_54_26 hv2, sr_54_27 hv2, sr_54_34 hv2, sr_54_35 hv2, sr_54_36 hv2, sr_54_37 hv2, sr_54_38 hv2, sr_54_40 hv2, sr_54_43 hv2, sr_54_44 hv2, sr_54_45 hv2, sr_54_46 hv2, sr_54_47 hv2]
          refine t_tkT X ok (by omega) b1 ?_
          intro τ3 h3 hn3
          simp (disch := omega) only [e_209_104, n10, n01, Nat.lt_irrefl, Nat.not_lt_zero, ne_eq, Nat.add_zero, Nat.one_ne_zero, Nat.zero_ne_one, Nat.reduceEqDiff, bI_T, bI_F, bI_0, bI_1, bI_01, not_and_self, true_and, and_true, not_true_eq_false, not_false_eq_true, false_imp_iff, true_imp_iff, imp_self, gPv_n, gPv_i, gPv_r, gPv_0, Option.toList_some, Option.toList_none, List.singleton_append, List.cons_append, List.nil_append, List.length_nil, List.length_cons, Nat.zero_le, Nat.reduceAdd, Nat.reduceLeDiff, or_true, true_or, false_or, or_false, and_self, and_false, false_and, implies_true, Option.some.injEq, exists_eq_left', nL, nI_add, nI_mul, nI_clamp, nI_ltI, nI_leI, nI_eq, nI_pos, nI_pos', Nat.reduceAdd, Nat.reduceMul, Nat.reducePow]
          exact go τ3 h3 hn3 (Or.inl b1)
        · by_cases b2 : c t1 = 162
          · simp (disch := omega) only [e_209_95, e_209_96, e_209_98, e_209_101, e_209_104, e_209_107, e_209_108, e_209_110, e_209_113, c_205, e_205_0, e_205_2, e_205_3, e_205_4, n10, n01, Nat.lt_irrefl, Nat.not_lt_zero, ne_eq, Nat.add_zero, Nat.one_ne_zero, Nat.zero_ne_one, Nat.reduceEqDiff, bI_T, bI_F, bI_0, bI_1, bI_01, not_and_self, true_and, and_true, not_true_eq_false, not_false_eq_true, false_imp_iff, true_imp_iff, imp_self, gPv_n, gPv_i, gPv_r, gPv_0, Option.toList_some, Option.toList_none, List.singleton_append, List.cons_append, List.nil_append, List.length_nil, List.length_cons, Nat.zero_le, Nat.reduceAdd, Nat.reduceLeDiff, or_true, true_or, false_or, or_false, and_self, and_false, false_and, implies_true, Option.some.injEq, exists_eq_left', nL, nI_add, nI_mul, nI_clamp, nI_ltI, nI_leI, nI_eq, nI_pos, nI_pos', Nat.reduceAdd, Nat.reduceMul, Nat.reducePow, sk_54 hv2, sr_54_2 hv2, sr_54_3 hv2, sr_54_4 hv2, sr_54_5 hv2, sr_54_7 hv2, sr_54_8 hv2, sr_54_9 hv2, sr_54_12 hv2, sr_54_13 hv2, sr_54_14 hv2, sr_54_22 hv2, sr_54_25 hv2, sr_54_26 hv2, sr_54_27 hv2, sr_54_34 hv2, sr_54_35 hv2, sr_54_36 hv2, sr_54_37 hv2, sr_54_38 hv2, sr_54_40 hv2, sr_54_43 hv2, sr_54_44 hv2, sr_54_45 hv2, sr_54_46 hv2, sr_54_47 hv2, t_tkN X ok o1 (show 160 < 1000 by omega) b1]
            refine t_tkT X ok (by omega) b2 ?_
            intro τ3 h3 hn3
            simp (disch := omega) only [e_209_116, n10, n01, Nat.lt_irrefl, Nat.not_lt_zero, ne_eq, Nat.add_zero, Nat.one_ne_zero, Nat.zero_ne_one, Nat.reduceEqDiff, bI_T, bI_F, bI_0, bI_1, bI_01, not_and_self, true_and, and_true, not_true_eq_false, not_false_eq_true, false_imp_iff, true_imp_iff, imp_self, gPv_n, gPv_i, gPv_r, gPv_0, Option.toList_some, Option.toList_none, List.singleton_append, List.cons_append, List.nil_append, List.length_nil, List.length_cons, Nat.zero_le, Nat.reduceAdd, Nat.reduceLeDiff, or_true, true_or, false_or, or_false, and_self, and_false, false_and, implies_true, Option.some.injEq, exists_eq_left', nL, nI_add, nI_mul, nI_clamp, nI_ltI, nI_leI, nI_eq, nI_pos, nI_pos', Nat.reduceAdd, Nat.reduceMul, Nat.reducePow]
            exact go τ3 h3 hn3 (Or.inr (Or.inl b2))
          · simp (disch := omega) only [e_209_95, e_209_96, e_209_98, e_209_101, e_209_104, e_209_107, e_209_108, e_209_110, e_209_113, e_209_116, e_209_119, e_209_120, e_209_122, e_209_125, c_205, e_205_0, e_205_2, e_205_3, e_205_4, n10, n01, Nat.lt_irrefl, Nat.not_lt_zero, ne_eq, Nat.add_zero, Nat.one_ne_zero, Nat.zero_ne_one, Nat.reduceEqDiff, bI_T, bI_F, bI_0, bI_1, bI_01, not_and_self, true_and, and_true, not_true_eq_false, not_false_eq_true, false_imp_iff, true_imp_iff, imp_self, gPv_n, gPv_i, gPv_r, gPv_0, Option.toList_some, Option.toList_none, List.singleton_append, List.cons_append, List.nil_append, List.length_nil, List.length_cons, Nat.zero_le, Nat.reduceAdd, Nat.reduceLeDiff, or_true, true_or, false_or, or_false, and_self, and_false, false_and, implies_true, Option.some.injEq, exists_eq_left', nL, nI_add, nI_mul, nI_clamp, nI_ltI, nI_leI, nI_eq, nI_pos, nI_pos', Nat.reduceAdd, Nat.reduceMul, Nat.reducePow, sk_54 hv2, sr_54_2 hv2, sr_54_3 hv2, sr_54_4 hv2, sr_54_5 hv2, sr_54_7 hv2, sr_54_8 hv2, sr_54_9 hv2, sr_54_12 hv2, sr_54_13 hv2, sr_54_14 hv2, sr_54_22 hv2, sr_54_25 hv2, sr_54_26 hv2, sr_54_27 hv2, sr_54_34 hv2, sr_54_35 hv2, sr_54_36 hv2, sr_54_37 hv2, sr_54_38 hv2, sr_54_40 hv2, sr_54_43 hv2, sr_54_44 hv2, sr_54_45 hv2, sr_54_46 hv2, sr_54_47 hv2, t_tkN X ok o1 (show 160 < 1000 by omega) b1, t_tkN X ok o1 (show 162 < 1000 by omega) b2]
            refine t_must X ok o1 (by omega) (by omega) ?_ ?_
            · intro τ3 h3 hc
              rw [if_neg (by omega)] at K
              exact feEnd τ3 t1 h3 (K τ3 h3)
            · intro τ3 h3 hn3 hc
              exact go τ3 h3 hn3 (Or.inr (Or.inr hc))
  · intro τ e Q h K
    have hv := rd_v X.1 h.1
    simp (disch := omega) only [c_209, e_209_0, e_209_1, n10, n01, Nat.lt_irrefl, Nat.not_lt_zero, ne_eq, Nat.add_zero, Nat.one_ne_zero, Nat.zero_ne_one, Nat.reduceEqDiff, bI_T, bI_F, bI_0, bI_1, bI_01, not_and_self, true_and, and_true, not_true_eq_false, not_false_eq_true, false_imp_iff, true_imp_iff, imp_self, gPv_n, gPv_i, gPv_r, gPv_0, Option.toList_some, Option.toList_none, List.singleton_append, List.cons_append, List.nil_append, List.length_nil, List.length_cons, Nat.zero_le, Nat.reduceAdd, Nat.reduceLeDiff, or_true, true_or, false_or, or_false, and_self, and_false, false_and, implies_true, Option.some.injEq, exists_eq_left', nL]
    rw [e_209_2]
    simp (disch := omega) only [e_209_3, e_209_6, e_209_7, e_209_9, e_209_12, e_209_13, n10, n01, Nat.lt_irrefl, Nat.not_lt_zero, ne_eq, Nat.add_zero, Nat.one_ne_zero, Nat.zero_ne_one, Nat.reduceEqDiff, bI_T, bI_F, bI_0, bI_1, bI_01, not_and_self, true_and, and_true, not_true_eq_false, not_false_eq_true, false_imp_iff, true_imp_iff, imp_self, gPv_n, gPv_i, gPv_r, gPv_0, Option.toList_some, Option.toList_none, List.singleton_append, List.cons_append, List.nil_append, List.length_nil, List.length_cons, Nat.zero_le, Nat.reduceAdd, Nat.reduceLeDiff, or_true, true_or, false_or, or_false, and_self, and_false, false_and, implies_true, Option.some.injEq, exists_eq_left', nL, nI_add, nI_mul, nI_clamp, nI_ltI, nI_leI, nI_eq, nI_pos, nI_pos', Nat.reduceAdd, Nat.reduceMul, Nat.reducePow, sk_54 hv, sr_54_2 hv, sr_54_3 hv, sr_54_4 hv, sr_54_5 hv, sr_54_7 hv, sr_54_8 hv, sr_54_9 hv, sr_54_12 hv, sr_54_13 hv, sr_54_14 hv, sr_54_22 hv, sr_54_25 hv, sr_54_26 hv, sr_54_27 hv, sr_54_34 hv, sr_54_35 hv, sr_54_36 hv, sr_54_37 hv, sr_54_38 hv, sr_54_40 hv, sr_54_43 hv, sr_54_44 hv, sr_54_45 hv, sr_54_46 hv, sr_54_47 hv, t_tkF X h]
    rw [e_209_2]
    simp (disch := omega) only [e_209_3, e_209_16, e_209_17, e_209_20, e_209_23, n10, n01, Nat.lt_irrefl, Nat.not_lt_zero, ne_eq, Nat.add_zero, Nat.one_ne_zero, Nat.zero_ne_one, Nat.reduceEqDiff, bI_T, bI_F, bI_0, bI_1, bI_01, not_and_self, true_and, and_true, not_true_eq_false, not_false_eq_true, false_imp_iff, true_imp_iff, imp_self, gPv_n, gPv_i, gPv_r, gPv_0, Option.toList_some, Option.toList_none, List.singleton_append, List.cons_append, List.nil_append, List.length_nil, List.length_cons, Nat.zero_le, Nat.reduceAdd, Nat.reduceLeDiff, or_true, true_or, false_or, or_false, and_self, and_false, false_and, implies_true, Option.some.injEq, exists_eq_left', nL, nI_add, nI_mul, nI_clamp, nI_ltI, nI_leI, nI_eq, nI_pos, nI_pos', Nat.reduceAdd, Nat.reduceMul, Nat.reducePow, sk_54 hv, sr_54_2 hv, sr_54_3 hv, sr_54_4 hv, sr_54_5 hv, sr_54_7 hv, sr_54_8 hv, sr_54_9 hv, sr_54_12 hv, sr_54_13 hv, sr_54_14 hv, sr_54_22 hv, sr_54_25 hv, sr_54_26 hv, sr_54_27 hv, sr_54_34 hv, sr_54_35 hv, sr_54_36 hv, sr_54_37 hv, sr_54_38 hv, sr_54_40 hv, sr_54_43 hv, sr_54_44 hv, sr_54_45 hv, sr_54_46 hv, sr_54_47 hv, t_fineF X h]
    exact K
theorem t_lp208 {D dp : Nat} {R : Nat → Nat → zR zT} {cb : Nat → zT → zT → zT} (X : MRX B n c v P σ) (hR : Rd B n P σ (D + 3) 209 [.int (nI dp)] R) (hU : pUp R) : ∀ F t q f τ, FI B σ τ t q → t ≤ n → q ≤ 50 → n < t + F → (∀ τ', OKr B n P σ (pLoop c 5 5 R cb F t q f) τ' → Q none τ') → wp (D + 3) pr_208 Q 5 [some (.ref (B + 54)), some (.int (nI dp))] [] τ := by
  intro F
  induction F with
  | zero => intro t q f τ h ht hq hF; omega
  | succ F ih =>
    intro t q f τ h ht hq hF K
    have hv := rd_v X.1 h.1
    rw [pLoop] at K
    rw [e_208_5]
    by_cases a1 : c t = 5
    · rw [if_pos (Or.inl a1)] at K
      simp (disch := omega) only [e_208_6, e_208_7, n10, n01, Nat.lt_irrefl, Nat.not_lt_zero, ne_eq, Nat.add_zero, Nat.one_ne_zero, Nat.zero_ne_one, Nat.reduceEqDiff, bI_T, bI_F, bI_0, bI_1, bI_01, not_and_self, true_and, and_true, not_true_eq_false, not_false_eq_true, false_imp_iff, true_imp_iff, imp_self, gPv_n, gPv_i, gPv_r, gPv_0, Option.toList_some, Option.toList_none, List.singleton_append, List.cons_append, List.nil_append, List.length_nil, List.length_cons, Nat.zero_le, Nat.reduceAdd, Nat.reduceLeDiff, or_true, true_or, false_or, or_false, and_self, and_false, false_and, implies_true, Option.some.injEq, exists_eq_left', nL, sk_54 hv, sr_54_2 hv, sr_54_3 hv, sr_54_4 hv, sr_54_5 hv, sr_54_7 hv, sr_54_8 hv, sr_54_9 hv, sr_54_12 hv, sr_54_13 hv, sr_54_14 hv, sr_54_22 hv, sr_54_25 hv, sr_54_26 hv, sr_54_27 hv, sr_54_34 hv, sr_54_35 hv, sr_54_36 hv, sr_54_37 hv, sr_54_38 hv, sr_54_40 hv, sr_54_43 hv, sr_54_44 hv, sr_54_45 hv, sr_54_46 hv, sr_54_47 hv]
      refine t_tkT X h (by omega) a1 ?_
      intro τ' h' hn'
      have hv' := rd_v X.1 h'.1
      simp (disch := omega) only [e_208_10, e_208_13, e_208_14, e_208_15, n10, n01, Nat.lt_irrefl, Nat.not_lt_zero, ne_eq, Nat.add_zero, Nat.one_ne_zero, Nat.zero_ne_one, Nat.reduceEqDiff, bI_T, bI_F, bI_0, bI_1, bI_01, not_and_self, true_and, and_true, not_true_eq_false, not_false_eq_true, false_imp_iff, true_imp_iff, imp_self, gPv_n, gPv_i, gPv_r, gPv_0, Option.toList_some, Option.toList_none, List.singleton_append, List.cons_append, List.nil_append, List.length_nil, List.length_cons, Nat.zero_le, Nat.reduceAdd, Nat.reduceLeDiff, or_true, true_or, false_or, or_false, and_self, and_false, false_and, implies_true, Option.some.injEq, exists_eq_left', nL, nI_add, nI_mul, nI_clamp, nI_ltI, nI_leI, nI_eq, nI_pos, nI_pos', Nat.reduceAdd, Nat.reduceMul, Nat.reducePow, sk_54 hv', sr_54_2 hv', sr_54_3 hv', sr_54_4 hv', sr_54_5 hv', sr_54_7 hv', sr_54_8 hv', sr_54_9 hv', sr_54_12 hv', sr_54_13 hv', sr_54_14 hv', sr_54_22 hv', sr_54_25 hv', sr_54_26 hv', sr_54_27 hv', sr_54_34 hv', sr_54_35 hv', sr_54_36 hv', sr_54_37 hv', sr_54_38 hv', sr_54_40 hv', sr_54_43 hv', sr_54_44 hv', sr_54_45 hv', sr_54_46 hv', sr_54_47 hv']
      refine hR.1 τ' (t + 1) q _ h' hn' hq ?_
      intro τ2 ok
      simp (disch := omega) only [e_208_18, n10, n01, Nat.lt_irrefl, Nat.not_lt_zero, ne_eq, Nat.add_zero, Nat.one_ne_zero, Nat.zero_ne_one, Nat.reduceEqDiff, bI_T, bI_F, bI_0, bI_1, bI_01, not_and_self, true_and, and_true, not_true_eq_false, not_false_eq_true, false_imp_iff, true_imp_iff, imp_self, gPv_n, gPv_i, gPv_r, gPv_0, Option.toList_some, Option.toList_none, List.singleton_append, List.cons_append, List.nil_append, List.length_nil, List.length_cons, Nat.zero_le, Nat.reduceAdd, Nat.reduceLeDiff, or_true, true_or, false_or, or_false, and_self, and_false, false_and, implies_true, Option.some.injEq, exists_eq_left']
      cases hr : R (t + 1) q with
      | inl e =>
        rw [hr] at ok K
        have ok : FE B P σ τ2 e := ok
        have hv2 := rd_v X.1 ok.1
        simp (disch := omega) only [e_208_5, e_208_6, e_208_7, e_208_10, e_208_21, n10, n01, Nat.lt_irrefl, Nat.not_lt_zero, ne_eq, Nat.add_zero, Nat.one_ne_zero, Nat.zero_ne_one, Nat.reduceEqDiff, bI_T, bI_F, bI_0, bI_1, bI_01, not_and_self, true_and, and_true, not_true_eq_false, not_false_eq_true, false_imp_iff, true_imp_iff, imp_self, gPv_n, gPv_i, gPv_r, gPv_0, Option.toList_some, Option.toList_none, List.singleton_append, List.cons_append, List.nil_append, List.length_nil, List.length_cons, Nat.zero_le, Nat.reduceAdd, Nat.reduceLeDiff, or_true, true_or, false_or, or_false, and_self, and_false, false_and, implies_true, Option.some.injEq, exists_eq_left', nL, nI_add, nI_mul, nI_clamp, nI_ltI, nI_leI, nI_eq, nI_pos, nI_pos', Nat.reduceAdd, Nat.reduceMul, Nat.reducePow, sk_54 hv2, sr_54_2 hv2, sr_54_3 hv2, sr_54_4 hv2, sr_54_5 hv2, sr_54_7 hv2, sr_54_8 hv2, sr_54_9 hv2, sr_54_12 hv2, sr_54_13 hv2, sr_54_14 hv2, sr_54_22 hv2, sr_54_25 hv2, sr_54_26 hv2, sr_54_27 hv2, sr_54_34 hv2, sr_54_35 hv2, sr_54_36 hv2, sr_54_37 hv2, sr_54_38 hv2, sr_54_40 hv2, sr_54_43 hv2, sr_54_44 hv2, sr_54_45 hv2, sr_54_46 hv2, sr_54_47 hv2, t_tkF X ok]
        exact K τ2 ok
      | inr x =>
        obtain ⟨t1, q1, g⟩ := x
        rw [hr] at ok K
        obtain ⟨ok, o1', o2'⟩ : FI B σ τ2 t1 q1 ∧ t1 ≤ n ∧ q1 ≤ 50 := ok
        have := hU _ _ _ _ _ hr
        exact ih t1 q1 _ τ2 ok o1' o2' (by omega) K
    · rw [if_neg (by omega)] at K
      simp (disch := omega) only [e_208_6, e_208_7, e_208_10, e_208_21, n10, n01, Nat.lt_irrefl, Nat.not_lt_zero, ne_eq, Nat.add_zero, Nat.one_ne_zero, Nat.zero_ne_one, Nat.reduceEqDiff, bI_T, bI_F, bI_0, bI_1, bI_01, not_and_self, true_and, and_true, not_true_eq_false, not_false_eq_true, false_imp_iff, true_imp_iff, imp_self, gPv_n, gPv_i, gPv_r, gPv_0, Option.toList_some, Option.toList_none, List.singleton_append, List.cons_append, List.nil_append, List.length_nil, List.length_cons, Nat.zero_le, Nat.reduceAdd, Nat.reduceLeDiff, or_true, true_or, false_or, or_false, and_self, and_false, false_and, implies_true, Option.some.injEq, exists_eq_left', nL, nI_add, nI_mul, nI_clamp, nI_ltI, nI_leI, nI_eq, nI_pos, nI_pos', Nat.reduceAdd, Nat.reduceMul, Nat.reducePow, sk_54 hv, sr_54_2 hv, sr_54_3 hv, sr_54_4 hv, sr_54_5 hv, sr_54_7 hv, sr_54_8 hv, sr_54_9 hv, sr_54_12 hv, sr_54_13 hv, sr_54_14 hv, sr_54_22 hv, sr_54_25 hv, sr_54_26 hv, sr_54_27 hv, sr_54_34 hv, sr_54_35 hv, sr_54_36 hv, sr_54_37 hv, sr_54_38 hv, sr_54_40 hv, sr_54_43 hv, sr_54_44 hv, sr_54_45 hv, sr_54_46 hv, sr_54_47 hv, t_tkN X h ht (show 5 < 1000 by omega) a1]
      exact K τ ⟨h, ht, hq⟩
theorem t_ch208 {D dp F : Nat} {R : Nat → Nat → zR zT} {cb : Nat → zT → zT → zT} (X : MRX B n c v P σ) (hR : Rd B n P σ (D + 3) 209 [.int (nI dp)] R) (hU : pUp R) (hF : n < F) : Rd B n P σ (D + 4) 208 [.int (nI dp)] (pChain c 5 5 R cb F) := by
  refine ⟨?_, ?_⟩
  · intro τ t q Q h ht hq K
    have hv := rd_v X.1 h.1
    simp (disch := omega) only [c_208, e_208_0, e_208_1, e_208_2, n10, n01, Nat.lt_irrefl, Nat.not_lt_zero, ne_eq, Nat.add_zero, Nat.one_ne_zero, Nat.zero_ne_one, Nat.reduceEqDiff, bI_T, bI_F, bI_0, bI_1, bI_01, not_and_self, true_and, and_true, not_true_eq_false, not_false_eq_true, false_imp_iff, true_imp_iff, imp_self, gPv_n, gPv_i, gPv_r, gPv_0, Option.toList_some, Option.toList_none, List.singleton_append, List.cons_append, List.nil_append, List.length_nil, List.length_cons, Nat.zero_le, Nat.reduceAdd, Nat.reduceLeDiff, or_true, true_or, false_or, or_false, and_self, and_false, false_and, implies_true, Option.some.injEq, exists_eq_left', sk_54 hv, sr_54_2 hv, sr_54_3 hv, sr_54_4 hv, sr_54_5 hv, sr_54_7 hv, sr_54_8 hv, sr_54_9 hv, sr_54_12 hv, sr_54_13 hv, sr_54_14 hv, sr_54_22 hv, sr_54_25 hv, sr_54_26 hv, sr_54_27 hv, sr_54_34 hv, sr_54_35 hv, sr_54_36 hv, sr_54_37 hv, sr_54_38 hv, sr_54_40 hv, sr_54_43 hv, sr_54_44 hv, sr_54_45 hv, sr_54_46 hv, sr_54_47 hv]
    refine hR.1 τ t q _ h ht hq ?_
    intro τ2 ok
    simp only [n10, n01, Nat.lt_irrefl, Nat.not_lt_zero, ne_eq, Nat.add_zero, Nat.one_ne_zero, Nat.zero_ne_one, Nat.reduceEqDiff, bI_T, bI_F, bI_0, bI_1, bI_01, not_and_self, true_and, and_true, not_true_eq_false, not_false_eq_true, false_imp_iff, true_imp_iff, imp_self, gPv_n, gPv_i, gPv_r, gPv_0, Option.toList_some, Option.toList_none, List.singleton_append, List.cons_append, List.nil_append, List.length_nil, List.length_cons, Nat.zero_le, Nat.reduceAdd, Nat.reduceLeDiff, or_true, true_or, false_or, or_false, and_self, and_false, false_and, implies_true, Option.some.injEq, exists_eq_left']
    cases hr : R t q with
    | inl e =>
      rw [pChain, hr] at K
      rw [hr] at ok
      have ok : FE B P σ τ2 e := ok
      have hv2 := rd_v X.1 ok.1
      simp (disch := omega) only [e_208_5, e_208_6, e_208_7, e_208_10, e_208_21, n10, n01, Nat.lt_irrefl, Nat.not_lt_zero, ne_eq, Nat.add_zero, Nat.one_ne_zero, Nat.zero_ne_one, Nat.reduceEqDiff, bI_T, bI_F, bI_0, bI_1, bI_01, not_and_self, true_and, and_true, not_true_eq_false, not_false_eq_true, false_imp_iff, true_imp_iff, imp_self, gPv_n, gPv_i, gPv_r, gPv_0, Option.toList_some, Option.toList_none, List.singleton_append, List.cons_append, List.nil_append, List.length_nil, List.length_cons, Nat.zero_le, Nat.reduceAdd, Nat.reduceLeDiff, or_true, true_or, false_or, or_false, and_self, and_false, false_and, implies_true, Option.some.injEq, exists_eq_left', nL, nI_add, nI_mul, nI_clamp, nI_ltI, nI_leI, nI_eq, nI_pos, nI_pos', Nat.reduceAdd, Nat.reduceMul, Nat.reducePow, sk_54 hv2, sr_54_2 hv2, sr_54_3 hv2, sr_54_4 hv2, sr_54_5 hv2, sr_54_7 hv2, sr_54_8 hv2, sr_54_9 hv2, sr_54_12 hv2, sr_54_13 hv2, sr_54_14 hv2, sr_54_22 hv2, sr_54_25 hv2, sr_54_26 hv2, sr_54_27 hv2, sr_54_34 hv2, sr_54_35 hv2, sr_54_36 hv2, sr_54_37 hv2, sr_54_38 hv2, sr_54_40 hv2, sr_54_43 hv2, sr_54_44 hv2, sr_54_45 hv2, sr_54_46 hv2, sr_54_47 hv2, t_tkF X ok]
      exact K τ2 ok
    | inr x =>
      obtain ⟨t1, q1, g⟩ := x
      rw [pChain, hr] at K
      rw [hr] at ok
      obtain ⟨ok, o1', o2'⟩ : FI B σ τ2 t1 q1 ∧ t1 ≤ n ∧ q1 ≤ 50 := ok
      exact t_lp208 (D := D) X hR hU F t1 q1 g τ2 ok o1' o2' (by omega) K
  · intro τ e Q h K
    have hv := rd_v X.1 h.1
    simp (disch := omega) only [c_208, e_208_0, e_208_1, e_208_2, n10, n01, Nat.lt_irrefl, Nat.not_lt_zero, ne_eq, Nat.add_zero, Nat.one_ne_zero, Nat.zero_ne_one, Nat.reduceEqDiff, bI_T, bI_F, bI_0, bI_1, bI_01, not_and_self, true_and, and_true, not_true_eq_false, not_false_eq_true, false_imp_iff, true_imp_iff, imp_self, gPv_n, gPv_i, gPv_r, gPv_0, Option.toList_some, Option.toList_none, List.singleton_append, List.cons_append, List.nil_append, List.length_nil, List.length_cons, Nat.zero_le, Nat.reduceAdd, Nat.reduceLeDiff, or_true, true_or, false_or, or_false, and_self, and_false, false_and, implies_true, Option.some.injEq, exists_eq_left', sk_54 hv, sr_54_2 hv, sr_54_3 hv, sr_54_4 hv, sr_54_5 hv, sr_54_7 hv, sr_54_8 hv, sr_54_9 hv, sr_54_12 hv, sr_54_13 hv, sr_54_14 hv, sr_54_22 hv, sr_54_25 hv, sr_54_26 hv, sr_54_27 hv, sr_54_34 hv, sr_54_35 hv, sr_54_36 hv, sr_54_37 hv, sr_54_38 hv, sr_54_40 hv, sr_54_43 hv, sr_54_44 hv, sr_54_45 hv, sr_54_46 hv, sr_54_47 hv]
    refine hR.2 τ e _ h ?_
    simp (disch := omega) only [e_208_5, e_208_6, e_208_7, e_208_10, e_208_21, n10, n01, Nat.lt_irrefl, Nat.not_lt_zero, ne_eq, Nat.add_zero, Nat.one_ne_zero, Nat.zero_ne_one, Nat.reduceEqDiff, bI_T, bI_F, bI_0, bI_1, bI_01, not_and_self, true_and, and_true, not_true_eq_false, not_false_eq_true, false_imp_iff, true_imp_iff, imp_self, gPv_n, gPv_i, gPv_r, gPv_0, Option.toList_some, Option.toList_none, List.singleton_append, List.cons_append, List.nil_append, List.length_nil, List.length_cons, Nat.zero_le, Nat.reduceAdd, Nat.reduceLeDiff, or_true, true_or, false_or, or_false, and_self, and_false, false_and, implies_true, Option.some.injEq, exists_eq_left', nL, nI_add, nI_mul, nI_clamp, nI_ltI, nI_leI, nI_eq, nI_pos, nI_pos', Nat.reduceAdd, Nat.reduceMul, Nat.reducePow, sk_54 hv, sr_54_2 hv, sr_54_3 hv, sr_54_4 hv, sr_54_5 hv, sr_54_7 hv, sr_54_8 hv, sr_54_9 hv, sr_54_12 hv, sr_54_13 hv, sr_54_14 hv, sr_54_22 hv, sr_54_25 hv, sr_54_26 hv, sr_54_27 hv, sr_54_34 hv, sr_54_35 hv, sr_54_36 hv, sr_54_37 hv, sr_54_38 hv, sr_54_40 hv, sr_54_43 hv, sr_54_44 hv, sr_54_45 hv, sr_54_46 hv, sr_54_47 hv, t_tkF X h]
    exact K
theorem t_lp207 {D dp : Nat} {R : Nat → Nat → zR zT} {cb : Nat → zT → zT → zT} (X : MRX B n c v P σ) (hR : Rd B n P σ (D + 3) 208 [.int (nI dp)] R) (hU : pUp R) : ∀ F t q f τ, FI B σ τ t q → t ≤ n → q ≤ 50 → n < t + F → (∀ τ', OKr B n P σ (pLoop c 4 4 R cb F t q f) τ' → Q none τ') → wp (D + 3) pr_207 Q 5 [some (.ref (B + 54)), some (.int (nI dp))] [] τ := by
  intro F
  induction F with
  | zero => intro t q f τ h ht hq hF; omega
  | succ F ih =>
    intro t q f τ h ht hq hF K
    have hv := rd_v X.1 h.1
    rw [pLoop] at K
    rw [e_207_5]
    by_cases a1 : c t = 4
    · rw [if_pos (Or.inl a1)] at K
      simp (disch := omega) only [e_207_6, e_207_7, n10, n01, Nat.lt_irrefl, Nat.not_lt_zero, ne_eq, Nat.add_zero, Nat.one_ne_zero, Nat.zero_ne_one, Nat.reduceEqDiff, bI_T, bI_F, bI_0, bI_1, bI_01, not_and_self, true_and, and_true, not_true_eq_false, not_false_eq_true, false_imp_iff, true_imp_iff, imp_self, gPv_n, gPv_i, gPv_r, gPv_0, Option.toList_some, Option.toList_none, List.singleton_append, List.cons_append, List.nil_append, List.length_nil, List.length_cons, Nat.zero_le, Nat.reduceAdd, Nat.reduceLeDiff, or_true, true_or, false_or, or_false, and_self, and_false, false_and, implies_true, Option.some.injEq, exists_eq_left', nL, sk_54 hv, sr_54_2 hv, sr_54_3 hv, sr_54_4 hv, sr_54_5 hv, sr_54_7 hv, sr_54_8 hv, sr_54_9 hv, sr_54_12 hv, sr_54_13 hv, sr_54_14 hv, sr_54_22 hv, sr_54_25 hv, sr_54_26 hv, sr_54_27 hv, sr_54_34 hv, sr_54_35 hv, sr_54_36 hv, sr_54_37 hv, sr_54_38 hv, sr_54_40 hv, sr_54_43 hv, sr_54_44 hv, sr_54_45 hv, sr_54_46 hv, sr_54_47 hv]
      refine t_tkT X h (by omega) a1 ?_
      intro τ' h' hn'
      have hv' := rd_v X.1 h'.1
      simp (disch := omega) only [e_207_10, e_207_13, e_207_14, e_207_15, n10, n01, Nat.lt_irrefl, Nat.not_lt_zero, ne_eq, Nat.add_zero, Nat.one_ne_zero, Nat.zero_ne_one, Nat.reduceEqDiff, bI_T, bI_F, bI_0, bI_1, bI_01, not_and_self, true_and, and_true, not_true_eq_false, not_false_eq_true, false_imp_iff, true_imp_iff, imp_self, gPv_n, gPv_i, gPv_r, gPv_0, Option.toList_some, Option.toList_none, List.singleton_append, List.cons_append, List.nil_append, List.length_nil, List.length_cons, Nat.zero_le, Nat.reduceAdd, Nat.reduceLeDiff, or_true, true_or, false_or, or_false, and_self, and_false, false_and, implies_true, Option.some.injEq, exists_eq_left', nL, nI_add, nI_mul, nI_clamp, nI_ltI, nI_leI, nI_eq, nI_pos, nI_pos', Nat.reduceAdd, Nat.reduceMul, Nat.reducePow, sk_54 hv', sr_54_2 hv', sr_54_3 hv', sr_54_4 hv', sr_54_5 hv', sr_54_7 hv', sr_54_8 hv', sr_54_9 hv', sr_54_12 hv', sr_54_13 hv', sr_54_14 hv', sr_54_22 hv', sr_54_25 hv', sr_54_26 hv', sr_54_27 hv', sr_54_34 hv', sr_54_35 hv', sr_54_36 hv', sr_54_37 hv', sr_54_38 hv', sr_54_40 hv', sr_54_43 hv', sr_54_44 hv', sr_54_45 hv', sr_54_46 hv', sr_54_47 hv']
      refine hR.1 τ' (t + 1) q _ h' hn' hq ?_
      intro τ2 ok
      simp (disch := omega) only [e_207_18, n10, n01, Nat.lt_irrefl, Nat.not_lt_zero, ne_eq, Nat.add_zero, Nat.one_ne_zero, Nat.zero_ne_one, Nat.reduceEqDiff, bI_T, bI_F, bI_0, bI_1, bI_01, not_and_self, true_and, and_true, not_true_eq_false, not_false_eq_true, false_imp_iff, true_imp_iff, imp_self, gPv_n, gPv_i, gPv_r, gPv_0, Option.toList_some, Option.toList_none, List.singleton_append, List.cons_append, List.nil_append, List.length_nil, List.length_cons, Nat.zero_le, Nat.reduceAdd, Nat.reduceLeDiff, or_true, true_or, false_or, or_false, and_self, and_false, false_and, implies_true, Option.some.injEq, exists_eq_left']
      cases hr : R (t + 1) q with
      | inl e =>
        rw [hr] at ok K
        have ok : FE B P σ τ2 e := ok
        have hv2 := rd_v X.1 ok.1
        simp (disch := omega) only [e_207_5, e_207_6, e_207_7, e_207_10, e_207_21, n10, n01, Nat.lt_irrefl, Nat.not_lt_zero, ne_eq, Nat.add_zero, Nat.one_ne_zero, Nat.zero_ne_one, Nat.reduceEqDiff, bI_T, bI_F, bI_0, bI_1, bI_01, not_and_self, true_and, and_true, not_true_eq_false, not_false_eq_true, false_imp_iff, true_imp_iff, imp_self, gPv_n, gPv_i, gPv_r, gPv_0, Option.toList_some, Option.toList_none, List.singleton_append, List.cons_append, List.nil_append, List.length_nil, List.length_cons, Nat.zero_le, Nat.reduceAdd, Nat.reduceLeDiff, or_true, true_or, false_or, or_false, and_self, and_false, false_and, implies_true, Option.some.injEq, exists_eq_left', nL, nI_add, nI_mul, nI_clamp, nI_ltI, nI_leI, nI_eq, nI_pos, nI_pos', Nat.reduceAdd, Nat.reduceMul, Nat.reducePow, sk_54 hv2, sr_54_2 hv2, sr_54_3 hv2, sr_54_4 hv2, sr_54_5 hv2, sr_54_7 hv2, sr_54_8 hv2, sr_54_9 hv2, sr_54_12 hv2, sr_54_13 hv2, sr_54_14 hv2, sr_54_22 hv2, sr_54_25 hv2, sr_54_26 hv2, sr_54_27 hv2, sr_54_34 hv2, sr_54_35 hv2, sr_54_36 hv2, sr_54_37 hv2, sr_54_38 hv2, sr_54_40 hv2, sr_54_43 hv2, sr_54_44 hv2, sr_54_45 hv2, sr_54_46 hv2, sr_54_47 hv2, t_tkF X ok]
        exact K τ2 ok
      | inr x =>
        obtain ⟨t1, q1, g⟩ := x
        rw [hr] at ok K
        obtain ⟨ok, o1', o2'⟩ : FI B σ τ2 t1 q1 ∧ t1 ≤ n ∧ q1 ≤ 50 := ok
        have := hU _ _ _ _ _ hr
        exact ih t1 q1 _ τ2 ok o1' o2' (by omega) K
    · rw [if_neg (by omega)] at K
      simp (disch := omega) only [e_207_6, e_207_7, e_207_10, e_207_21, n10, n01, Nat.lt_irrefl, Nat.not_lt_zero, ne_eq, Nat.add_zero, Nat.one_ne_zero, Nat.zero_ne_one, Nat.reduceEqDiff, bI_T, bI_F, bI_0, bI_1, bI_01, not_and_self, true_and, and_true, not_true_eq_false, not_false_eq_true, false_imp_iff, true_imp_iff, imp_self, gPv_n, gPv_i, gPv_r, gPv_0, Option.toList_some, Option.toList_none, List.singleton_append, List.cons_append, List.nil_append, List.length_nil, List.length_cons, Nat.zero_le, Nat.reduceAdd, Nat.reduceLeDiff, or_true, true_or, false_or, or_false, and_self, and_false, false_and, implies_true, Option.some.injEq, exists_eq_left', nL, nI_add, nI_mul, nI_clamp, nI_ltI, nI_leI, nI_eq, nI_pos, nI_pos', Nat.reduceAdd, Nat.reduceMul, Nat.reducePow, sk_54 hv, sr_54_2 hv, sr_54_3 hv, sr_54_4 hv, sr_54_5 hv, sr_54_7 hv, sr_54_8 hv, sr_54_9 hv, sr_54_12 hv, sr_54_13 hv, sr_54_14 hv, sr_54_22 hv, sr_54_25 hv, sr_54_26 hv, sr_54_27 hv, sr_54_34 hv, sr_54_35 hv, sr_54_36 hv, sr_54_37 hv, sr_54_38 hv, sr_54_40 hv, sr_54_43 hv, sr_54_44 hv, sr_54_45 hv, sr_54_46 hv, sr_54_47 hv, t_tkN X h ht (show 4 < 1000 by omega) a1]
      exact K τ ⟨h, ht, hq⟩
theorem t_ch207 {D dp F : Nat} {R : Nat → Nat → zR zT} {cb : Nat → zT → zT → zT} (X : MRX B n c v P σ) (hR : Rd B n P σ (D + 3) 208 [.int (nI dp)] R) (hU : pUp R) (hF : n < F) : Rd B n P σ (D + 4) 207 [.int (nI dp)] (pChain c 4 4 R cb F) := by
  refine ⟨?_, ?_⟩
  · intro τ t q Q h ht hq K
    have hv := rd_v X.1 h.1
    simp (disch := omega) only [c_207, e_207_0, e_207_1, e_207_2, n10, n01, Nat.lt_irrefl, Nat.not_lt_zero, ne_eq, Nat.add_zero, Nat.one_ne_zero, Nat.zero_ne_one, Nat.reduceEqDiff, bI_T, bI_F, bI_0, bI_1, bI_01, not_and_self, true_and, and_true, not_true_eq_false, not_false_eq_true, false_imp_iff, true_imp_iff, imp_self, gPv_n, gPv_i, gPv_r, gPv_0, Option.toList_some, Option.toList_none, List.singleton_append, List.cons_append, List.nil_append, List.length_nil, List.length_cons, Nat.zero_le, Nat.reduceAdd, Nat.reduceLeDiff, or_true, true_or, false_or, or_false, and_self, and_false, false_and, implies_true, Option.some.injEq, exists_eq_left', sk_54 hv, sr_54_2 hv, sr_54_3 hv, sr_54_4 hv, sr_54_5 hv, sr_54_7 hv, sr_54_8 hv, sr_54_9 hv, sr_54_12 hv, sr_54_13 hv, sr_54_14 hv, sr_54_22 hv, sr_54_25 hv, sr_54_26 hv, sr_54_27 hv, sr_54_34 hv, sr_54_35 hv, sr_54_36 hv, sr_54_37 hv, sr_54_38 hv, sr_54_40 hv, sr_54_43 hv, sr_54_44 hv, sr_54_45 hv, sr_54_46 hv, sr_54_47 hv]
    refine hR.1 τ t q _ h ht hq ?_
    intro τ2 ok
    simp only [n10, n01, Nat.lt_irrefl, Nat.not_lt_zero, ne_eq, Nat.add_zero, Nat.one_ne_zero, Nat.zero_ne_one, Nat.reduceEqDiff, bI_T, bI_F, bI_0, bI_1, bI_01, not_and_self, true_and, and_true, not_true_eq_false, not_false_eq_true, false_imp_iff, true_imp_iff, imp_self, gPv_n, gPv_i, gPv_r, gPv_0, Option.toList_some, Option.toList_none, List.singleton_append, List.cons_append, List.nil_append, List.length_nil, List.length_cons, Nat.zero_le, Nat.reduceAdd, Nat.reduceLeDiff, or_true, true_or, false_or, or_false, and_self, and_false, false_and, implies_true, Option.some.injEq, exists_eq_left']
    cases hr : R t q with
    | inl e =>
      rw [pChain, hr] at K
      rw [hr] at ok
      have ok : FE B P σ τ2 e := ok
      have hv2 := rd_v X.1 ok.1
      simp (disch := omega) only [e_207_5, e_207_6, e_207_7, e_207_10, e_207_21, n10, n01, Nat.lt_irrefl, Nat.not_lt_zero, ne_eq, Nat.add_zero, Nat.one_ne_zero, Nat.zero_ne_one, Nat.reduceEqDiff, bI_T, bI_F, bI_0, bI_1, bI_01, not_and_self, true_and, and_true, not_true_eq_false, not_false_eq_true, false_imp_iff, true_imp_iff, imp_self, gPv_n, gPv_i, gPv_r, gPv_0, Option.toList_some, Option.toList_none, List.singleton_append, List.cons_append, List.nil_append, List.length_nil, List.length_cons, Nat.zero_le, Nat.reduceAdd, Nat.reduceLeDiff, or_true, true_or, false_or, or_false, and_self, and_false, false_and, implies_true, Option.some.injEq, exists_eq_left', nL, nI_add, nI_mul, nI_clamp, nI_ltI, nI_leI, nI_eq, nI_pos, nI_pos', Nat.reduceAdd, Nat.reduceMul, Nat.reducePow, sk_54 hv2, sr_54_2 hv2, sr_54_3 hv2, sr_54_4 hv2, sr_54_5 hv2, sr_54_7 hv2, sr_54_8 hv2, sr_54_9 hv2, sr_54_12 hv2, sr_54_13 hv2, sr_54_14 hv2, sr_54_22 hv2, sr_54_25 hv2, sr_54_26 hv2, sr_54_27 hv2, sr_54_34 hv2, sr_54_35 hv2, sr_54_36 hv2, sr_54_37 hv2, sr_54_38 hv2, sr_54_40 hv2, sr_54_43 hv2, sr_54_44 hv2, sr_54_45 hv2, sr_54_46 hv2, sr_54_47 hv2, t_tkF X ok]
      exact K τ2 ok
    | inr x =>
      obtain ⟨t1, q1, g⟩ := x
      rw [pChain, hr] at K
      rw [hr] at ok
      obtain ⟨ok, o1', o2'⟩ : FI B σ τ2 t1 q1 ∧ t1 ≤ n ∧ q1 ≤ 50 := ok
      exact t_lp207 (D := D) X hR hU F t1 q1 g τ2 ok o1' o2' (by omega) K
  · intro τ e Q h K
    have hv := rd_v X.1 h.1
    simp (disch := omega) only [c_207, e_207_0, e_207_1, e_207_2, n10, n01, Nat.lt_irrefl, Nat.not_lt_zero, ne_eq, Nat.add_zero, Nat.one_ne_zero, Nat.zero_ne_one, Nat.reduceEqDiff, bI_T, bI_F, bI_0, bI_1, bI_01, not_and_self, true_and, and_true, not_true_eq_false, not_false_eq_true, false_imp_iff, true_imp_iff, imp_self, gPv_n, gPv_i, gPv_r, gPv_0, Option.toList_some, Option.toList_none, List.singleton_append, List.cons_append, List.nil_append, List.length_nil, List.length_cons, Nat.zero_le, Nat.reduceAdd, Nat.reduceLeDiff, or_true, true_or, false_or, or_false, and_self, and_false, false_and, implies_true, Option.some.injEq, exists_eq_left', sk_54 hv, sr_54_2 hv, sr_54_3 hv, sr_54_4 hv, sr_54_5 hv, sr_54_7 hv, sr_54_8 hv, sr_54_9 hv, sr_54_12 hv, sr_54_13 hv, sr_54_14 hv, sr_54_22 hv, sr_54_25 hv, sr_54_26 hv, sr_54_27 hv, sr_54_34 hv, sr_54_35 hv, sr_54_36 hv, sr_54_37 hv, sr_54_38 hv, sr_54_40 hv, sr_54_43 hv, sr_54_44 hv, sr_54_45 hv, sr_54_46 hv, sr_54_47 hv]
    refine hR.2 τ e _ h ?_
    simp (disch := omega) only [e_207_5, e_207_6, e_207_7, e_207_10, e_207_21, n10, n01, Nat.lt_irrefl, Nat.not_lt_zero, ne_eq, Nat.add_zero, Nat.one_ne_zero, Nat.zero_ne_one, Nat.reduceEqDiff, bI_T, bI_F, bI_0, bI_1, bI_01, not_and_self, true_and, and_true, not_true_eq_false, not_false_eq_true, false_imp_iff, true_imp_iff, imp_self, gPv_n, gPv_i, gPv_r, gPv_0, Option.toList_some, Option.toList_none, List.singleton_append, List.cons_append, List.nil_append, List.length_nil, List.length_cons, Nat.zero_le, Nat.reduceAdd, Nat.reduceLeDiff, or_true, true_or, false_or, or_false, and_self, and_false, false_and, implies_true, Option.some.injEq, exists_eq_left', nL, nI_add, nI_mul, nI_clamp, nI_ltI, nI_leI, nI_eq, nI_pos, nI_pos', Nat.reduceAdd, Nat.reduceMul, Nat.reducePow, sk_54 hv, sr_54_2 hv, sr_54_3 hv, sr_54_4 hv, sr_54_5 hv, sr_54_7 hv, sr_54_8 hv, sr_54_9 hv, sr_54_12 hv, sr_54_13 hv, sr_54_14 hv, sr_54_22 hv, sr_54_25 hv, sr_54_26 hv, sr_54_27 hv, sr_54_34 hv, sr_54_35 hv, sr_54_36 hv, sr_54_37 hv, sr_54_38 hv, sr_54_40 hv, sr_54_43 hv, sr_54_44 hv, sr_54_45 hv, sr_54_46 hv, sr_54_47 hv, t_tkF X h]
    exact K
theorem t_testD {F : Nat} (X : MRX B n c v P σ) (hF : n < F) : ∀ r d, r ≤ 8 → Rd B n P σ (d + 3 * r + 9) 207 [.int (nI (8 - r))] (pTestD c v F r) := by
  intro r
  induction r with
  | zero =>
    intro d _
    exact t_ch207 (D := d + 5) X (t_ch208 (D := d + 4) X (t_plain (D := d + 3) X hF (t_sumD X hF 0 d (by omega)) (fun h => absurd h (by decide)) (fun _ => rfl)) (pPlain_up (pSum_up 0) pNo_up) hF) (pChain_up (pPlain_up (pSum_up 0) pNo_up)) hF
  | succ r ih =>
    intro d hr
    have hT := ih d (by omega)
    have hS := t_sumD X hF (r + 1) d hr
    have e1 : 8 - (r + 1) + 1 = 8 - r := by omega
    rw [show d + 3 * (r + 1) + 9 = (d + 3 * r + 8) + 4 from by omega]
    refine t_ch207 (D := d + 3 * r + 8) X (t_ch208 (D := d + 3 * r + 7) X (t_plain (D := d + 3 * r + 6) X hF ?_ (fun _ => ⟨by omega, ?_⟩) (fun h => absurd h (by decide))) (pPlain_up (pSum_up _) (pTest_up r)) hF) (pChain_up (pPlain_up (pSum_up _) (pTest_up r))) hF
    · rw [show d + 3 * (r + 1) + 6 = d + 3 * r + 6 + 3 from by omega] at hS
      exact hS
    · rw [e1]
      exact hT
theorem t_clause {F : Nat} (X : MRX B n c v P σ) (hF : n < F) : Rd B n P σ (d + 34) 206 [] (pClause c v F) := by
  have hS : Rd B n P σ (d + 33) 210 [.int (nI 0)] (pSumD c v F 8) := t_sumD X hF 8 (d + 3) (by omega)
  have hT : Rd B n P σ (d + 33) 207 [.int (nI 0)] (pTestD c v F 8) := t_testD X hF 8 d (by omega)
  have endF : ∀ {Q : Option Value → gS → Prop} τ e, FE B P σ τ e → Q none τ → wp (d + 33) pr_206 Q 21 [some (.ref (B + 54))] [] τ := by
    intro Q τ e h K
    have hv := rd_v X.1 h.1
    simp (disch := omega) only [e_206_21, e_206_22, e_206_23, e_206_26, e_206_34, n10, n01, Nat.lt_irrefl, Nat.not_lt_zero, ne_eq, Nat.add_zero, Nat.one_ne_zero, Nat.zero_ne_one, Nat.reduceEqDiff, bI_T, bI_F, bI_0, bI_1, bI_01, not_and_self, true_and, and_true, not_true_eq_false, not_false_eq_true, false_imp_iff, true_imp_iff, imp_self, gPv_n, gPv_i, gPv_r, gPv_0, Option.toList_some, Option.toList_none, List.singleton_append, List.cons_append, List.nil_append, List.length_nil, List.length_cons, Nat.zero_le, Nat.reduceAdd, Nat.reduceLeDiff, or_true, true_or, false_or, or_false, and_self, and_false, false_and, implies_true, Option.some.injEq, exists_eq_left', nL, nI_add, nI_mul, nI_clamp, nI_ltI, nI_leI, nI_eq, nI_pos, nI_pos', Nat.reduceAdd, Nat.reduceMul, Nat.reducePow, sk_54 hv, sr_54_2 hv, sr_54_3 hv, sr_54_4 hv, sr_54_5 hv, sr_54_7 hv, sr_54_8 hv, sr_54_9 hv, sr_54_12 hv, sr_54_13 hv, sr_54_14 hv, sr_54_22 hv, sr_54_25 hv, sr_54_26 hv, sr_54_27 hv, sr_54_34 hv, sr_54_35 hv, sr_54_36 hv, sr_54_37 hv, sr_54_38 hv, sr_54_40 hv, sr_54_43 hv, sr_54_44 hv, sr_54_45 hv, sr_54_46 hv, sr_54_47 hv, t_tkF X h]
    exact K
  refine ⟨?_, ?_⟩
  · intro τ t q Q h ht hq K
    have hv := rd_v X.1 h.1
    have rest : ∀ τ' t1 q1 f, FI B σ τ' t1 q1 → t1 ≤ n → q1 ≤ 50 → pHead c v F t q = .inr (t1, q1, f) → wp (d + 33) pr_206 Q 21 [some (.ref (B + 54))] [] τ' := by
      intro τ' t1 q1 f h' ht' hq' hh
      rw [pClause, hh] at K
      simp only at K
      have hv' := rd_v X.1 h'.1
      by_cases a3 : c t1 = 3
      · rw [if_pos a3] at K
        simp (disch := omega) only [e_206_21, e_206_22, e_206_23, n10, n01, Nat.lt_irrefl, Nat.not_lt_zero, ne_eq, Nat.add_zero, Nat.one_ne_zero, Nat.zero_ne_one, Nat.reduceEqDiff, bI_T, bI_F, bI_0, bI_1, bI_01, not_and_self, true_and, and_true, not_true_eq_false, not_false_eq_true, false_imp_iff, true_imp_iff, imp_self, gPv_n, gPv_i, gPv_r, gPv_0, Option.toList_some, Option.toList_none, List.singleton_append, List.cons_append, List.nil_append, List.length_nil, List.length_cons, Nat.zero_le, Nat.reduceAdd, Nat.reduceLeDiff, or_true, true_or, false_or, or_false, and_self, and_false, false_and, implies_true, Option.some.injEq, exists_eq_left', nL, sk_54 hv', sr_54_2 hv', sr_54_3 hv', sr_54_4 hv', sr_54_5 hv', sr_54_7 hv', sr_54_8 hv', sr_54_9 hv', sr_54_12 hv', sr_54_13 hv', sr_54_14 hv', sr_54_22 hv', sr_54_25 hv', sr_54_26 hv', sr_54_27 hv', sr_54_34 hv', sr_54_35 hv', sr_54_36 hv', sr_54_37 hv', sr_54_38 hv', sr_54_40 hv', sr_54_43 hv', sr_54_44 hv', sr_54_45 hv', sr_54_46 hv', sr_54_47 hv']
        refine t_tkT X h' (by omega) a3 ?_
        intro τ2 h2 hn2
        have hv2 := rd_v X.1 h2.1
        simp (disch := omega) only [e_206_26, e_206_29, e_206_30, e_206_31, n10, n01, Nat.lt_irrefl, Nat.not_lt_zero, ne_eq, Nat.add_zero, Nat.one_ne_zero, Nat.zero_ne_one, Nat.reduceEqDiff, bI_T, bI_F, bI_0, bI_1, bI_01, not_and_self, true_and, and_true, not_true_eq_false, not_false_eq_true, false_imp_iff, true_imp_iff, imp_self, gPv_n, gPv_i, gPv_r, gPv_0, Option.toList_some, Option.toList_none, List.singleton_append, List.cons_append, List.nil_append, List.length_nil, List.length_cons, Nat.zero_le, Nat.reduceAdd, Nat.reduceLeDiff, or_true, true_or, false_or, or_false, and_self, and_false, false_and, implies_true, Option.some.injEq, exists_eq_left', nL, nI_add, nI_mul, nI_clamp, nI_ltI, nI_leI, nI_eq, nI_pos, nI_pos', Nat.reduceAdd, Nat.reduceMul, Nat.reducePow, sk_54 hv2, sr_54_2 hv2, sr_54_3 hv2, sr_54_4 hv2, sr_54_5 hv2, sr_54_7 hv2, sr_54_8 hv2, sr_54_9 hv2, sr_54_12 hv2, sr_54_13 hv2, sr_54_14 hv2, sr_54_22 hv2, sr_54_25 hv2, sr_54_26 hv2, sr_54_27 hv2, sr_54_34 hv2, sr_54_35 hv2, sr_54_36 hv2, sr_54_37 hv2, sr_54_38 hv2, sr_54_40 hv2, sr_54_43 hv2, sr_54_44 hv2, sr_54_45 hv2, sr_54_46 hv2, sr_54_47 hv2]
        refine hT.1 τ2 (t1 + 1) q1 _ h2 hn2 hq' ?_
        intro τ3 ok
        simp only [e_206_34, n10, n01, Nat.lt_irrefl, Nat.not_lt_zero, ne_eq, Nat.add_zero, Nat.one_ne_zero, Nat.zero_ne_one, Nat.reduceEqDiff, bI_T, bI_F, bI_0, bI_1, bI_01, not_and_self, true_and, and_true, not_true_eq_false, not_false_eq_true, false_imp_iff, true_imp_iff, imp_self, gPv_n, gPv_i, gPv_r, gPv_0, Option.toList_some, Option.toList_none, List.singleton_append, List.cons_append, List.nil_append, List.length_nil, List.length_cons, Nat.zero_le, Nat.reduceAdd, Nat.reduceLeDiff, or_true, true_or, false_or, or_false, and_self, and_false, false_and, implies_true, Option.some.injEq, exists_eq_left']
        refine K τ3 ?_
        cases hr : pTestD c v F 8 (t1 + 1) q1 with
        | inl e => rw [hr] at ok; exact ok
        | inr y =>
          obtain ⟨t2, q2, g⟩ := y
          rw [hr] at ok
          exact ok
      · rw [if_neg a3] at K
        simp (disch := omega) only [e_206_21, e_206_22, e_206_23, e_206_26, e_206_34, n10, n01, Nat.lt_irrefl, Nat.not_lt_zero, ne_eq, Nat.add_zero, Nat.one_ne_zero, Nat.zero_ne_one, Nat.reduceEqDiff, bI_T, bI_F, bI_0, bI_1, bI_01, not_and_self, true_and, and_true, not_true_eq_false, not_false_eq_true, false_imp_iff, true_imp_iff, imp_self, gPv_n, gPv_i, gPv_r, gPv_0, Option.toList_some, Option.toList_none, List.singleton_append, List.cons_append, List.nil_append, List.length_nil, List.length_cons, Nat.zero_le, Nat.reduceAdd, Nat.reduceLeDiff, or_true, true_or, false_or, or_false, and_self, and_false, false_and, implies_true, Option.some.injEq, exists_eq_left', nL, nI_add, nI_mul, nI_clamp, nI_ltI, nI_leI, nI_eq, nI_pos, nI_pos', Nat.reduceAdd, Nat.reduceMul, Nat.reducePow, sk_54 hv', sr_54_2 hv', sr_54_3 hv', sr_54_4 hv', sr_54_5 hv', sr_54_7 hv', sr_54_8 hv', sr_54_9 hv', sr_54_12 hv', sr_54_13 hv', sr_54_14 hv', sr_54_22 hv', sr_54_25 hv', sr_54_26 hv', sr_54_27 hv', sr_54_34 hv', sr_54_35 hv', sr_54_36 hv', sr_54_37 hv', sr_54_38 hv', sr_54_40 hv', sr_54_43 hv', sr_54_44 hv', sr_54_45 hv', sr_54_46 hv', sr_54_47 hv', t_tkN X h' ht' (show 3 < 1000 by omega) a3]
        exact K τ' ⟨h', ht', hq'⟩
    have fault : ∀ τ' e, FE B P σ τ' e → pHead c v F t q = .inl e → wp (d + 33) pr_206 Q 21 [some (.ref (B + 54))] [] τ' := by
      intro τ' e h' hh
      rw [pClause, hh] at K
      exact endF τ' e h' (K τ' h')
    by_cases a1 : c t = 1
    · have hh : pHead c v F t q = pSumD c v F 8 (t + 1) q := by rw [pHead, if_pos a1]
      simp (disch := omega) only [c_206, e_206_0, e_206_1, e_206_2, n10, n01, Nat.lt_irrefl, Nat.not_lt_zero, ne_eq, Nat.add_zero, Nat.one_ne_zero, Nat.zero_ne_one, Nat.reduceEqDiff, bI_T, bI_F, bI_0, bI_1, bI_01, not_and_self, true_and, and_true, not_true_eq_false, not_false_eq_true, false_imp_iff, true_imp_iff, imp_self, gPv_n, gPv_i, gPv_r, gPv_0, Option.toList_some, Option.toList_none, List.singleton_append, List.cons_append, List.nil_append, List.length_nil, List.length_cons, Nat.zero_le, Nat.reduceAdd, Nat.reduceLeDiff, or_true, true_or, false_or, or_false, and_self, and_false, false_and, implies_true, Option.some.injEq, exists_eq_left', nL, sk_54 hv, sr_54_2 hv, sr_54_3 hv, sr_54_4 hv, sr_54_5 hv, sr_54_7 hv, sr_54_8 hv, sr_54_9 hv, sr_54_12 hv, sr_54_13 hv, sr_54_14 hv, sr_54_22 hv, sr_54_25 hv, sr_54_26 hv, sr_54_27 hv, sr_54_34 hv, sr_54_35 hv, sr_54_36 hv, sr_54_37 hv, sr_54_38 hv, sr_54_40 hv, sr_54_43 hv, sr_54_44 hv, sr_54_45 hv, sr_54_46 hv, sr_54_47 hv]
      refine t_tkT X h (by omega) a1 ?_
      intro τ2 h2 hn2
      have hv2 := rd_v X.1 h2.1
      simp (disch := omega) only [e_206_5, e_206_8, e_206_9, e_206_10, n10, n01, Nat.lt_irrefl, Nat.not_lt_zero, ne_eq, Nat.add_zero, Nat.one_ne_zero, Nat.zero_ne_one, Nat.reduceEqDiff, bI_T, bI_F, bI_0, bI_1, bI_01, not_and_self, true_and, and_true, not_true_eq_false, not_false_eq_true, false_imp_iff, true_imp_iff, imp_self, gPv_n, gPv_i, gPv_r, gPv_0, Option.toList_some, Option.toList_none, List.singleton_append, List.cons_append, List.nil_append, List.length_nil, List.length_cons, Nat.zero_le, Nat.reduceAdd, Nat.reduceLeDiff, or_true, true_or, false_or, or_false, and_self, and_false, false_and, implies_true, Option.some.injEq, exists_eq_left', nL, nI_add, nI_mul, nI_clamp, nI_ltI, nI_leI, nI_eq, nI_pos, nI_pos', Nat.reduceAdd, Nat.reduceMul, Nat.reducePow, sk_54 hv2, sr_54_2 hv2, sr_54_3 hv2, sr_54_4 hv2, sr_54_5 hv2, sr_54_7 hv2, sr_54_8 hv2, sr_54_9 hv2, sr_54_12 hv2, sr_54_13 hv2, sr_54_14 hv2, sr_54_22 hv2, sr_54_25 hv2, sr_54_26 hv2, sr_54_27 hv2, sr_54_34 hv2, sr_54_35 hv2, sr_54_36 hv2, sr_54_37 hv2, sr_54_38 hv2, sr_54_40 hv2, sr_54_43 hv2, sr_54_44 hv2, sr_54_45 hv2, sr_54_46 hv2, sr_54_47 hv2]
      refine hS.1 τ2 (t + 1) q _ h2 hn2 hq ?_
      intro τ3 ok
      simp only [e_206_13, n10, n01, Nat.lt_irrefl, Nat.not_lt_zero, ne_eq, Nat.add_zero, Nat.one_ne_zero, Nat.zero_ne_one, Nat.reduceEqDiff, bI_T, bI_F, bI_0, bI_1, bI_01, not_and_self, true_and, and_true, not_true_eq_false, not_false_eq_true, false_imp_iff, true_imp_iff, imp_self, gPv_n, gPv_i, gPv_r, gPv_0, Option.toList_some, Option.toList_none, List.singleton_append, List.cons_append, List.nil_append, List.length_nil, List.length_cons, Nat.zero_le, Nat.reduceAdd, Nat.reduceLeDiff, or_true, true_or, false_or, or_false, and_self, and_false, false_and, implies_true, Option.some.injEq, exists_eq_left']
      cases hr : pSumD c v F 8 (t + 1) q with
      | inl e =>
        rw [hr] at ok
        exact fault τ3 e ok (hh.trans hr)
      | inr y =>
        obtain ⟨t1, q1, f⟩ := y
        rw [hr] at ok
        obtain ⟨ok, o1, o2⟩ : FI B σ τ3 t1 q1 ∧ t1 ≤ n ∧ q1 ≤ 50 := ok
        exact rest τ3 t1 q1 f ok o1 o2 (hh.trans hr)
    · simp (disch := omega) only [c_206, e_206_0, e_206_1, e_206_2, e_206_5, e_206_16, e_206_17, e_206_18, n10, n01, Nat.lt_irrefl, Nat.not_lt_zero, ne_eq, Nat.add_zero, Nat.one_ne_zero, Nat.zero_ne_one, Nat.reduceEqDiff, bI_T, bI_F, bI_0, bI_1, bI_01, not_and_self, true_and, and_true, not_true_eq_false, not_false_eq_true, false_imp_iff, true_imp_iff, imp_self, gPv_n, gPv_i, gPv_r, gPv_0, Option.toList_some, Option.toList_none, List.singleton_append, List.cons_append, List.nil_append, List.length_nil, List.length_cons, Nat.zero_le, Nat.reduceAdd, Nat.reduceLeDiff, or_true, true_or, false_or, or_false, and_self, and_false, false_and, implies_true, Option.some.injEq, exists_eq_left', nL, nI_add, nI_mul, nI_clamp, nI_ltI, nI_leI, nI_eq, nI_pos, nI_pos', Nat.reduceAdd, Nat.reduceMul, Nat.reducePow, sk_54 hv, sr_54_2 hv, sr_54_3 hv, sr_54_4 hv, sr_54_5 hv, sr_54_7 hv, sr_54_8 hv, sr_54_9 hv, sr_54_12 hv, sr_54_13 hv, sr_54_14 hv, sr_54_22 hv, sr_54_25 hv, sr_54_26 hv, sr_54_27 hv, sr_54_34 hv, sr_54_35 hv, sr_54_36 hv, sr_54_37 hv, sr_54_38 hv, sr_54_40 hv, sr_54_43 hv, sr_54_44 hv, sr_54_45 hv, sr_54_46 hv, sr_54_47 hv, t_tkN X h ht (show 1 < 1000 by omega) a1]
      refine t_must X h ht (by omega) (by omega) ?_ ?_
      · intro τ2 h2 hc
        exact fault τ2 t h2 (by rw [pHead, if_neg a1, if_neg hc])
      · intro τ2 h2 hn2 hc
        exact rest τ2 (t + 1) q _ h2 hn2 hq (by rw [pHead, if_neg a1, if_pos hc])
  · intro τ e Q h K
    have hv := rd_v X.1 h.1
    simp (disch := omega) only [c_206, e_206_0, e_206_1, e_206_2, e_206_5, e_206_16, e_206_17, e_206_18, n10, n01, Nat.lt_irrefl, Nat.not_lt_zero, ne_eq, Nat.add_zero, Nat.one_ne_zero, Nat.zero_ne_one, Nat.reduceEqDiff, bI_T, bI_F, bI_0, bI_1, bI_01, not_and_self, true_and, and_true, not_true_eq_false, not_false_eq_true, false_imp_iff, true_imp_iff, imp_self, gPv_n, gPv_i, gPv_r, gPv_0, Option.toList_some, Option.toList_none, List.singleton_append, List.cons_append, List.nil_append, List.length_nil, List.length_cons, Nat.zero_le, Nat.reduceAdd, Nat.reduceLeDiff, or_true, true_or, false_or, or_false, and_self, and_false, false_and, implies_true, Option.some.injEq, exists_eq_left', nL, nI_add, nI_mul, nI_clamp, nI_ltI, nI_leI, nI_eq, nI_pos, nI_pos', Nat.reduceAdd, Nat.reduceMul, Nat.reducePow, sk_54 hv, sr_54_2 hv, sr_54_3 hv, sr_54_4 hv, sr_54_5 hv, sr_54_7 hv, sr_54_8 hv, sr_54_9 hv, sr_54_12 hv, sr_54_13 hv, sr_54_14 hv, sr_54_22 hv, sr_54_25 hv, sr_54_26 hv, sr_54_27 hv, sr_54_34 hv, sr_54_35 hv, sr_54_36 hv, sr_54_37 hv, sr_54_38 hv, sr_54_40 hv, sr_54_43 hv, sr_54_44 hv, sr_54_45 hv, sr_54_46 hv, sr_54_47 hv, t_tkF X h, t_mustF X h]
    exact endF τ e h K
/-- all clauses -/
theorem t_rd2 {F : Nat} (X : MRX B n c v P σ) (hF : n < F) (h15 : gI σ (B + 54) 15 = nI n) : ∀ k i t q τ, i + k = 12 → OKr B n P σ (pClause c v F t q) τ → (∀ τ' x1, OKr B n P σ (pLawL c v F n (k + 1) t q) τ' → wp (d + 34) pr_213 Q 95 [some (.ref (B + 54)), x1] [] τ') → wp (d + 34) pr_213 Q 34 [some (.ref (B + 54)), some (.int (nI i))] [] τ := by
  have endF : ∀ τ e i, FE B P σ τ e → (∀ x1, wp (d + 34) pr_213 Q 95 [some (.ref (B + 54)), x1] [] τ) → wp (d + 34) pr_213 Q 34 [some (.ref (B + 54)), some (.int (nI i))] [] τ := by
    intro τ e i h K
    have hv := rd_v X.1 h.1
    simp (disch := omega) only [e_213_34, e_213_35, e_213_37, e_213_40, e_213_43, e_213_73, e_213_74, e_213_77, c_205, e_205_0, e_205_2, e_205_3, e_205_4, n10, n01, Nat.lt_irrefl, Nat.not_lt_zero, ne_eq, Nat.add_zero, Nat.one_ne_zero, Nat.zero_ne_one, Nat.reduceEqDiff, bI_T, bI_F, bI_0, bI_1, bI_01, not_and_self, true_and, and_true, not_true_eq_false, not_false_eq_true, false_imp_iff, true_imp_iff, imp_self, gPv_n, gPv_i, gPv_r, gPv_0, Option.toList_some, Option.toList_none, List.singleton_append, List.cons_append, List.nil_append, List.length_nil, List.length_cons, Nat.zero_le, Nat.reduceAdd, Nat.reduceLeDiff, or_true, true_or, false_or, or_false, and_self, and_false, false_and, implies_true, Option.some.injEq, exists_eq_left', nL, nI_add, nI_mul, nI_clamp, nI_ltI, nI_leI, nI_eq, nI_pos, nI_pos', Nat.reduceAdd, Nat.reduceMul, Nat.reducePow, sk_54 hv, sr_54_2 hv, sr_54_3 hv, sr_54_4 hv, sr_54_5 hv, sr_54_7 hv, sr_54_8 hv, sr_54_9 hv, sr_54_12 hv, sr_54_13 hv, sr_54_14 hv, sr_54_22 hv, sr_54_25 hv, sr_54_26 hv, sr_54_27 hv, sr_54_34 hv, sr_54_35 hv, sr_54_36 hv, sr_54_37 hv, sr_54_38 hv, sr_54_40 hv, sr_54_43 hv, sr_54_44 hv, sr_54_45 hv, sr_54_46 hv, sr_54_47 hv, t_tkF X h, t_fineF X h]
    exact K _
  intro k
  induction k with
  | zero =>
    intro i t q τ hi ok K
    have e12 : i = 12 := by omega
    subst e12
    cases hr : pClause c v F t q with
    | inl e =>
      rw [hr] at ok
      simp only [pLawL, hr] at K
      exact endF τ e 12 ok (fun x1 => K τ x1 ok)
    | inr y =>
      obtain ⟨t1, q1, cl⟩ := y
      rw [hr] at ok
      simp only [pLawL, hr] at K
      obtain ⟨ok, o1, o2⟩ : FI B σ τ t1 q1 ∧ t1 ≤ n ∧ q1 ≤ 50 := ok
      have hv := rd_v X.1 ok.1
      by_cases a : c t1 = 159
      · simp only [if_pos a] at K
        simp (disch := omega) only [e_213_34, e_213_35, e_213_37, e_213_40, c_205, e_205_0, e_205_2, e_205_3, e_205_4, n10, n01, Nat.lt_irrefl, Nat.not_lt_zero, ne_eq, Nat.add_zero, Nat.one_ne_zero, Nat.zero_ne_one, Nat.reduceEqDiff, bI_T, bI_F, bI_0, bI_1, bI_01, not_and_self, true_and, and_true, not_true_eq_false, not_false_eq_true, false_imp_iff, true_imp_iff, imp_self, gPv_n, gPv_i, gPv_r, gPv_0, Option.toList_some, Option.toList_none, List.singleton_append, List.cons_append, List.nil_append, List.length_nil, List.length_cons, Nat.zero_le, Nat.reduceAdd, Nat.reduceLeDiff, or_true, true_or, false_or, or_false, and_self, and_false, false_and, implies_true, Option.some.injEq, exists_eq_left', nL, nI_add, Nat.reduceAdd, sk_54 hv, sr_54_2 hv, sr_54_3 hv, sr_54_4 hv, sr_54_5 hv, sr_54_7 hv, sr_54_8 hv, sr_54_9 hv, sr_54_12 hv, sr_54_13 hv, sr_54_14 hv, sr_54_22 hv, sr_54_25 hv, sr_54_26 hv, sr_54_27 hv, sr_54_34 hv, sr_54_35 hv, sr_54_36 hv, sr_54_37 hv, sr_54_38 hv, sr_54_40 hv, sr_54_43 hv, sr_54_44 hv, sr_54_45 hv, sr_54_46 hv, sr_54_47 hv]
        refine t_tkT X ok (by omega) a ?_
        intro τ2 h2 hn2
        have hv2 := rd_v X.1 h2.1
        simp (disch := omega) only [e_213_43, e_213_46, e_213_47, e_213_49, e_213_52, e_213_53, n10, n01, Nat.lt_irrefl, Nat.not_lt_zero, ne_eq, Nat.add_zero, Nat.one_ne_zero, Nat.zero_ne_one, Nat.reduceEqDiff, bI_T, bI_F, bI_0, bI_1, bI_01, not_and_self, true_and, and_true, not_true_eq_false, not_false_eq_true, false_imp_iff, true_imp_iff, imp_self, gPv_n, gPv_i, gPv_r, gPv_0, Option.toList_some, Option.toList_none, List.singleton_append, List.cons_append, List.nil_append, List.length_nil, List.length_cons, Nat.zero_le, Nat.reduceAdd, Nat.reduceLeDiff, or_true, true_or, false_or, or_false, and_self, and_false, false_and, implies_true, Option.some.injEq, exists_eq_left', nL, nI_add, nI_mul, nI_clamp, nI_ltI, nI_leI, nI_eq, nI_pos, nI_pos', Nat.reduceAdd, Nat.reduceMul, Nat.reducePow, sk_54 hv2, sr_54_2 hv2, sr_54_3 hv2, sr_54_4 hv2, sr_54_5 hv2, sr_54_7 hv2, sr_54_8 hv2, sr_54_9 hv2, sr_54_12 hv2, sr_54_13 hv2, sr_54_14 hv2, sr_54_22 hv2, sr_54_25 hv2, sr_54_26 hv2, sr_54_27 hv2, sr_54_34 hv2, sr_54_35 hv2, sr_54_36 hv2, sr_54_37 hv2, sr_54_38 hv2, sr_54_40 hv2, sr_54_43 hv2, sr_54_44 hv2, sr_54_45 hv2, sr_54_46 hv2, sr_54_47 hv2]
        refine t_fltT X h2 hn2 ?_
        intro τ3 h3 _
        have hv3 := rd_v X.1 h3.1
        simp (disch := omega) only [e_213_56, e_213_57, e_213_60, e_213_67, e_213_70, n10, n01, Nat.lt_irrefl, Nat.not_lt_zero, ne_eq, Nat.add_zero, Nat.one_ne_zero, Nat.zero_ne_one, Nat.reduceEqDiff, bI_T, bI_F, bI_0, bI_1, bI_01, not_and_self, true_and, and_true, not_true_eq_false, not_false_eq_true, false_imp_iff, true_imp_iff, imp_self, gPv_n, gPv_i, gPv_r, gPv_0, Option.toList_some, Option.toList_none, List.singleton_append, List.cons_append, List.nil_append, List.length_nil, List.length_cons, Nat.zero_le, Nat.reduceAdd, Nat.reduceLeDiff, or_true, true_or, false_or, or_false, and_self, and_false, false_and, implies_true, Option.some.injEq, exists_eq_left', nL, nI_add, nI_mul, nI_clamp, nI_ltI, nI_leI, nI_eq, nI_pos, nI_pos', Nat.reduceAdd, Nat.reduceMul, Nat.reducePow, sk_54 hv3, sr_54_2 hv3, sr_54_3 hv3, sr_54_4 hv3, sr_54_5 hv3, sr_54_7 hv3, sr_54_8 hv3, sr_54_9 hv3, sr_54_12 hv3, sr_54_13 hv3, sr_54_14 hv3, sr_54_22 hv3, sr_54_25 hv3, sr_54_26 hv3, sr_54_27 hv3, sr_54_34 hv3, sr_54_35 hv3, sr_54_36 hv3, sr_54_37 hv3, sr_54_38 hv3, sr_54_40 hv3, sr_54_43 hv3, sr_54_44 hv3, sr_54_45 hv3, sr_54_46 hv3, sr_54_47 hv3, t_fineF X h3]
        exact endF τ3 (t1 + 1) 13 h3 (fun x1 => K τ3 x1 h3)
      · simp only [if_neg a] at K
        have e15 : gI τ (B + 54) 15 = nI n := by rw [ok.1.2 15 (by omega) (by omega) (by omega)]; exact h15
        by_cases b : t1 < n
        · rw [if_pos b] at K
          have b' : ¬ n ≤ t1 := by omega
          have n4 := X.2.1
          simp (disch := omega) only [e_213_34, e_213_35, e_213_37, e_213_40, e_213_43, e_213_73, e_213_74, e_213_77, e_213_80, e_213_81, e_213_84, e_213_85, e_213_88, e_213_91, e_213_92, c_205, e_205_0, e_205_2, e_205_3, e_205_4, n10, n01, Nat.lt_irrefl, Nat.not_lt_zero, ne_eq, Nat.add_zero, Nat.one_ne_zero, Nat.zero_ne_one, Nat.reduceEqDiff, bI_T, bI_F, bI_0, bI_1, bI_01, not_and_self, true_and, and_true, not_true_eq_false, not_false_eq_true, false_imp_iff, true_imp_iff, imp_self, gPv_n, gPv_i, gPv_r, gPv_0, Option.toList_some, Option.toList_none, List.singleton_append, List.cons_append, List.nil_append, List.length_nil, List.length_cons, Nat.zero_le, Nat.reduceAdd, Nat.reduceLeDiff, or_true, true_or, false_or, or_false, and_self, and_false, false_and, implies_true, Option.some.injEq, exists_eq_left', nL, nI_add, nI_mul, nI_clamp, nI_ltI, nI_leI, nI_eq, nI_pos, nI_pos', Nat.reduceAdd, Nat.reduceMul, Nat.reducePow, sk_54 hv, sr_54_2 hv, sr_54_3 hv, sr_54_4 hv, sr_54_5 hv, sr_54_7 hv, sr_54_8 hv, sr_54_9 hv, sr_54_12 hv, sr_54_13 hv, sr_54_14 hv, sr_54_22 hv, sr_54_25 hv, sr_54_26 hv, sr_54_27 hv, sr_54_34 hv, sr_54_35 hv, sr_54_36 hv, sr_54_37 hv, sr_54_38 hv, sr_54_40 hv, sr_54_43 hv, sr_54_44 hv, sr_54_45 hv, sr_54_46 hv, sr_54_47 hv, t_tkN X ok o1 (show 159 < 1000 by omega) a, t_fineT X ok, ok.2.1, e15, b']
          refine t_fltT X ok o1 ?_
          intro τ2 h2 _
          exact K τ2 _ h2
        · rw [if_neg b] at K
          have b' : n ≤ t1 := by omega
          have n4 := X.2.1
          simp (disch := omega) only [e_213_34, e_213_35, e_213_37, e_213_40, e_213_43, e_213_73, e_213_74, e_213_77, e_213_80, e_213_81, e_213_84, e_213_85, e_213_88, c_205, e_205_0, e_205_2, e_205_3, e_205_4, n10, n01, Nat.lt_irrefl, Nat.not_lt_zero, ne_eq, Nat.add_zero, Nat.one_ne_zero, Nat.zero_ne_one, Nat.reduceEqDiff, bI_T, bI_F, bI_0, bI_1, bI_01, not_and_self, true_and, and_true, not_true_eq_false, not_false_eq_true, false_imp_iff, true_imp_iff, imp_self, gPv_n, gPv_i, gPv_r, gPv_0, Option.toList_some, Option.toList_none, List.singleton_append, List.cons_append, List.nil_append, List.length_nil, List.length_cons, Nat.zero_le, Nat.reduceAdd, Nat.reduceLeDiff, or_true, true_or, false_or, or_false, and_self, and_false, false_and, implies_true, Option.some.injEq, exists_eq_left', nL, nI_add, nI_mul, nI_clamp, nI_ltI, nI_leI, nI_eq, nI_pos, nI_pos', Nat.reduceAdd, Nat.reduceMul, Nat.reducePow, sk_54 hv, sr_54_2 hv, sr_54_3 hv, sr_54_4 hv, sr_54_5 hv, sr_54_7 hv, sr_54_8 hv, sr_54_9 hv, sr_54_12 hv, sr_54_13 hv, sr_54_14 hv, sr_54_22 hv, sr_54_25 hv, sr_54_26 hv, sr_54_27 hv, sr_54_34 hv, sr_54_35 hv, sr_54_36 hv, sr_54_37 hv, sr_54_38 hv, sr_54_40 hv, sr_54_43 hv, sr_54_44 hv, sr_54_45 hv, sr_54_46 hv, sr_54_47 hv, t_tkN X ok o1 (show 159 < 1000 by omega) a, t_fineT X ok, ok.2.1, e15, b']
          exact K τ _ ⟨ok, o1, o2⟩
  | succ k ih =>
    intro i t q τ hi ok K
    have i12 : ¬ i = 12 := by omega
    cases hr : pClause c v F t q with
    | inl e =>
      rw [hr] at ok
      rw [pLawL, hr] at K
      exact endF τ e i ok (fun x1 => K τ x1 ok)
    | inr y =>
      obtain ⟨t1, q1, cl⟩ := y
      rw [hr] at ok
      rw [pLawL, hr] at K
      simp only at K
      obtain ⟨ok, o1, o2⟩ : FI B σ τ t1 q1 ∧ t1 ≤ n ∧ q1 ≤ 50 := ok
      have hv := rd_v X.1 ok.1
      by_cases a : c t1 = 159
      · simp only [if_pos a] at K
        simp (disch := omega) only [e_213_34, e_213_35, e_213_37, e_213_40, c_205, e_205_0, e_205_2, e_205_3, e_205_4, n10, n01, Nat.lt_irrefl, Nat.not_lt_zero, ne_eq, Nat.add_zero, Nat.one_ne_zero, Nat.zero_ne_one, Nat.reduceEqDiff, bI_T, bI_F, bI_0, bI_1, bI_01, not_and_self, true_and, and_true, not_true_eq_false, not_false_eq_true, false_imp_iff, true_imp_iff, imp_self, gPv_n, gPv_i, gPv_r, gPv_0, Option.toList_some, Option.toList_none, List.singleton_append, List.cons_append, List.nil_append, List.length_nil, List.length_cons, Nat.zero_le, Nat.reduceAdd, Nat.reduceLeDiff, or_true, true_or, false_or, or_false, and_self, and_false, false_and, implies_true, Option.some.injEq, exists_eq_left', nL, nI_add, Nat.reduceAdd, sk_54 hv, sr_54_2 hv, sr_54_3 hv, sr_54_4 hv, sr_54_5 hv, sr_54_7 hv, sr_54_8 hv, sr_54_9 hv, sr_54_12 hv, sr_54_13 hv, sr_54_14 hv, sr_54_22 hv, sr_54_25 hv, sr_54_26 hv, sr_54_27 hv, sr_54_34 hv, sr_54_35 hv, sr_54_36 hv, sr_54_37 hv, sr_54_38 hv, sr_54_40 hv, sr_54_43 hv, sr_54_44 hv, sr_54_45 hv, sr_54_46 hv, sr_54_47 hv]
        refine t_tkT X ok (by omega) a ?_
        intro τ2 h2 hn2
        have hv2 := rd_v X.1 h2.1
        simp (disch := omega) only [e_213_43, e_213_46, e_213_47, e_213_49, e_213_56, e_213_57, e_213_60, e_213_63, e_213_64, n10, n01, Nat.lt_irrefl, Nat.not_lt_zero, ne_eq, Nat.add_zero, Nat.one_ne_zero, Nat.zero_ne_one, Nat.reduceEqDiff, bI_T, bI_F, bI_0, bI_1, bI_01, not_and_self, true_and, and_true, not_true_eq_false, not_false_eq_true, false_imp_iff, true_imp_iff, imp_self, gPv_n, gPv_i, gPv_r, gPv_0, Option.toList_some, Option.toList_none, List.singleton_append, List.cons_append, List.nil_append, List.length_nil, List.length_cons, Nat.zero_le, Nat.reduceAdd, Nat.reduceLeDiff, or_true, true_or, false_or, or_false, and_self, and_false, false_and, implies_true, Option.some.injEq, exists_eq_left', nL, nI_add, nI_mul, nI_clamp, nI_ltI, nI_leI, nI_eq, nI_pos, nI_pos', Nat.reduceAdd, Nat.reduceMul, Nat.reducePow, sk_54 hv2, sr_54_2 hv2, sr_54_3 hv2, sr_54_4 hv2, sr_54_5 hv2, sr_54_7 hv2, sr_54_8 hv2, sr_54_9 hv2, sr_54_12 hv2, sr_54_13 hv2, sr_54_14 hv2, sr_54_22 hv2, sr_54_25 hv2, sr_54_26 hv2, sr_54_27 hv2, sr_54_34 hv2, sr_54_35 hv2, sr_54_36 hv2, sr_54_37 hv2, sr_54_38 hv2, sr_54_40 hv2, sr_54_43 hv2, sr_54_44 hv2, sr_54_45 hv2, sr_54_46 hv2, sr_54_47 hv2, t_fineT X h2, i12]
        refine (t_clause (d := d) X hF).1 τ2 (t1 + 1) q1 _ h2 hn2 o2 ?_
        intro τ3 ok3
        simp (disch := omega) only [e_213_67, e_213_70, n10, n01, Nat.lt_irrefl, Nat.not_lt_zero, ne_eq, Nat.add_zero, Nat.one_ne_zero, Nat.zero_ne_one, Nat.reduceEqDiff, bI_T, bI_F, bI_0, bI_1, bI_01, not_and_self, true_and, and_true, not_true_eq_false, not_false_eq_true, false_imp_iff, true_imp_iff, imp_self, gPv_n, gPv_i, gPv_r, gPv_0, Option.toList_some, Option.toList_none, List.singleton_append, List.cons_append, List.nil_append, List.length_nil, List.length_cons, Nat.zero_le, Nat.reduceAdd, Nat.reduceLeDiff, or_true, true_or, false_or, or_false, and_self, and_false, false_and, implies_true, Option.some.injEq, exists_eq_left', nL, nI_add]
        refine ih (i + 1) (t1 + 1) q1 τ3 (by omega) ok3 ?_
        intro τ4 x1 ok4
        refine K τ4 x1 ?_
        cases hr4 : pLawL c v F n (k + 1) (t1 + 1) q1 with
        | inl e => rw [hr4] at ok4; exact ok4
        | inr z =>
          obtain ⟨t4, q4, L⟩ := z
          rw [hr4] at ok4
          exact ok4
      · simp only [if_neg a] at K
        have e15 : gI τ (B + 54) 15 = nI n := by rw [ok.1.2 15 (by omega) (by omega) (by omega)]; exact h15
        have n4 := X.2.1
        by_cases b : t1 < n
        · rw [if_pos b] at K
          have b' : ¬ n ≤ t1 := by omega
          simp (disch := omega) only [e_213_34, e_213_35, e_213_37, e_213_40, e_213_43, e_213_73, e_213_74, e_213_77, e_213_80, e_213_81, e_213_84, e_213_85, e_213_88, e_213_91, e_213_92, c_205, e_205_0, e_205_2, e_205_3, e_205_4, n10, n01, Nat.lt_irrefl, Nat.not_lt_zero, ne_eq, Nat.add_zero, Nat.one_ne_zero, Nat.zero_ne_one, Nat.reduceEqDiff, bI_T, bI_F, bI_0, bI_1, bI_01, not_and_self, true_and, and_true, not_true_eq_false, not_false_eq_true, false_imp_iff, true_imp_iff, imp_self, gPv_n, gPv_i, gPv_r, gPv_0, Option.toList_some, Option.toList_none, List.singleton_append, List.cons_append, List.nil_append, List.length_nil, List.length_cons, Nat.zero_le, Nat.reduceAdd, Nat.reduceLeDiff, or_true, true_or, false_or, or_false, and_self, and_false, false_and, implies_true, Option.some.injEq, exists_eq_left', nL, nI_add, nI_mul, nI_clamp, nI_ltI, nI_leI, nI_eq, nI_pos, nI_pos', Nat.reduceAdd, Nat.reduceMul, Nat.reducePow, sk_54 hv, sr_54_2 hv, sr_54_3 hv, sr_54_4 hv, sr_54_5 hv, sr_54_7 hv, sr_54_8 hv, sr_54_9 hv, sr_54_12 hv, sr_54_13 hv, sr_54_14 hv, sr_54_22 hv, sr_54_25 hv, sr_54_26 hv, sr_54_27 hv, sr_54_34 hv, sr_54_35 hv, sr_54_36 hv, sr_54_37 hv, sr_54_38 hv, sr_54_40 hv, sr_54_43 hv, sr_54_44 hv, sr_54_45 hv, sr_54_46 hv, sr_54_47 hv, t_tkN X ok o1 (show 159 < 1000 by omega) a, t_fineT X ok, ok.2.1, e15, b']
          refine t_fltT X ok o1 ?_
          intro τ2 h2 _
          exact K τ2 _ h2
        · rw [if_neg b] at K
          have b' : n ≤ t1 := by omega
          simp (disch := omega) only [e_213_34, e_213_35, e_213_37, e_213_40, e_213_43, e_213_73, e_213_74, e_213_77, e_213_80, e_213_81, e_213_84, e_213_85, e_213_88, c_205, e_205_0, e_205_2, e_205_3, e_205_4, n10, n01, Nat.lt_irrefl, Nat.not_lt_zero, ne_eq, Nat.add_zero, Nat.one_ne_zero, Nat.zero_ne_one, Nat.reduceEqDiff, bI_T, bI_F, bI_0, bI_1, bI_01, not_and_self, true_and, and_true, not_true_eq_false, not_false_eq_true, false_imp_iff, true_imp_iff, imp_self, gPv_n, gPv_i, gPv_r, gPv_0, Option.toList_some, Option.toList_none, List.singleton_append, List.cons_append, List.nil_append, List.length_nil, List.length_cons, Nat.zero_le, Nat.reduceAdd, Nat.reduceLeDiff, or_true, true_or, false_or, or_false, and_self, and_false, false_and, implies_true, Option.some.injEq, exists_eq_left', nL, nI_add, nI_mul, nI_clamp, nI_ltI, nI_leI, nI_eq, nI_pos, nI_pos', Nat.reduceAdd, Nat.reduceMul, Nat.reducePow, sk_54 hv, sr_54_2 hv, sr_54_3 hv, sr_54_4 hv, sr_54_5 hv, sr_54_7 hv, sr_54_8 hv, sr_54_9 hv, sr_54_12 hv, sr_54_13 hv, sr_54_14 hv, sr_54_22 hv, sr_54_25 hv, sr_54_26 hv, sr_54_27 hv, sr_54_34 hv, sr_54_35 hv, sr_54_36 hv, sr_54_37 hv, sr_54_38 hv, sr_54_40 hv, sr_54_43 hv, sr_54_44 hv, sr_54_45 hv, sr_54_46 hv, sr_54_47 hv, t_tkN X ok o1 (show 159 < 1000 by omega) a, t_fineT X ok, ok.2.1, e15, b']
          exact K τ _ ⟨ok, o1, o2⟩
end
