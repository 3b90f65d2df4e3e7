/-! the class reads a law: clauses -/
section
variable {B q n : Nat} {T : Nat → Nat} {d : Nat} {Q : Option Value → gS → Prop}
def kdC (cl : zC) : Nat := (if cl.1 = true then 1 else 0) + (if cl.2.1 = true then 2 else 0)
/-- behind a clause -/
def Cls (B q n : Nat) (T : Nat → Nat) (τ τ' : gS) (k t z pq t' pq' z' : Nat) (X X' : Nat → Nat) (nd nd' : Bool) (cl : zC) : Prop := Sm (fun a => B + 20 ≤ a ∧ a ≤ B + 23) τ τ' ∧ CS B q n T τ' τ' t' pq' z' X' nd' ∧ CX B q n T τ' ∧ t < t' ∧ z' + t ≤ z + t' ∧ z ≤ z' ∧ pq ≤ pq' ∧ (∀ j, j < z → X' j = X j) ∧ CdC X' z z' cl ∧ (nd = true → nd' = true) ∧ (nd' = true ∨ dyI cl) ∧ gI τ' (B + 22) = up (gI τ (B + 22)) k (nI z') ∧ gI τ' (B + 23) = up (gI τ (B + 23)) k (nI (kdC cl)) ∧ gI τ' (B + 20) 10 = nI (k + 1)
theorem k_clause {F k t pq z : Nat} {X : Nat → Nat} {nd : Bool} {τ : gS} (Y : CX B q n T τ) (hF : n < F) (h : CS B q n T τ τ t pq z X nd) (hz : z ≤ t) (hk : k < 12) (K0 : ∀ τ' e, pClause (cT T q) (vT T q) F t pq = .inl e → CE B q T τ τ' e → Q (some (.int (nI 0))) τ') (K1 : ∀ τ' t' pq' cl z' X' nd', pClause (cT T q) (vT T q) F t pq = .inr (t', pq', cl) → Cls B q n T τ τ' k t z pq t' pq' z' X X' nd nd' cl → Q (some (.int (nI 1))) τ') : wc (d + 46) 50 [.ref (B + 20), .int (nI k)] τ Q := by
  obtain ⟨nq, q4⟩ := CX_n Y
  have hS : CRd B q n T τ (d + 45) 56 [.int (nI 0)] (pSumD (cT T q) (vT T q) F 8) CdS := k_sumD Y hF 8 (d + 4) (by omega)
  have hU : CRd B q n T τ (d + 45) 51 [.int (nI 0)] (pTestD (cT T q) (vT T q) F 8) CdT := k_testD Y hF 8 d (by omega)
  have Z := cr_X Y h.1
  have hv := Z.1
  have w0 : ∀ (d : Nat) (Q : Option Value → gS → Prop), wc (d + 5) 46 [.ref (B + 20), .ref (gT τ 0)] τ Q ↔ Q (some (.int (bI (cT T q t = 1)))) τ := fun d Q => s_isWord Z h.2.1 (k := 0) (by omega)
  have w1 : ∀ (d : Nat) (Q : Option Value → gS → Prop), wc (d + 5) 46 [.ref (B + 20), .ref (gT τ 1)] τ Q ↔ Q (some (.int (bI (cT T q t = 2)))) τ := fun d Q => s_isWord Z h.2.1 (k := 1) (by omega)
  -- the end: the clause is kept
  have keep : ∀ τ2 t2 pq2 cl z2 X2 nd2 kn, pClause (cT T q) (vT T q) F t pq = .inr (t2, pq2, cl) → CS B q n T τ τ2 t2 pq2 z2 X2 nd2 → t < t2 → z2 + t ≤ z + t2 → z ≤ z2 → pq ≤ pq2 → (∀ j, j < z → X2 j = X j) → CdC X2 z z2 cl → (nd = true → nd2 = true) → (nd2 = true ∨ dyI cl) → kn = kdC cl → wp (d + 45) pr_50 Q 73 [some (.ref (B + 20)), some (.int (nI k)), some (.int (nI kn))] [] τ2 := by
    intro τ2 t2 pq2 cl z2 X2 nd2 kn hr hs b1 b2 b3 b4 b5 b6 b7 b8 hkn
    have Z2 := cr_X Y hs.1
    have hv2 := Z2.1
    have k22 := sk_22 hv2
    have k23 := sk_23 hv2
    have z12 : ¬ 12 ≤ k := by omega
    simp (disch := omega) only [e_50_73, e_50_74, e_50_77, e_50_78, e_50_79, e_50_82, e_50_83, e_50_86, e_50_87, e_50_88, e_50_91, e_50_92, e_50_95, e_50_96, e_50_99, e_50_100, e_50_101, e_50_104, e_50_105, e_50_106, e_50_109, e_50_110, e_50_111, e_50_112, e_50_113, e_50_114, e_50_115, e_50_116, e_50_119, e_50_120, n10, n01, Nat.lt_irrefl, Nat.not_lt_zero, ne_eq, Nat.add_zero, Nat.one_ne_zero, Nat.zero_ne_one, Nat.reduceEqDiff, bI_T, bI_F, bI_0, bI_1, bI_01, not_and_self, true_and, and_true, not_true_eq_false, not_false_eq_true, false_imp_iff, true_imp_iff, imp_self, gPv_n, gPv_i, gPv_r, gPv_0, Option.toList_some, Option.toList_none, List.singleton_append, List.cons_append, List.nil_append, List.length_nil, List.length_cons, Nat.zero_le, Nat.reduceAdd, Nat.reduceLeDiff, or_true, true_or, false_or, or_false, and_self, and_false, false_and, implies_true, Option.some.injEq, exists_eq_left', nL, nI_add, nI_mul, nI_clamp, nI_ltI, nI_leI, nI_eq, nI_pos, nI_pos', Nat.reduceAdd, Nat.reduceMul, Nat.reducePow, n_K_I, n_K_J, n_K_R, n_K_r, n_N_I, n_N_J, n_N_R, n_N_r, n_R_I, n_R_J, n_R_r, n_J_I, n_J_R, n_J_r, n_I_J, n_I_R, n_n_I, n_n_J, n_n_R, n_n_r, n_w_I, n_w_J, n_w_R, n_w_r, n_T_I, n_T_J, n_T_R, n_T_r, rI_ne, rI_nk, rI_eq, rr_ne, rr_eq, n_J_J, n_R_R, Nat.add_left_cancel_iff, Nat.add_right_cancel_iff, Nat.add_eq_left, Nat.left_eq_add, Nat.reduceEqDiff, Nat.reduceAdd, Nat.zero_ne_one, Nat.one_ne_zero, false_and, and_false, true_and, and_true, and_self, if_false, if_true, ↓reduceIte, sk_20 hv2, sr_20_0 hv2, sr_20_1 hv2, sr_20_2 hv2, sr_20_3 hv2, sk_22 hv2, sn_22 hv2, sk_23 hv2, sn_23 hv2, nI_of_len, hs.2.2.2.1.1, hk, z12]
    obtain ⟨h1, h2, h3, h4, h5⟩ := hs
    have S2 : Sm (fun a => B + 20 ≤ a ∧ a ≤ B + 23) τ τ2 := Sm_mono h1.1 (fun a ha => by omega)
    have S3 : Sm (fun a => B + 20 ≤ a ∧ a ≤ B + 23) τ (sI (sI (sI τ2 (B + 22) k (nI z2)) (B + 23) k (nI kn)) (B + 20) 10 (nI (k + 1))) := Sm_I (Sm_I (Sm_I S2 ⟨by omega, by omega⟩) ⟨by omega, by omega⟩) ⟨by omega, by omega⟩
    have f20 : ∀ j, j ≠ 10 → gI (sI (sI (sI τ2 (B + 22) k (nI z2)) (B + 23) k (nI kn)) (B + 20) 10 (nI (k + 1))) (B + 20) j = gI τ2 (B + 20) j := fun j hj => by rw [rI_nk hj, rI_ne (by omega), rI_ne (by omega)]
    have f21 : gI (sI (sI (sI τ2 (B + 22) k (nI z2)) (B + 23) k (nI kn)) (B + 20) 10 (nI (k + 1))) (B + 21) = gI τ2 (B + 21) := by rw [rI_ne (by omega), rI_ne (by omega), rI_ne (by omega)]
    refine K1 _ t2 pq2 cl z2 X2 nd2 hr ⟨S3, ⟨⟨Sm_refl _ _, fun _ _ => rfl⟩, ?_, h3, ?_, ?_⟩, ⟨TxC_S Y.1 S3 (by omega) (by rw [f20 4 (by omega)]; exact h1.2 4 (by omega)), Y.2⟩, b1, b2, b3, b4, b5, b6, b7, b8, ?_, ?_, by rw [rI_eq]⟩
    · exact ⟨by rw [f20 5 (by omega)]; exact h2.1, by rw [f20 6 (by omega)]; exact h2.2.1, by rw [f20 7 (by omega)]; exact h2.2.2⟩
    · rw [f20 8 (by omega), f20 9 (by omega), f20 11 (by omega)]; exact h4
    · rw [f21]; exact h5
    · rw [rI_ne (by omega), rI_ne (by omega), rI_up, h1.1.2.2.2.2.2.2.1 _ (by omega)]
    · rw [rI_ne (by omega), rI_up, rI_ne (by omega), h1.1.2.2.2.2.2.2.1 _ (by omega), hkn]
  -- behind the head
  have tail : ∀ τ1 t1 pq1 f z1 X1 nd1 kn, (kn = 0 ∨ kn = 1) → decide (cT T q t = 1) = decide (kn = 1) → pHead (cT T q) (vT T q) F t pq = .inr (t1, pq1, f) → CS B q n T τ τ1 t1 pq1 z1 X1 nd1 → t < t1 → z1 + t ≤ z + t1 → z ≤ z1 → pq ≤ pq1 → (∀ j, j < z → X1 j = X j) → (kn = 1 → CdS X1 z z1 (pq1 - pq) f) → (kn = 0 → z1 = z ∧ f = fun _ => some 0) → (nd = true → nd1 = true) → (nd1 = true ∨ dyF f) → wp (d + 45) pr_50 Q 46 [some (.ref (B + 20)), some (.int (nI k)), some (.int (nI kn))] [] τ1 := by
    intro τ1 t1 pq1 f z1 X1 nd1 kn hkn hdk hh hs b1 b2 b3 b4 b5 b6 b7 b8 b9
    have Z1 := cr_X Y hs.1
    have hv1 := Z1.1
    have hp1 := hs.2.2.1.2
    have tn1 := hs.2.2.1.1
    have w11 : ∀ (d : Nat) (Q : Option Value → gS → Prop), wc (d + 5) 46 [.ref (B + 20), .ref (gT τ1 11)] τ1 Q ↔ Q (some (.int (bI (cT T q t1 = 3)))) τ1 := fun d Q => s_isWord Z1 hs.2.1 (k := 11) (by omega)
    by_cases a3 : cT T q t1 = 3
    · have tn : t1 < n := CX_c Y (by omega)
      have or2 : nI kn ||| nI 2 = nI (kn + 2) := by rcases hkn with rfl | rfl <;> rfl
      simp (disch := omega) only [e_50_46, e_50_47, e_50_49, e_50_52, e_50_55, e_50_56, e_50_57, e_50_58, e_50_59, e_50_60, n10, n01, Nat.lt_irrefl, Nat.not_lt_zero, ne_eq, Nat.add_zero, Nat.one_ne_zero, Nat.zero_ne_one, Nat.reduceEqDiff, bI_T, bI_F, bI_0, bI_1, bI_01, not_and_self, true_and, and_true, not_true_eq_false, not_false_eq_true, false_imp_iff, true_imp_iff, imp_self, gPv_n, gPv_i, gPv_r, gPv_0, Option.toList_some, Option.toList_none, List.singleton_append, List.cons_append, List.nil_append, List.length_nil, List.length_cons, Nat.zero_le, Nat.reduceAdd, Nat.reduceLeDiff, or_true, true_or, false_or, or_false, and_self, and_false, false_and, implies_true, Option.some.injEq, exists_eq_left', nL, nI_add, nI_mul, nI_clamp, nI_ltI, nI_leI, nI_eq, nI_pos, nI_pos', Nat.reduceAdd, Nat.reduceMul, Nat.reducePow, sk_20 hv1, sr_20_0 hv1, sr_20_1 hv1, sr_20_2 hv1, sr_20_3 hv1, w11, a3, or2]
      refine k_go (d := d + 43) Y hs tn ?_
      intro τ2 h2
      have hv2 := (cr_X Y h2.1).1
      simp (disch := omega) only [e_50_63, e_50_64, e_50_65, n10, n01, Nat.lt_irrefl, Nat.not_lt_zero, ne_eq, Nat.add_zero, Nat.one_ne_zero, Nat.zero_ne_one, Nat.reduceEqDiff, bI_T, bI_F, bI_0, bI_1, bI_01, not_and_self, true_and, and_true, not_true_eq_false, not_false_eq_true, false_imp_iff, true_imp_iff, imp_self, gPv_n, gPv_i, gPv_r, gPv_0, Option.toList_some, Option.toList_none, List.singleton_append, List.cons_append, List.nil_append, List.length_nil, List.length_cons, Nat.zero_le, Nat.reduceAdd, Nat.reduceLeDiff, or_true, true_or, false_or, or_false, and_self, and_false, false_and, implies_true, Option.some.injEq, exists_eq_left', nL, nI_add, nI_mul, nI_clamp, nI_ltI, nI_leI, nI_eq, nI_pos, nI_pos', Nat.reduceAdd, Nat.reduceMul, Nat.reducePow, sk_20 hv2, sr_20_0 hv2, sr_20_1 hv2, sr_20_2 hv2, sr_20_3 hv2]
      refine hU τ2 (t1 + 1) pq1 z1 X1 nd1 _ h2 (by omega) ?_ ?_
      · intro τ3 e hr he
        have : pClause (cT T q) (vT T q) F t pq = .inl e := by rw [pClause, hh]; simp only [if_pos a3, hr]
        simp (disch := omega) only [e_50_68, e_50_71, e_50_72, n10, n01, Nat.lt_irrefl, Nat.not_lt_zero, ne_eq, Nat.add_zero, Nat.one_ne_zero, Nat.zero_ne_one, Nat.reduceEqDiff, bI_T, bI_F, bI_0, bI_1, bI_01, not_and_self, true_and, and_true, not_true_eq_false, not_false_eq_true, false_imp_iff, true_imp_iff, imp_self, gPv_n, gPv_i, gPv_r, gPv_0, Option.toList_some, Option.toList_none, List.singleton_append, List.cons_append, List.nil_append, List.length_nil, List.length_cons, Nat.zero_le, Nat.reduceAdd, Nat.reduceLeDiff, or_true, true_or, false_or, or_false, and_self, and_false, false_and, implies_true, Option.some.injEq, exists_eq_left', nL, nI_add, nI_mul, nI_clamp, nI_ltI, nI_leI, nI_eq, nI_pos, nI_pos', Nat.reduceAdd, Nat.reduceMul, Nat.reducePow]
        exact K0 τ3 e this he
      · intro τ3 t3 pq3 g z3 X3 nd3 hr hs3 c1 c2 c3 c4 c5 c6 c7
        have hcl : pClause (cT T q) (vT T q) F t pq = .inr (t3, pq3, decide (cT T q t = 1), true, f, g) := by rw [pClause, hh]; simp only [if_pos a3, hr]
        have zz := c5.1.1
        have tn3 := hs3.2.2.1.1
        have hp3 := hs3.2.2.1.2
        simp (disch := omega) only [e_50_68, n10, n01, Nat.lt_irrefl, Nat.not_lt_zero, ne_eq, Nat.add_zero, Nat.one_ne_zero, Nat.zero_ne_one, Nat.reduceEqDiff, bI_T, bI_F, bI_0, bI_1, bI_01, not_and_self, true_and, and_true, not_true_eq_false, not_false_eq_true, false_imp_iff, true_imp_iff, imp_self, gPv_n, gPv_i, gPv_r, gPv_0, Option.toList_some, Option.toList_none, List.singleton_append, List.cons_append, List.nil_append, List.length_nil, List.length_cons, Nat.zero_le, Nat.reduceAdd, Nat.reduceLeDiff, or_true, true_or, false_or, or_false, and_self, and_false, false_and, implies_true, Option.some.injEq, exists_eq_left', nL, nI_add, nI_mul, nI_clamp, nI_ltI, nI_leI, nI_eq, nI_pos, nI_pos', Nat.reduceAdd, Nat.reduceMul, Nat.reducePow]
        refine keep τ3 t3 pq3 _ z3 X3 nd3 (kn + 2) hcl hs3 (by omega) (by omega) (by omega) (by omega) (fun j hj => (c4 j (by omega)).trans (b5 j hj)) ?_ (fun y => c6 (b8 y)) ?_ ?_
        · rw [hdk]
          rcases hkn with rfl | rfl
          · obtain ⟨e1, e2⟩ := b7 rfl
            rw [e2]
            subst e1
            exact Cl_bi c5 (by omega) (by omega)
          · exact Cl_ti (CdS_c (b6 rfl) (fun j j1 j2 => c4 j (by omega))) c5 (by omega) (by omega)
        · rcases b9 with y | y
          · exact Or.inl (c6 y)
          · rcases c7 with y2 | y2
            · exact Or.inl y2
            · exact Or.inr (fun W W' hW => ⟨y W W' hW, y2 W W' hW⟩)
        · rw [kdC, hdk]
          rcases hkn with rfl | rfl <;> rfl
    · have hcl : pClause (cT T q) (vT T q) F t pq = .inr (t1, pq1, decide (cT T q t = 1), false, f, fun _ => some true) := by rw [pClause, hh]; simp only [if_neg a3]
      simp (disch := omega) only [e_50_46, e_50_47, e_50_49, e_50_52, n10, n01, Nat.lt_irrefl, Nat.not_lt_zero, ne_eq, Nat.add_zero, Nat.one_ne_zero, Nat.zero_ne_one, Nat.reduceEqDiff, bI_T, bI_F, bI_0, bI_1, bI_01, not_and_self, true_and, and_true, not_true_eq_false, not_false_eq_true, false_imp_iff, true_imp_iff, imp_self, gPv_n, gPv_i, gPv_r, gPv_0, Option.toList_some, Option.toList_none, List.singleton_append, List.cons_append, List.nil_append, List.length_nil, List.length_cons, Nat.zero_le, Nat.reduceAdd, Nat.reduceLeDiff, or_true, true_or, false_or, or_false, and_self, and_false, false_and, implies_true, Option.some.injEq, exists_eq_left', nL, nI_add, nI_mul, nI_clamp, nI_ltI, nI_leI, nI_eq, nI_pos, nI_pos', Nat.reduceAdd, Nat.reduceMul, Nat.reducePow, sk_20 hv1, sr_20_0 hv1, sr_20_1 hv1, sr_20_2 hv1, sr_20_3 hv1, w11, a3]
      refine keep τ1 t1 pq1 _ z1 X1 nd1 kn hcl hs b1 b2 b3 b4 b5 ?_ b8 ?_ ?_
      · rw [hdk]
        rcases hkn with rfl | rfl
        · obtain ⟨e1, e2⟩ := b7 rfl
          rw [e2, e1]
          exact Cl_b
        · exact Cl_t (b6 rfl) (by omega) (by omega)
      · rcases b9 with y | y
        · exact Or.inl y
        · exact Or.inr (fun W W' hW => ⟨y W W' hW, rfl⟩)
      · rw [kdC, hdk]
        rcases hkn with rfl | rfl <;> rfl
  by_cases a1 : cT T q t = 1
  · have tn : t < n := CX_c Y (by omega)
    have hh : pHead (cT T q) (vT T q) F t pq = pSumD (cT T q) (vT T q) F 8 (t + 1) pq := by rw [pHead, if_pos a1]
    simp (disch := omega) only [c_50, e_50_0, e_50_1, e_50_2, e_50_3, e_50_5, e_50_8, e_50_11, e_50_12, e_50_13, e_50_27, e_50_28, n10, n01, Nat.lt_irrefl, Nat.not_lt_zero, ne_eq, Nat.add_zero, Nat.one_ne_zero, Nat.zero_ne_one, Nat.reduceEqDiff, bI_T, bI_F, bI_0, bI_1, bI_01, not_and_self, true_and, and_true, not_true_eq_false, not_false_eq_true, false_imp_iff, true_imp_iff, imp_self, gPv_n, gPv_i, gPv_r, gPv_0, Option.toList_some, Option.toList_none, List.singleton_append, List.cons_append, List.nil_append, List.length_nil, List.length_cons, Nat.zero_le, Nat.reduceAdd, Nat.reduceLeDiff, or_true, true_or, false_or, or_false, and_self, and_false, false_and, implies_true, Option.some.injEq, exists_eq_left', nL, nI_add, nI_mul, nI_clamp, nI_ltI, nI_leI, nI_eq, nI_pos, nI_pos', Nat.reduceAdd, Nat.reduceMul, Nat.reducePow, sk_20 hv, sr_20_0 hv, sr_20_1 hv, sr_20_2 hv, sr_20_3 hv, w0, a1]
    refine k_go (d := d + 43) Y h tn ?_
    intro τ1 h1
    have hv1 := (cr_X Y h1.1).1
    simp (disch := omega) only [e_50_31, e_50_32, e_50_33, e_50_36, e_50_37, e_50_38, n10, n01, Nat.lt_irrefl, Nat.not_lt_zero, ne_eq, Nat.add_zero, Nat.one_ne_zero, Nat.zero_ne_one, Nat.reduceEqDiff, bI_T, bI_F, bI_0, bI_1, bI_01, not_and_self, true_and, and_true, not_true_eq_false, not_false_eq_true, false_imp_iff, true_imp_iff, imp_self, gPv_n, gPv_i, gPv_r, gPv_0, Option.toList_some, Option.toList_none, List.singleton_append, List.cons_append, List.nil_append, List.length_nil, List.length_cons, Nat.zero_le, Nat.reduceAdd, Nat.reduceLeDiff, or_true, true_or, false_or, or_false, and_self, and_false, false_and, implies_true, Option.some.injEq, exists_eq_left', nL, nI_add, nI_mul, nI_clamp, nI_ltI, nI_leI, nI_eq, nI_pos, nI_pos', Nat.reduceAdd, Nat.reduceMul, Nat.reducePow, sk_20 hv1, sr_20_0 hv1, sr_20_1 hv1, sr_20_2 hv1, sr_20_3 hv1]
    refine hS τ1 (t + 1) pq z X nd _ h1 (by omega) ?_ ?_
    · intro τ2 e hr he
      have : pClause (cT T q) (vT T q) F t pq = .inl e := by rw [pClause, hh, hr]
      simp (disch := omega) only [e_50_41, e_50_44, e_50_45, n10, n01, Nat.lt_irrefl, Nat.not_lt_zero, ne_eq, Nat.add_zero, Nat.one_ne_zero, Nat.zero_ne_one, Nat.reduceEqDiff, bI_T, bI_F, bI_0, bI_1, bI_01, not_and_self, true_and, and_true, not_true_eq_false, not_false_eq_true, false_imp_iff, true_imp_iff, imp_self, gPv_n, gPv_i, gPv_r, gPv_0, Option.toList_some, Option.toList_none, List.singleton_append, List.cons_append, List.nil_append, List.length_nil, List.length_cons, Nat.zero_le, Nat.reduceAdd, Nat.reduceLeDiff, or_true, true_or, false_or, or_false, and_self, and_false, false_and, implies_true, Option.some.injEq, exists_eq_left', nL, nI_add, nI_mul, nI_clamp, nI_ltI, nI_leI, nI_eq, nI_pos, nI_pos', Nat.reduceAdd, Nat.reduceMul, Nat.reducePow]
      exact K0 τ2 e this he
    · intro τ2 t2 pq2 f z2 X2 nd2 hr hs2 b1 b2 b3 b4 b5 b6 b7
      have zz := b5.1.1
      simp (disch := omega) only [e_50_41, n10, n01, Nat.lt_irrefl, Nat.not_lt_zero, ne_eq, Nat.add_zero, Nat.one_ne_zero, Nat.zero_ne_one, Nat.reduceEqDiff, bI_T, bI_F, bI_0, bI_1, bI_01, not_and_self, true_and, and_true, not_true_eq_false, not_false_eq_true, false_imp_iff, true_imp_iff, imp_self, gPv_n, gPv_i, gPv_r, gPv_0, Option.toList_some, Option.toList_none, List.singleton_append, List.cons_append, List.nil_append, List.length_nil, List.length_cons, Nat.zero_le, Nat.reduceAdd, Nat.reduceLeDiff, or_true, true_or, false_or, or_false, and_self, and_false, false_and, implies_true, Option.some.injEq, exists_eq_left', nL, nI_add, nI_mul, nI_clamp, nI_ltI, nI_leI, nI_eq, nI_pos, nI_pos', Nat.reduceAdd, Nat.reduceMul, Nat.reducePow]
      exact tail τ2 t2 pq2 f z2 X2 nd2 1 (Or.inr rfl) (by rw [a1]) (hh.trans hr) hs2 (by omega) (by omega) (by omega) (by omega) b4 (fun _ => b5) (fun w => absurd w (by omega)) b6 b7
  · by_cases a2 : cT T q t = 2
    · have tn : t < n := CX_c Y (by omega)
      have hh : pHead (cT T q) (vT T q) F t pq = .inr (t + 1, pq, fun _ => some 0) := by rw [pHead, if_neg a1, if_pos a2]
      simp (disch := omega) only [c_50, e_50_0, e_50_1, e_50_2, e_50_3, e_50_5, e_50_8, e_50_16, e_50_17, e_50_19, e_50_22, e_50_27, e_50_28, n10, n01, Nat.lt_irrefl, Nat.not_lt_zero, ne_eq, Nat.add_zero, Nat.one_ne_zero, Nat.zero_ne_one, Nat.reduceEqDiff, bI_T, bI_F, bI_0, bI_1, bI_01, not_and_self, true_and, and_true, not_true_eq_false, not_false_eq_true, false_imp_iff, true_imp_iff, imp_self, gPv_n, gPv_i, gPv_r, gPv_0, Option.toList_some, Option.toList_none, List.singleton_append, List.cons_append, List.nil_append, List.length_nil, List.length_cons, Nat.zero_le, Nat.reduceAdd, Nat.reduceLeDiff, or_true, true_or, false_or, or_false, and_self, and_false, false_and, implies_true, Option.some.injEq, exists_eq_left', nL, nI_add, nI_mul, nI_clamp, nI_ltI, nI_leI, nI_eq, nI_pos, nI_pos', Nat.reduceAdd, Nat.reduceMul, Nat.reducePow, sk_20 hv, sr_20_0 hv, sr_20_1 hv, sr_20_2 hv, sr_20_3 hv, w0, w1, a1, a2, Nat.reduceEqDiff]
      refine k_go (d := d + 43) Y h tn ?_
      intro τ1 h1
      have n01' : ¬ (0 : Nat) = 1 := by decide
      simp (disch := omega) only [e_50_31, e_50_32, e_50_33, n10, n01, Nat.lt_irrefl, Nat.not_lt_zero, ne_eq, Nat.add_zero, Nat.one_ne_zero, Nat.zero_ne_one, Nat.reduceEqDiff, bI_T, bI_F, bI_0, bI_1, bI_01, not_and_self, true_and, and_true, not_true_eq_false, not_false_eq_true, false_imp_iff, true_imp_iff, imp_self, gPv_n, gPv_i, gPv_r, gPv_0, Option.toList_some, Option.toList_none, List.singleton_append, List.cons_append, List.nil_append, List.length_nil, List.length_cons, Nat.zero_le, Nat.reduceAdd, Nat.reduceLeDiff, or_true, true_or, false_or, or_false, and_self, and_false, false_and, implies_true, Option.some.injEq, exists_eq_left', nL, nI_add, nI_mul, nI_clamp, nI_ltI, nI_leI, nI_eq, nI_pos, nI_pos', Nat.reduceAdd, Nat.reduceMul, Nat.reducePow, n01']
      exact tail τ1 (t + 1) pq _ z X nd 0 (Or.inl rfl) (by rw [a2]; rfl) hh h1 (by omega) (by omega) (Nat.le_refl _) (Nat.le_refl _) (fun _ _ => rfl) (fun w => absurd w (by omega)) (fun _ => ⟨rfl, rfl⟩) (fun y => y) (Or.inr (fun _ _ _ => rfl))
    · have : pClause (cT T q) (vT T q) F t pq = .inl t := by rw [pClause, pHead, if_neg a1, if_neg a2]
      simp (disch := omega) only [c_50, e_50_0, e_50_1, e_50_2, e_50_3, e_50_5, e_50_8, e_50_16, e_50_17, e_50_19, e_50_22, e_50_25, e_50_26, n10, n01, Nat.lt_irrefl, Nat.not_lt_zero, ne_eq, Nat.add_zero, Nat.one_ne_zero, Nat.zero_ne_one, Nat.reduceEqDiff, bI_T, bI_F, bI_0, bI_1, bI_01, not_and_self, true_and, and_true, not_true_eq_false, not_false_eq_true, false_imp_iff, true_imp_iff, imp_self, gPv_n, gPv_i, gPv_r, gPv_0, Option.toList_some, Option.toList_none, List.singleton_append, List.cons_append, List.nil_append, List.length_nil, List.length_cons, Nat.zero_le, Nat.reduceAdd, Nat.reduceLeDiff, or_true, true_or, false_or, or_false, and_self, and_false, false_and, implies_true, Option.some.injEq, exists_eq_left', nL, nI_add, nI_mul, nI_clamp, nI_ltI, nI_leI, nI_eq, nI_pos, nI_pos', Nat.reduceAdd, Nat.reduceMul, Nat.reducePow, sk_20 hv, sr_20_0 hv, sr_20_1 hv, sr_20_2 hv, sr_20_3 hv, w0, w1, a1, a2]
      exact K0 τ t this (CS_E h)
end
