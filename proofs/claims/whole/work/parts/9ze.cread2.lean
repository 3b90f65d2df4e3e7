/-! the class reads a law: sums -/
theorem dy_op {k : Nat} {f g : zS} (hf : dyF f) (hg : dyF g) : dyF (dOp k f g) := by
  intro W W' h
  simp only [dOp, hf W W' h, hg W W' h]
section
variable {B q n : Nat} {σ : gS} {T : Nat → Nat} {d : Nat} {Q : Option Value → gS → Prop}
theorem k_inner0 {D : Nat} (Y : CX B q n T σ) : CRd B q n T σ (D + 7) 58 [.int (nI 8)] (pPart (cT T q) (vT T q) (fun t _ => .inl t) false) CdS := by
  refine k_part (D := D) Y ?_
  intro _ τ t pq z X nd Q h hz a1 K0 K1
  rw [pPart, if_pos a1, if_neg (by decide)] at K0
  simp (disch := omega) only [c_59, e_59_0, e_59_1, e_59_3, e_59_6, e_59_7, n10, n01, Nat.lt_irrefl, Nat.not_lt_zero, ne_eq, Nat.add_zero, Nat.one_ne_zero, Nat.zero_ne_one, Nat.reduceEqDiff, bI_T, bI_F, bI_0, bI_1, bI_01, not_and_self, true_and, and_true, not_true_eq_false, not_false_eq_true, false_imp_iff, true_imp_iff, imp_self, gPv_n, gPv_i, gPv_r, gPv_0, Option.toList_some, Option.toList_none, List.singleton_append, List.cons_append, List.nil_append, List.length_nil, List.length_cons, Nat.zero_le, Nat.reduceAdd, Nat.reduceLeDiff, or_true, true_or, false_or, or_false, and_self, and_false, false_and, implies_true, Option.some.injEq, exists_eq_left', nL, nI_add, nI_mul, nI_clamp, nI_ltI, nI_leI, nI_eq, nI_pos, nI_pos', Nat.reduceAdd, Nat.reduceMul, Nat.reducePow, Nat.lt_irrefl]
  exact K0 τ t rfl (CS_E h)
theorem k_innerS {D dp : Nat} {S : Nat → Nat → zR zS} (Y : CX B q n T σ) (hdp : dp < 8) (hS : CRd B q n T σ (D + 5) 56 [.int (nI (dp + 1))] S CdS) : CRd B q n T σ (D + 7) 58 [.int (nI dp)] (pPart (cT T q) (vT T q) S true) CdS := by
  refine k_part (D := D) Y ?_
  intro _ τ t pq z X nd Q h hz a1 K0 K1
  rw [pPart, if_pos a1, if_pos rfl] at K0 K1
  have tn : t < n := CX_c Y (by omega)
  have hv := (cr_X Y h.1).1
  simp (disch := omega) only [c_59, e_59_0, e_59_1, e_59_3, e_59_8, e_59_9, n10, n01, Nat.lt_irrefl, Nat.not_lt_zero, ne_eq, Nat.add_zero, Nat.one_ne_zero, Nat.zero_ne_one, Nat.reduceEqDiff, bI_T, bI_F, bI_0, bI_1, bI_01, not_and_self, true_and, and_true, not_true_eq_false, not_false_eq_true, false_imp_iff, true_imp_iff, imp_self, gPv_n, gPv_i, gPv_r, gPv_0, Option.toList_some, Option.toList_none, List.singleton_append, List.cons_append, List.nil_append, List.length_nil, List.length_cons, Nat.zero_le, Nat.reduceAdd, Nat.reduceLeDiff, or_true, true_or, false_or, or_false, and_self, and_false, false_and, implies_true, Option.some.injEq, exists_eq_left', nL, nI_add, nI_mul, nI_clamp, nI_ltI, nI_leI, nI_eq, nI_pos, nI_pos', Nat.reduceAdd, Nat.reduceMul, Nat.reducePow, sk_20 hv, sr_20_0 hv, sr_20_1 hv, sr_20_2 hv, sr_20_3 hv, hdp]
  refine k_go (d := D + 3) Y h tn ?_
  intro τ1 h1
  have hv1 := (cr_X Y h1.1).1
  simp (disch := omega) only [e_59_12, e_59_13, e_59_14, e_59_15, e_59_16, n10, n01, Nat.lt_irrefl, Nat.not_lt_zero, ne_eq, Nat.add_zero, Nat.one_ne_zero, Nat.zero_ne_one, Nat.reduceEqDiff, bI_T, bI_F, bI_0, bI_1, bI_01, not_and_self, true_and, and_true, not_true_eq_false, not_false_eq_true, false_imp_iff, true_imp_iff, imp_self, gPv_n, gPv_i, gPv_r, gPv_0, Option.toList_some, Option.toList_none, List.singleton_append, List.cons_append, List.nil_append, List.length_nil, List.length_cons, Nat.zero_le, Nat.reduceAdd, Nat.reduceLeDiff, or_true, true_or, false_or, or_false, and_self, and_false, false_and, implies_true, Option.some.injEq, exists_eq_left', nL, nI_add, sk_20 hv1, sr_20_0 hv1, sr_20_1 hv1, sr_20_2 hv1, sr_20_3 hv1]
  refine hS τ1 (t + 1) pq z X nd _ h1 (by omega) ?_ ?_
  · intro τ2 e hr he
    rw [hr] at K0
    simp (disch := omega) only [e_59_19, e_59_31, e_59_32, n10, n01, Nat.lt_irrefl, Nat.not_lt_zero, ne_eq, Nat.add_zero, Nat.one_ne_zero, Nat.zero_ne_one, Nat.reduceEqDiff, bI_T, bI_F, bI_0, bI_1, bI_01, not_and_self, true_and, and_true, not_true_eq_false, not_false_eq_true, false_imp_iff, true_imp_iff, imp_self, gPv_n, gPv_i, gPv_r, gPv_0, Option.toList_some, Option.toList_none, List.singleton_append, List.cons_append, List.nil_append, List.length_nil, List.length_cons, Nat.zero_le, Nat.reduceAdd, Nat.reduceLeDiff, or_true, true_or, false_or, or_false, and_self, and_false, false_and, implies_true, Option.some.injEq, exists_eq_left', nL, nI_add, nI_mul, nI_clamp, nI_ltI, nI_leI, nI_eq, nI_pos, nI_pos', Nat.reduceAdd, Nat.reduceMul, Nat.reducePow]
    exact K0 τ2 e rfl he
  · intro τ2 t' pq' f z' X' nd' hr hs b1 b2 b3 b4 b5 b6 b7
    rw [hr] at K0 K1
    simp only at K0 K1
    have Z2 := cr_X Y hs.1
    have hv2 := Z2.1
    have sg : ∀ (d : Nat) (Q : Option Value → gS → Prop), wc (d + 1) 47 [.ref (B + 20), .int (nI 93)] τ2 Q ↔ Q (some (.int (bI (cT T q t' = 193)))) τ2 := fun d Q => s_isSign Z2 hs.2.1 (by omega) rfl
    by_cases a2 : cT T q t' = 193
    · rw [if_pos a2] at K1
      have tn' : t' < n := CX_c Y (by omega)
      simp (disch := omega) only [e_59_19, e_59_22, e_59_23, e_59_25, e_59_28, e_59_33, e_59_34, n10, n01, Nat.lt_irrefl, Nat.not_lt_zero, ne_eq, Nat.add_zero, Nat.one_ne_zero, Nat.zero_ne_one, Nat.reduceEqDiff, bI_T, bI_F, bI_0, bI_1, bI_01, not_and_self, true_and, and_true, not_true_eq_false, not_false_eq_true, false_imp_iff, true_imp_iff, imp_self, gPv_n, gPv_i, gPv_r, gPv_0, Option.toList_some, Option.toList_none, List.singleton_append, List.cons_append, List.nil_append, List.length_nil, List.length_cons, Nat.zero_le, Nat.reduceAdd, Nat.reduceLeDiff, or_true, true_or, false_or, or_false, and_self, and_false, false_and, implies_true, Option.some.injEq, exists_eq_left', nL, nI_add, nI_mul, nI_clamp, nI_ltI, nI_leI, nI_eq, nI_pos, nI_pos', Nat.reduceAdd, Nat.reduceMul, Nat.reducePow, sk_20 hv2, sr_20_0 hv2, sr_20_1 hv2, sr_20_2 hv2, sr_20_3 hv2, sg, a2]
      refine k_go (d := D + 3) Y hs tn' ?_
      intro τ3 h3
      simp (disch := omega) only [e_59_37, e_59_38, n10, n01, Nat.lt_irrefl, Nat.not_lt_zero, ne_eq, Nat.add_zero, Nat.one_ne_zero, Nat.zero_ne_one, Nat.reduceEqDiff, bI_T, bI_F, bI_0, bI_1, bI_01, not_and_self, true_and, and_true, not_true_eq_false, not_false_eq_true, false_imp_iff, true_imp_iff, imp_self, gPv_n, gPv_i, gPv_r, gPv_0, Option.toList_some, Option.toList_none, List.singleton_append, List.cons_append, List.nil_append, List.length_nil, List.length_cons, Nat.zero_le, Nat.reduceAdd, Nat.reduceLeDiff, or_true, true_or, false_or, or_false, and_self, and_false, false_and, implies_true, Option.some.injEq, exists_eq_left', nL, nI_add, nI_mul, nI_clamp, nI_ltI, nI_leI, nI_eq, nI_pos, nI_pos', Nat.reduceAdd, Nat.reduceMul, Nat.reducePow]
      exact K1 τ3 (t' + 1) pq' f z' X' nd' rfl h3 (by omega) (by omega) b3 b4 b5 b6 b7
    · rw [if_neg a2] at K0
      simp (disch := omega) only [e_59_19, e_59_22, e_59_23, e_59_25, e_59_28, e_59_31, e_59_32, n10, n01, Nat.lt_irrefl, Nat.not_lt_zero, ne_eq, Nat.add_zero, Nat.one_ne_zero, Nat.zero_ne_one, Nat.reduceEqDiff, bI_T, bI_F, bI_0, bI_1, bI_01, not_and_self, true_and, and_true, not_true_eq_false, not_false_eq_true, false_imp_iff, true_imp_iff, imp_self, gPv_n, gPv_i, gPv_r, gPv_0, Option.toList_some, Option.toList_none, List.singleton_append, List.cons_append, List.nil_append, List.length_nil, List.length_cons, Nat.zero_le, Nat.reduceAdd, Nat.reduceLeDiff, or_true, true_or, false_or, or_false, and_self, and_false, false_and, implies_true, Option.some.injEq, exists_eq_left', nL, nI_add, nI_mul, nI_clamp, nI_ltI, nI_leI, nI_eq, nI_pos, nI_pos', Nat.reduceAdd, Nat.reduceMul, Nat.reducePow, sk_20 hv2, sr_20_0 hv2, sr_20_1 hv2, sr_20_2 hv2, sr_20_3 hv2, sg, a2]
      exact K0 τ2 t' rfl (CS_E hs)
theorem k_lp57 {D dp t0 pq0 z0 : Nat} {nd0 : Bool} {X0 : Nat → Nat} {R : Nat → Nat → zR zS} (Y : CX B q n T σ) (hR : CRd B q n T σ (D + 3) 58 [.int (nI dp)] R CdS) (hz0 : z0 ≤ t0) : ∀ F t pq z X nd f i τ x3, CS B q n T σ τ t pq z X nd → i ≤ t → n < t + F → t0 < t → z + t0 ≤ z0 + t → pq0 < pq → (∀ j, j < z0 → X j = X0 j) → CdS X z0 z (pq - pq0) f → (nd0 = true → nd = true) → (nd = true ∨ dyF f) → (∀ τ' e, pLoop (cT T q) 142 147 R cbT F t pq f = .inl e → CE B q T σ τ' e → Q (some (.int (nI 0))) τ') → (∀ τ' t' pq' f' z' X' nd', pLoop (cT T q) 142 147 R cbT F t pq f = .inr (t', pq', f') → CS B q n T σ τ' t' pq' z' X' nd' → t0 < t' → z' + t0 ≤ z0 + t' → pq0 < pq' → (∀ j, j < z0 → X' j = X0 j) → CdS X' z0 z' (pq' - pq0) f' → (nd0 = true → nd' = true) → (nd' = true ∨ dyF f') → Q (some (.int (nI 1))) τ') → wp (D + 3) pr_57 Q 12 [some (.ref (B + 20)), some (.int (nI dp)), some (.int (nI i)), x3] [] τ := by
  obtain ⟨nq, q4⟩ := CX_n Y
  intro F
  induction F with
  | zero =>
    intro t pq z X nd f i τ x3 h _ hF
    have := h.2.2.1.1
    omega
  | succ F ih =>
    intro t pq z X nd f i τ x3 h hi hF c1 c2 c3 c4 c5 c6 c7 K0 K1
    have Z := cr_X Y h.1
    have hv := Z.1
    have h4 := Z.2.2.2.2
    have tn0 := h.2.2.1.1
    have z0z := c5.1.1
    have sg1 : ∀ (d : Nat) (Q : Option Value → gS → Prop), wc (d + 1) 47 [.ref (B + 20), .int (nI 42)] τ Q ↔ Q (some (.int (bI (cT T q t = 142)))) τ := fun d Q => s_isSign Z h.2.1 (by omega) rfl
    have sg2 : ∀ (d : Nat) (Q : Option Value → gS → Prop), wc (d + 1) 47 [.ref (B + 20), .int (nI 47)] τ Q ↔ Q (some (.int (bI (cT T q t = 147)))) τ := fun d Q => s_isSign Z h.2.1 (by omega) rfl
    rw [pLoop] at K0 K1
    have body : ∀ kk, (cT T q t = 142 ∨ cT T q t = 147) → kk ≤ 5 → 2 ≤ kk → (cbT (cT T q t) = dOp (kk - 2)) → wp (D + 3) pr_57 Q 53 [some (.ref (B + 20)), some (.int (nI dp)), some (.int (nI i)), some (.int (nI kk))] [] τ := by
      intro kk hc hk5 hk2 hcb
      rw [if_pos hc] at K0 K1
      have tn : t < n := CX_c Y (by omega)
      simp (disch := omega) only [e_57_53, e_57_54, n10, n01, Nat.lt_irrefl, Nat.not_lt_zero, ne_eq, Nat.add_zero, Nat.one_ne_zero, Nat.zero_ne_one, Nat.reduceEqDiff, bI_T, bI_F, bI_0, bI_1, bI_01, not_and_self, true_and, and_true, not_true_eq_false, not_false_eq_true, false_imp_iff, true_imp_iff, imp_self, gPv_n, gPv_i, gPv_r, gPv_0, Option.toList_some, Option.toList_none, List.singleton_append, List.cons_append, List.nil_append, List.length_nil, List.length_cons, Nat.zero_le, Nat.reduceAdd, Nat.reduceLeDiff, or_true, true_or, false_or, or_false, and_self, and_false, false_and, implies_true, Option.some.injEq, exists_eq_left', sk_20 hv, sr_20_0 hv, sr_20_1 hv, sr_20_2 hv, sr_20_3 hv]
      refine k_go (d := D + 1) Y h tn ?_
      intro τ1 h1
      have hv1 := (cr_X Y h1.1).1
      simp (disch := omega) only [e_57_57, e_57_58, e_57_59, n10, n01, Nat.lt_irrefl, Nat.not_lt_zero, ne_eq, Nat.add_zero, Nat.one_ne_zero, Nat.zero_ne_one, Nat.reduceEqDiff, bI_T, bI_F, bI_0, bI_1, bI_01, not_and_self, true_and, and_true, not_true_eq_false, not_false_eq_true, false_imp_iff, true_imp_iff, imp_self, gPv_n, gPv_i, gPv_r, gPv_0, Option.toList_some, Option.toList_none, List.singleton_append, List.cons_append, List.nil_append, List.length_nil, List.length_cons, Nat.zero_le, Nat.reduceAdd, Nat.reduceLeDiff, or_true, true_or, false_or, or_false, and_self, and_false, false_and, implies_true, Option.some.injEq, exists_eq_left', sk_20 hv1, sr_20_0 hv1, sr_20_1 hv1, sr_20_2 hv1, sr_20_3 hv1]
      refine hR τ1 (t + 1) pq z X nd _ h1 (by omega) ?_ ?_
      · intro τ2 e hr he
        rw [hr] at K0
        simp (disch := omega) only [e_57_62, e_57_65, e_57_66, n10, n01, Nat.lt_irrefl, Nat.not_lt_zero, ne_eq, Nat.add_zero, Nat.one_ne_zero, Nat.zero_ne_one, Nat.reduceEqDiff, bI_T, bI_F, bI_0, bI_1, bI_01, not_and_self, true_and, and_true, not_true_eq_false, not_false_eq_true, false_imp_iff, true_imp_iff, imp_self, gPv_n, gPv_i, gPv_r, gPv_0, Option.toList_some, Option.toList_none, List.singleton_append, List.cons_append, List.nil_append, List.length_nil, List.length_cons, Nat.zero_le, Nat.reduceAdd, Nat.reduceLeDiff, or_true, true_or, false_or, or_false, and_self, and_false, false_and, implies_true, Option.some.injEq, exists_eq_left', nL, nI_add, nI_mul, nI_clamp, nI_ltI, nI_leI, nI_eq, nI_pos, nI_pos', Nat.reduceAdd, Nat.reduceMul, Nat.reducePow]
        exact K0 τ2 e rfl he
      · intro τ2 t2 pq2 g z2 X2 nd2 hr hs b1 b2 b3 b4 b5 b6 b7
        rw [hr] at K0 K1
        simp only at K0 K1
        rw [hcb] at K0 K1
        have hv2 := (cr_X Y hs.1).1
        have tn2 := hs.2.2.1.1
        have zz2 := b5.1.1
        simp (disch := omega) only [e_57_62, e_57_67, e_57_68, e_57_69, e_57_70, n10, n01, Nat.lt_irrefl, Nat.not_lt_zero, ne_eq, Nat.add_zero, Nat.one_ne_zero, Nat.zero_ne_one, Nat.reduceEqDiff, bI_T, bI_F, bI_0, bI_1, bI_01, not_and_self, true_and, and_true, not_true_eq_false, not_false_eq_true, false_imp_iff, true_imp_iff, imp_self, gPv_n, gPv_i, gPv_r, gPv_0, Option.toList_some, Option.toList_none, List.singleton_append, List.cons_append, List.nil_append, List.length_nil, List.length_cons, Nat.zero_le, Nat.reduceAdd, Nat.reduceLeDiff, or_true, true_or, false_or, or_false, and_self, and_false, false_and, implies_true, Option.some.injEq, exists_eq_left', nL, nI_add, nI_mul, nI_clamp, nI_ltI, nI_leI, nI_eq, nI_pos, nI_pos', Nat.reduceAdd, Nat.reduceMul, Nat.reducePow, sk_20 hv2, sr_20_0 hv2, sr_20_1 hv2, sr_20_2 hv2, sr_20_3 hv2]
        refine k_emit (d := D + 2) Y hs (by omega) (by omega) ?_
        intro τ3 h3
        simp (disch := omega) only [e_57_73, e_57_73n, e_57_74, e_57_77, n10, n01, Nat.lt_irrefl, Nat.not_lt_zero, ne_eq, Nat.add_zero, Nat.one_ne_zero, Nat.zero_ne_one, Nat.reduceEqDiff, bI_T, bI_F, bI_0, bI_1, bI_01, not_and_self, true_and, and_true, not_true_eq_false, not_false_eq_true, false_imp_iff, true_imp_iff, imp_self, gPv_n, gPv_i, gPv_r, gPv_0, Option.toList_some, Option.toList_none, List.singleton_append, List.cons_append, List.nil_append, List.length_nil, List.length_cons, Nat.zero_le, Nat.reduceAdd, Nat.reduceLeDiff, or_true, true_or, false_or, or_false, and_self, and_false, false_and, implies_true, Option.some.injEq, exists_eq_left', nL, nI_add]
        refine ih t2 pq2 (z2 + 1) _ nd2 (dOp (kk - 2) f g) (i + 1) τ3 _ h3 (by omega) (by omega) (by omega) (by omega) (by omega) ?_ ?_ (fun w => b6 (c6 w)) ?_ K0 K1
        · intro j hj
          rw [un_ne (by omega), b4 j (by omega)]
          exact c4 j hj
        · rw [show pq2 - pq0 = (pq - pq0) + (pq2 - pq) from by omega]
          refine Cd_op (CdS_c c5 (fun j j1 j2 => by rw [un_ne (by omega)]; exact b4 j (by omega))) (CdS_c b5 (fun j j1 j2 => un_ne (by omega))) (by rw [un_eq]; omega) hk2 hk5
        · rcases c7 with w | w
          · exact Or.inl (b6 w)
          · rcases b7 with y | y
            · exact Or.inl y
            · exact Or.inr (dy_op w y)
    rw [e_57_12]
    by_cases a1 : cT T q t = 142
    · have tn : t < n := CX_c Y (by omega)
      have iq : ¬ q ≤ i := by omega
      simp (disch := omega) only [e_57_13, e_57_14, e_57_17, e_57_20, e_57_21, e_57_23, e_57_26, e_57_38, e_57_39, e_57_41, e_57_44, e_57_47, e_57_48, e_57_51, e_57_52, n10, n01, Nat.lt_irrefl, Nat.not_lt_zero, ne_eq, Nat.add_zero, Nat.one_ne_zero, Nat.zero_ne_one, Nat.reduceEqDiff, bI_T, bI_F, bI_0, bI_1, bI_01, not_and_self, true_and, and_true, not_true_eq_false, not_false_eq_true, false_imp_iff, true_imp_iff, imp_self, gPv_n, gPv_i, gPv_r, gPv_0, Option.toList_some, Option.toList_none, List.singleton_append, List.cons_append, List.nil_append, List.length_nil, List.length_cons, Nat.zero_le, Nat.reduceAdd, Nat.reduceLeDiff, or_true, true_or, false_or, or_false, and_self, and_false, false_and, implies_true, Option.some.injEq, exists_eq_left', nL, nI_add, nI_mul, nI_clamp, nI_ltI, nI_leI, nI_eq, nI_pos, nI_pos', Nat.reduceAdd, Nat.reduceMul, Nat.reducePow, sk_20 hv, sr_20_0 hv, sr_20_1 hv, sr_20_2 hv, sr_20_3 hv, h4, iq, sg1, a1]
      have := body 4 (Or.inl a1) (by omega) (by omega) (by rw [cbT, if_pos a1])
      exact this
    · by_cases a2 : cT T q t = 147
      · have tn : t < n := CX_c Y (by omega)
        have iq : ¬ q ≤ i := by omega
        have o21 : ¬ (147 : Nat) = 142 := by decide
        simp (disch := omega) only [e_57_13, e_57_14, e_57_17, e_57_20, e_57_21, e_57_23, e_57_26, e_57_29, e_57_30, e_57_32, e_57_35, e_57_38, e_57_39, e_57_41, e_57_44, e_57_47, e_57_48, e_57_51, e_57_52, n10, n01, Nat.lt_irrefl, Nat.not_lt_zero, ne_eq, Nat.add_zero, Nat.one_ne_zero, Nat.zero_ne_one, Nat.reduceEqDiff, bI_T, bI_F, bI_0, bI_1, bI_01, not_and_self, true_and, and_true, not_true_eq_false, not_false_eq_true, false_imp_iff, true_imp_iff, imp_self, gPv_n, gPv_i, gPv_r, gPv_0, Option.toList_some, Option.toList_none, List.singleton_append, List.cons_append, List.nil_append, List.length_nil, List.length_cons, Nat.zero_le, Nat.reduceAdd, Nat.reduceLeDiff, or_true, true_or, false_or, or_false, and_self, and_false, false_and, implies_true, Option.some.injEq, exists_eq_left', nL, nI_add, nI_mul, nI_clamp, nI_ltI, nI_leI, nI_eq, nI_pos, nI_pos', Nat.reduceAdd, Nat.reduceMul, Nat.reducePow, sk_20 hv, sr_20_0 hv, sr_20_1 hv, sr_20_2 hv, sr_20_3 hv, h4, iq, sg1, sg2, a2, o21]
        exact body 5 (Or.inr a2) (by omega) (by omega) (by rw [cbT, if_neg a1])
      · rw [if_neg (by omega)] at K1
        have fin := K1 τ t pq f z X nd rfl h c1 c2 c3 c4 c5 c6 c7
        by_cases iq : q ≤ i
        · simp (disch := omega) only [e_57_13, e_57_14, e_57_17, e_57_80, e_57_81, n10, n01, Nat.lt_irrefl, Nat.not_lt_zero, ne_eq, Nat.add_zero, Nat.one_ne_zero, Nat.zero_ne_one, Nat.reduceEqDiff, bI_T, bI_F, bI_0, bI_1, bI_01, not_and_self, true_and, and_true, not_true_eq_false, not_false_eq_true, false_imp_iff, true_imp_iff, imp_self, gPv_n, gPv_i, gPv_r, gPv_0, Option.toList_some, Option.toList_none, List.singleton_append, List.cons_append, List.nil_append, List.length_nil, List.length_cons, Nat.zero_le, Nat.reduceAdd, Nat.reduceLeDiff, or_true, true_or, false_or, or_false, and_self, and_false, false_and, implies_true, Option.some.injEq, exists_eq_left', nL, nI_add, nI_mul, nI_clamp, nI_ltI, nI_leI, nI_eq, nI_pos, nI_pos', Nat.reduceAdd, Nat.reduceMul, Nat.reducePow, sk_20 hv, sr_20_0 hv, sr_20_1 hv, sr_20_2 hv, sr_20_3 hv, h4, iq]
          exact fin
        · simp (disch := omega) only [e_57_13, e_57_14, e_57_17, e_57_20, e_57_21, e_57_23, e_57_26, e_57_29, e_57_30, e_57_32, e_57_35, e_57_80, e_57_81, n10, n01, Nat.lt_irrefl, Nat.not_lt_zero, ne_eq, Nat.add_zero, Nat.one_ne_zero, Nat.zero_ne_one, Nat.reduceEqDiff, bI_T, bI_F, bI_0, bI_1, bI_01, not_and_self, true_and, and_true, not_true_eq_false, not_false_eq_true, false_imp_iff, true_imp_iff, imp_self, gPv_n, gPv_i, gPv_r, gPv_0, Option.toList_some, Option.toList_none, List.singleton_append, List.cons_append, List.nil_append, List.length_nil, List.length_cons, Nat.zero_le, Nat.reduceAdd, Nat.reduceLeDiff, or_true, true_or, false_or, or_false, and_self, and_false, false_and, implies_true, Option.some.injEq, exists_eq_left', nL, nI_add, nI_mul, nI_clamp, nI_ltI, nI_leI, nI_eq, nI_pos, nI_pos', Nat.reduceAdd, Nat.reduceMul, Nat.reducePow, sk_20 hv, sr_20_0 hv, sr_20_1 hv, sr_20_2 hv, sr_20_3 hv, h4, iq, sg1, sg2, a1, a2]
          exact fin
theorem k_ch57 {D dp F : Nat} {R : Nat → Nat → zR zS} (Y : CX B q n T σ) (hF : n < F) (hR : CRd B q n T σ (D + 3) 58 [.int (nI dp)] R CdS) : CRd B q n T σ (D + 4) 57 [.int (nI dp)] (pChain (cT T q) 142 147 R cbT F) CdS := by
  intro τ t pq z X nd Q h hz K0 K1
  have hv := (cr_X Y h.1).1
  rw [pChain] at K0 K1
  simp (disch := omega) only [c_57, e_57_0, e_57_1, e_57_2, n10, n01, Nat.lt_irrefl, Nat.not_lt_zero, ne_eq, Nat.add_zero, Nat.one_ne_zero, Nat.zero_ne_one, Nat.reduceEqDiff, bI_T, bI_F, bI_0, bI_1, bI_01, not_and_self, true_and, and_true, not_true_eq_false, not_false_eq_true, false_imp_iff, true_imp_iff, imp_self, gPv_n, gPv_i, gPv_r, gPv_0, Option.toList_some, Option.toList_none, List.singleton_append, List.cons_append, List.nil_append, List.length_nil, List.length_cons, Nat.zero_le, Nat.reduceAdd, Nat.reduceLeDiff, or_true, true_or, false_or, or_false, and_self, and_false, false_and, implies_true, Option.some.injEq, exists_eq_left', sk_20 hv, sr_20_0 hv, sr_20_1 hv, sr_20_2 hv, sr_20_3 hv]
  refine hR τ t pq z X nd _ h hz ?_ ?_
  · intro τ2 e hr he
    rw [hr] at K0
    simp (disch := omega) only [e_57_5, e_57_8, e_57_9, n10, n01, Nat.lt_irrefl, Nat.not_lt_zero, ne_eq, Nat.add_zero, Nat.one_ne_zero, Nat.zero_ne_one, Nat.reduceEqDiff, bI_T, bI_F, bI_0, bI_1, bI_01, not_and_self, true_and, and_true, not_true_eq_false, not_false_eq_true, false_imp_iff, true_imp_iff, imp_self, gPv_n, gPv_i, gPv_r, gPv_0, Option.toList_some, Option.toList_none, List.singleton_append, List.cons_append, List.nil_append, List.length_nil, List.length_cons, Nat.zero_le, Nat.reduceAdd, Nat.reduceLeDiff, or_true, true_or, false_or, or_false, and_self, and_false, false_and, implies_true, Option.some.injEq, exists_eq_left', nL, nI_add, nI_mul, nI_clamp, nI_ltI, nI_leI, nI_eq, nI_pos, nI_pos', Nat.reduceAdd, Nat.reduceMul, Nat.reducePow]
    exact K0 τ2 e rfl he
  · intro τ2 t2 pq2 g z2 X2 nd2 hr hs b1 b2 b3 b4 b5 b6 b7
    rw [hr] at K0 K1
    simp only at K0 K1
    simp (disch := omega) only [e_57_5, e_57_10, e_57_11, n10, n01, Nat.lt_irrefl, Nat.not_lt_zero, ne_eq, Nat.add_zero, Nat.one_ne_zero, Nat.zero_ne_one, Nat.reduceEqDiff, bI_T, bI_F, bI_0, bI_1, bI_01, not_and_self, true_and, and_true, not_true_eq_false, not_false_eq_true, false_imp_iff, true_imp_iff, imp_self, gPv_n, gPv_i, gPv_r, gPv_0, Option.toList_some, Option.toList_none, List.singleton_append, List.cons_append, List.nil_append, List.length_nil, List.length_cons, Nat.zero_le, Nat.reduceAdd, Nat.reduceLeDiff, or_true, true_or, false_or, or_false, and_self, and_false, false_and, implies_true, Option.some.injEq, exists_eq_left', nL, nI_add, nI_mul, nI_clamp, nI_ltI, nI_leI, nI_eq, nI_pos, nI_pos', Nat.reduceAdd, Nat.reduceMul, Nat.reducePow]
    exact k_lp57 (D := D) (X0 := X) (t0 := t) (pq0 := pq) (z0 := z) (nd0 := nd) Y hR hz F t2 pq2 z2 X2 nd2 g 0 τ2 _ hs (by omega) (by omega) b1 b2 b3 b4 b5 b6 b7 K0 K1
theorem k_lp56 {D dp t0 pq0 z0 : Nat} {nd0 : Bool} {X0 : Nat → Nat} {R : Nat → Nat → zR zS} (Y : CX B q n T σ) (hR : CRd B q n T σ (D + 3) 57 [.int (nI dp)] R CdS) (hz0 : z0 ≤ t0) : ∀ F t pq z X nd f i τ x3, CS B q n T σ τ t pq z X nd → i ≤ t → n < t + F → t0 < t → z + t0 ≤ z0 + t → pq0 < pq → (∀ j, j < z0 → X j = X0 j) → CdS X z0 z (pq - pq0) f → (nd0 = true → nd = true) → (nd = true ∨ dyF f) → (∀ τ' e, pLoop (cT T q) 143 145 R cbS F t pq f = .inl e → CE B q T σ τ' e → Q (some (.int (nI 0))) τ') → (∀ τ' t' pq' f' z' X' nd', pLoop (cT T q) 143 145 R cbS F t pq f = .inr (t', pq', f') → CS B q n T σ τ' t' pq' z' X' nd' → t0 < t' → z' + t0 ≤ z0 + t' → pq0 < pq' → (∀ j, j < z0 → X' j = X0 j) → CdS X' z0 z' (pq' - pq0) f' → (nd0 = true → nd' = true) → (nd' = true ∨ dyF f') → Q (some (.int (nI 1))) τ') → wp (D + 3) pr_56 Q 12 [some (.ref (B + 20)), some (.int (nI dp)), some (.int (nI i)), x3] [] τ := by
  obtain ⟨nq, q4⟩ := CX_n Y
  intro F
  induction F with
  | zero =>
    intro t pq z X nd f i τ x3 h _ hF
    have := h.2.2.1.1
    omega
  | succ F ih =>
    intro t pq z X nd f i τ x3 h hi hF c1 c2 c3 c4 c5 c6 c7 K0 K1
    have Z := cr_X Y h.1
    have hv := Z.1
    have h4 := Z.2.2.2.2
    have tn0 := h.2.2.1.1
    have z0z := c5.1.1
    have sg1 : ∀ (d : Nat) (Q : Option Value → gS → Prop), wc (d + 1) 47 [.ref (B + 20), .int (nI 43)] τ Q ↔ Q (some (.int (bI (cT T q t = 143)))) τ := fun d Q => s_isSign Z h.2.1 (by omega) rfl
    have sg2 : ∀ (d : Nat) (Q : Option Value → gS → Prop), wc (d + 1) 47 [.ref (B + 20), .int (nI 45)] τ Q ↔ Q (some (.int (bI (cT T q t = 145)))) τ := fun d Q => s_isSign Z h.2.1 (by omega) rfl
    rw [pLoop] at K0 K1
    have body : ∀ kk, (cT T q t = 143 ∨ cT T q t = 145) → kk ≤ 5 → 2 ≤ kk → (cbS (cT T q t) = dOp (kk - 2)) → wp (D + 3) pr_56 Q 53 [some (.ref (B + 20)), some (.int (nI dp)), some (.int (nI i)), some (.int (nI kk))] [] τ := by
      intro kk hc hk5 hk2 hcb
      rw [if_pos hc] at K0 K1
      have tn : t < n := CX_c Y (by omega)
      simp (disch := omega) only [e_56_53, e_56_54, n10, n01, Nat.lt_irrefl, Nat.not_lt_zero, ne_eq, Nat.add_zero, Nat.one_ne_zero, Nat.zero_ne_one, Nat.reduceEqDiff, bI_T, bI_F, bI_0, bI_1, bI_01, not_and_self, true_and, and_true, not_true_eq_false, not_false_eq_true, false_imp_iff, true_imp_iff, imp_self, gPv_n, gPv_i, gPv_r, gPv_0, Option.toList_some, Option.toList_none, List.singleton_append, List.cons_append, List.nil_append, List.length_nil, List.length_cons, Nat.zero_le, Nat.reduceAdd, Nat.reduceLeDiff, or_true, true_or, false_or, or_false, and_self, and_false, false_and, implies_true, Option.some.injEq, exists_eq_left', sk_20 hv, sr_20_0 hv, sr_20_1 hv, sr_20_2 hv, sr_20_3 hv]
      refine k_go (d := D + 1) Y h tn ?_
      intro τ1 h1
      have hv1 := (cr_X Y h1.1).1
      simp (disch := omega) only [e_56_57, e_56_58, e_56_59, n10, n01, Nat.lt_irrefl, Nat.not_lt_zero, ne_eq, Nat.add_zero, Nat.one_ne_zero, Nat.zero_ne_one, Nat.reduceEqDiff, bI_T, bI_F, bI_0, bI_1, bI_01, not_and_self, true_and, and_true, not_true_eq_false, not_false_eq_true, false_imp_iff, true_imp_iff, imp_self, gPv_n, gPv_i, gPv_r, gPv_0, Option.toList_some, Option.toList_none, List.singleton_append, List.cons_append, List.nil_append, List.length_nil, List.length_cons, Nat.zero_le, Nat.reduceAdd, Nat.reduceLeDiff, or_true, true_or, false_or, or_false, and_self, and_false, false_and, implies_true, Option.some.injEq, exists_eq_left', sk_20 hv1, sr_20_0 hv1, sr_20_1 hv1, sr_20_2 hv1, sr_20_3 hv1]
      refine hR τ1 (t + 1) pq z X nd _ h1 (by omega) ?_ ?_
      · intro τ2 e hr he
        rw [hr] at K0
        simp (disch := omega) only [e_56_62, e_56_65, e_56_66, n10, n01, Nat.lt_irrefl, Nat.not_lt_zero, ne_eq, Nat.add_zero, Nat.one_ne_zero, Nat.zero_ne_one, Nat.reduceEqDiff, bI_T, bI_F, bI_0, bI_1, bI_01, not_and_self, true_and, and_true, not_true_eq_false, not_false_eq_true, false_imp_iff, true_imp_iff, imp_self, gPv_n, gPv_i, gPv_r, gPv_0, Option.toList_some, Option.toList_none, List.singleton_append, List.cons_append, List.nil_append, List.length_nil, List.length_cons, Nat.zero_le, Nat.reduceAdd, Nat.reduceLeDiff, or_true, true_or, false_or, or_false, and_self, and_false, false_and, implies_true, Option.some.injEq, exists_eq_left', nL, nI_add, nI_mul, nI_clamp, nI_ltI, nI_leI, nI_eq, nI_pos, nI_pos', Nat.reduceAdd, Nat.reduceMul, Nat.reducePow]
        exact K0 τ2 e rfl he
      · intro τ2 t2 pq2 g z2 X2 nd2 hr hs b1 b2 b3 b4 b5 b6 b7
        rw [hr] at K0 K1
        simp only at K0 K1
        rw [hcb] at K0 K1
        have hv2 := (cr_X Y hs.1).1
        have tn2 := hs.2.2.1.1
        have zz2 := b5.1.1
        simp (disch := omega) only [e_56_62, e_56_67, e_56_68, e_56_69, e_56_70, n10, n01, Nat.lt_irrefl, Nat.not_lt_zero, ne_eq, Nat.add_zero, Nat.one_ne_zero, Nat.zero_ne_one, Nat.reduceEqDiff, bI_T, bI_F, bI_0, bI_1, bI_01, not_and_self, true_and, and_true, not_true_eq_false, not_false_eq_true, false_imp_iff, true_imp_iff, imp_self, gPv_n, gPv_i, gPv_r, gPv_0, Option.toList_some, Option.toList_none, List.singleton_append, List.cons_append, List.nil_append, List.length_nil, List.length_cons, Nat.zero_le, Nat.reduceAdd, Nat.reduceLeDiff, or_true, true_or, false_or, or_false, and_self, and_false, false_and, implies_true, Option.some.injEq, exists_eq_left', nL, nI_add, nI_mul, nI_clamp, nI_ltI, nI_leI, nI_eq, nI_pos, nI_pos', Nat.reduceAdd, Nat.reduceMul, Nat.reducePow, sk_20 hv2, sr_20_0 hv2, sr_20_1 hv2, sr_20_2 hv2, sr_20_3 hv2]
        refine k_emit (d := D + 2) Y hs (by omega) (by omega) ?_
        intro τ3 h3
        simp (disch := omega) only [e_56_73, e_56_73n, e_56_74, e_56_77, n10, n01, Nat.lt_irrefl, Nat.not_lt_zero, ne_eq, Nat.add_zero, Nat.one_ne_zero, Nat.zero_ne_one, Nat.reduceEqDiff, bI_T, bI_F, bI_0, bI_1, bI_01, not_and_self, true_and, and_true, not_true_eq_false, not_false_eq_true, false_imp_iff, true_imp_iff, imp_self, gPv_n, gPv_i, gPv_r, gPv_0, Option.toList_some, Option.toList_none, List.singleton_append, List.cons_append, List.nil_append, List.length_nil, List.length_cons, Nat.zero_le, Nat.reduceAdd, Nat.reduceLeDiff, or_true, true_or, false_or, or_false, and_self, and_false, false_and, implies_true, Option.some.injEq, exists_eq_left', nL, nI_add]
        refine ih t2 pq2 (z2 + 1) _ nd2 (dOp (kk - 2) f g) (i + 1) τ3 _ h3 (by omega) (by omega) (by omega) (by omega) (by omega) ?_ ?_ (fun w => b6 (c6 w)) ?_ K0 K1
        · intro j hj
          rw [un_ne (by omega), b4 j (by omega)]
          exact c4 j hj
        · rw [show pq2 - pq0 = (pq - pq0) + (pq2 - pq) from by omega]
          refine Cd_op (CdS_c c5 (fun j j1 j2 => by rw [un_ne (by omega)]; exact b4 j (by omega))) (CdS_c b5 (fun j j1 j2 => un_ne (by omega))) (by rw [un_eq]; omega) hk2 hk5
        · rcases c7 with w | w
          · exact Or.inl (b6 w)
          · rcases b7 with y | y
            · exact Or.inl y
            · exact Or.inr (dy_op w y)
    rw [e_56_12]
    by_cases a1 : cT T q t = 143
    · have tn : t < n := CX_c Y (by omega)
      have iq : ¬ q ≤ i := by omega
      simp (disch := omega) only [e_56_13, e_56_14, e_56_17, e_56_20, e_56_21, e_56_23, e_56_26, e_56_38, e_56_39, e_56_41, e_56_44, e_56_47, e_56_48, e_56_51, e_56_52, n10, n01, Nat.lt_irrefl, Nat.not_lt_zero, ne_eq, Nat.add_zero, Nat.one_ne_zero, Nat.zero_ne_one, Nat.reduceEqDiff, bI_T, bI_F, bI_0, bI_1, bI_01, not_and_self, true_and, and_true, not_true_eq_false, not_false_eq_true, false_imp_iff, true_imp_iff, imp_self, gPv_n, gPv_i, gPv_r, gPv_0, Option.toList_some, Option.toList_none, List.singleton_append, List.cons_append, List.nil_append, List.length_nil, List.length_cons, Nat.zero_le, Nat.reduceAdd, Nat.reduceLeDiff, or_true, true_or, false_or, or_false, and_self, and_false, false_and, implies_true, Option.some.injEq, exists_eq_left', nL, nI_add, nI_mul, nI_clamp, nI_ltI, nI_leI, nI_eq, nI_pos, nI_pos', Nat.reduceAdd, Nat.reduceMul, Nat.reducePow, sk_20 hv, sr_20_0 hv, sr_20_1 hv, sr_20_2 hv, sr_20_3 hv, h4, iq, sg1, a1]
      have := body 2 (Or.inl a1) (by omega) (by omega) (by rw [cbS, if_pos a1])
      exact this
    · by_cases a2 : cT T q t = 145
      · have tn : t < n := CX_c Y (by omega)
        have iq : ¬ q ≤ i := by omega
        have o21 : ¬ (145 : Nat) = 143 := by decide
        simp (disch := omega) only [e_56_13, e_56_14, e_56_17, e_56_20, e_56_21, e_56_23, e_56_26, e_56_29, e_56_30, e_56_32, e_56_35, e_56_38, e_56_39, e_56_41, e_56_44, e_56_47, e_56_48, e_56_51, e_56_52, n10, n01, Nat.lt_irrefl, Nat.not_lt_zero, ne_eq, Nat.add_zero, Nat.one_ne_zero, Nat.zero_ne_one, Nat.reduceEqDiff, bI_T, bI_F, bI_0, bI_1, bI_01, not_and_self, true_and, and_true, not_true_eq_false, not_false_eq_true, false_imp_iff, true_imp_iff, imp_self, gPv_n, gPv_i, gPv_r, gPv_0, Option.toList_some, Option.toList_none, List.singleton_append, List.cons_append, List.nil_append, List.length_nil, List.length_cons, Nat.zero_le, Nat.reduceAdd, Nat.reduceLeDiff, or_true, true_or, false_or, or_false, and_self, and_false, false_and, implies_true, Option.some.injEq, exists_eq_left', nL, nI_add, nI_mul, nI_clamp, nI_ltI, nI_leI, nI_eq, nI_pos, nI_pos', Nat.reduceAdd, Nat.reduceMul, Nat.reducePow, sk_20 hv, sr_20_0 hv, sr_20_1 hv, sr_20_2 hv, sr_20_3 hv, h4, iq, sg1, sg2, a2, o21]
        exact body 3 (Or.inr a2) (by omega) (by omega) (by rw [cbS, if_neg a1])
      · rw [if_neg (by omega)] at K1
        have fin := K1 τ t pq f z X nd rfl h c1 c2 c3 c4 c5 c6 c7
        by_cases iq : q ≤ i
        · simp (disch := omega) only [e_56_13, e_56_14, e_56_17, e_56_80, e_56_81, n10, n01, Nat.lt_irrefl, Nat.not_lt_zero, ne_eq, Nat.add_zero, Nat.one_ne_zero, Nat.zero_ne_one, Nat.reduceEqDiff, bI_T, bI_F, bI_0, bI_1, bI_01, not_and_self, true_and, and_true, not_true_eq_false, not_false_eq_true, false_imp_iff, true_imp_iff, imp_self, gPv_n, gPv_i, gPv_r, gPv_0, Option.toList_some, Option.toList_none, List.singleton_append, List.cons_append, List.nil_append, List.length_nil, List.length_cons, Nat.zero_le, Nat.reduceAdd, Nat.reduceLeDiff, or_true, true_or, false_or, or_false, and_self, and_false, false_and, implies_true, Option.some.injEq, exists_eq_left', nL, nI_add, nI_mul, nI_clamp, nI_ltI, nI_leI, nI_eq, nI_pos, nI_pos', Nat.reduceAdd, Nat.reduceMul, Nat.reducePow, sk_20 hv, sr_20_0 hv, sr_20_1 hv, sr_20_2 hv, sr_20_3 hv, h4, iq]
          exact fin
        · simp (disch := omega) only [e_56_13, e_56_14, e_56_17, e_56_20, e_56_21, e_56_23, e_56_26, e_56_29, e_56_30, e_56_32, e_56_35, e_56_80, e_56_81, n10, n01, Nat.lt_irrefl, Nat.not_lt_zero, ne_eq, Nat.add_zero, Nat.one_ne_zero, Nat.zero_ne_one, Nat.reduceEqDiff, bI_T, bI_F, bI_0, bI_1, bI_01, not_and_self, true_and, and_true, not_true_eq_false, not_false_eq_true, false_imp_iff, true_imp_iff, imp_self, gPv_n, gPv_i, gPv_r, gPv_0, Option.toList_some, Option.toList_none, List.singleton_append, List.cons_append, List.nil_append, List.length_nil, List.length_cons, Nat.zero_le, Nat.reduceAdd, Nat.reduceLeDiff, or_true, true_or, false_or, or_false, and_self, and_false, false_and, implies_true, Option.some.injEq, exists_eq_left', nL, nI_add, nI_mul, nI_clamp, nI_ltI, nI_leI, nI_eq, nI_pos, nI_pos', Nat.reduceAdd, Nat.reduceMul, Nat.reducePow, sk_20 hv, sr_20_0 hv, sr_20_1 hv, sr_20_2 hv, sr_20_3 hv, h4, iq, sg1, sg2, a1, a2]
          exact fin
theorem k_ch56 {D dp F : Nat} {R : Nat → Nat → zR zS} (Y : CX B q n T σ) (hF : n < F) (hR : CRd B q n T σ (D + 3) 57 [.int (nI dp)] R CdS) : CRd B q n T σ (D + 4) 56 [.int (nI dp)] (pChain (cT T q) 143 145 R cbS F) CdS := by
  intro τ t pq z X nd Q h hz K0 K1
  have hv := (cr_X Y h.1).1
  rw [pChain] at K0 K1
  simp (disch := omega) only [c_56, e_56_0, e_56_1, e_56_2, n10, n01, Nat.lt_irrefl, Nat.not_lt_zero, ne_eq, Nat.add_zero, Nat.one_ne_zero, Nat.zero_ne_one, Nat.reduceEqDiff, bI_T, bI_F, bI_0, bI_1, bI_01, not_and_self, true_and, and_true, not_true_eq_false, not_false_eq_true, false_imp_iff, true_imp_iff, imp_self, gPv_n, gPv_i, gPv_r, gPv_0, Option.toList_some, Option.toList_none, List.singleton_append, List.cons_append, List.nil_append, List.length_nil, List.length_cons, Nat.zero_le, Nat.reduceAdd, Nat.reduceLeDiff, or_true, true_or, false_or, or_false, and_self, and_false, false_and, implies_true, Option.some.injEq, exists_eq_left', sk_20 hv, sr_20_0 hv, sr_20_1 hv, sr_20_2 hv, sr_20_3 hv]
  refine hR τ t pq z X nd _ h hz ?_ ?_
  · intro τ2 e hr he
    rw [hr] at K0
    simp (disch := omega) only [e_56_5, e_56_8, e_56_9, n10, n01, Nat.lt_irrefl, Nat.not_lt_zero, ne_eq, Nat.add_zero, Nat.one_ne_zero, Nat.zero_ne_one, Nat.reduceEqDiff, bI_T, bI_F, bI_0, bI_1, bI_01, not_and_self, true_and, and_true, not_true_eq_false, not_false_eq_true, false_imp_iff, true_imp_iff, imp_self, gPv_n, gPv_i, gPv_r, gPv_0, Option.toList_some, Option.toList_none, List.singleton_append, List.cons_append, List.nil_append, List.length_nil, List.length_cons, Nat.zero_le, Nat.reduceAdd, Nat.reduceLeDiff, or_true, true_or, false_or, or_false, and_self, and_false, false_and, implies_true, Option.some.injEq, exists_eq_left', nL, nI_add, nI_mul, nI_clamp, nI_ltI, nI_leI, nI_eq, nI_pos, nI_pos', Nat.reduceAdd, Nat.reduceMul, Nat.reducePow]
    exact K0 τ2 e rfl he
  · intro τ2 t2 pq2 g z2 X2 nd2 hr hs b1 b2 b3 b4 b5 b6 b7
    rw [hr] at K0 K1
    simp only at K0 K1
    simp (disch := omega) only [e_56_5, e_56_10, e_56_11, n10, n01, Nat.lt_irrefl, Nat.not_lt_zero, ne_eq, Nat.add_zero, Nat.one_ne_zero, Nat.zero_ne_one, Nat.reduceEqDiff, bI_T, bI_F, bI_0, bI_1, bI_01, not_and_self, true_and, and_true, not_true_eq_false, not_false_eq_true, false_imp_iff, true_imp_iff, imp_self, gPv_n, gPv_i, gPv_r, gPv_0, Option.toList_some, Option.toList_none, List.singleton_append, List.cons_append, List.nil_append, List.length_nil, List.length_cons, Nat.zero_le, Nat.reduceAdd, Nat.reduceLeDiff, or_true, true_or, false_or, or_false, and_self, and_false, false_and, implies_true, Option.some.injEq, exists_eq_left', nL, nI_add, nI_mul, nI_clamp, nI_ltI, nI_leI, nI_eq, nI_pos, nI_pos', Nat.reduceAdd, Nat.reduceMul, Nat.reducePow]
    exact k_lp56 (D := D) (X0 := X) (t0 := t) (pq0 := pq) (z0 := z) (nd0 := nd) Y hR hz F t2 pq2 z2 X2 nd2 g 0 τ2 _ hs (by omega) (by omega) b1 b2 b3 b4 b5 b6 b7 K0 K1
theorem k_sumD {F : Nat} (Y : CX B q n T σ) (hF : n < F) : ∀ r d, r ≤ 8 → CRd B q n T σ (d + 4 * r + 9) 56 [.int (nI (8 - r))] (pSumD (cT T q) (vT T q) F r) CdS := by
  intro r
  induction r with
  | zero =>
    intro d _
    exact k_ch56 (D := d + 5) Y hF (k_ch57 (D := d + 4) Y hF (k_inner0 (D := d) Y))
  | succ r ih =>
    intro d hr
    have hS := ih d (by omega)
    have e1 : 8 - (r + 1) + 1 = 8 - r := by omega
    rw [show d + 4 * (r + 1) + 9 = (d + 4 * r + 9) + 4 from by omega]
    refine k_ch56 (D := d + 4 * r + 9) Y hF (k_ch57 (D := d + 4 * r + 8) Y hF (k_innerS (D := d + 4 * r + 4) Y (by omega) ?_))
    rw [e1]
    exact hS
end
