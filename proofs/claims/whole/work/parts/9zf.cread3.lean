/-! the class reads a law: tests -/
theorem dy_cmp {k : Nat} {f g : zS} (hf : dyF f) (hg : dyF g) : dyF (dCmp k f g) := by
  intro W W' h
  simp only [dCmp, hf W W' h, hg W W' h]
theorem dy_and {f g : zT} (hf : dyF f) (hg : dyF g) : dyF (dAnd f g) := by
  intro W W' h
  simp only [dAnd, hf W W' h, hg W W' h]
theorem dy_or {f g : zT} (hf : dyF f) (hg : dyF g) : dyF (dOr f g) := by
  intro W W' h
  simp only [dOr, hf W W' h, hg W W' h]
theorem dy_not {b : Bool} {f : zT} (hf : dyF f) : dyF (dNot b f) := by
  intro W W' h
  simp only [dNot, hf W W' h]
theorem pNots_ne {c : Nat → Nat} : ∀ F t b, (pNots c F t b).2 ≠ b → t < (pNots c F t b).1 := by
  intro F
  induction F with
  | zero => intro t b h; exact absurd rfl h
  | succ F ih =>
    intro t b h
    rw [pNots] at h ⊢
    by_cases a : c t = 6
    · rw [if_pos a] at h ⊢
      have := pNots_up F (t + 1) (!b) (c := c)
      omega
    · rw [if_neg a] at h
      exact absurd rfl h
section
variable {B q n : Nat} {σ : gS} {T : Nat → Nat} {d : Nat} {Q : Option Value → gS → Prop}
/-- what a reading of a test does, at one place -/
def CR1 (B q n : Nat) (T : Nat → Nat) (σ : gS) (D i : Nat) (as : List Value) (R : Nat → Nat → zR zT) (P : Nat → Prop) : Prop := ∀ τ t pq z X nd Q, P t → CS B q n T σ τ t pq z X nd → z ≤ t → (∀ τ' e, R t pq = .inl e → CE B q T σ τ' e → Q (some (.int (nI 0))) τ') → (∀ τ' t' pq' f z' X' nd', R t pq = .inr (t', pq', f) → CS B q n T σ τ' t' pq' z' X' nd' → t < t' → z' + t ≤ z + t' → pq < pq' → (∀ j, j < z → X' j = X j) → CdT X' z z' (pq' - pq) f → (nd = true → nd' = true) → (nd' = true ∨ dyF f) → Q (some (.int (nI 1))) τ') → wc D i (.ref (B + 20) :: as) τ Q
theorem k_comp {D dp : Nat} {S : Nat → Nat → zR zS} {U : Nat → Nat → zR zT} {b : Bool} (Y : CX B q n T σ) (hS : CRd B q n T σ (D + 3) 56 [.int (nI dp)] S CdS) : CR1 B q n T σ (D + 4) 55 [.int (nI dp)] (pPos (cT T q) S U b) (fun t => cT T q t ≠ 140) := by
  obtain ⟨nq, q4⟩ := CX_n Y
  intro τ t pq z X nd Q a1 h hz K0 K1
  rw [pPos, if_neg a1] at K0 K1
  have hv := (cr_X Y h.1).1
  simp (disch := omega) only [c_55, e_55_0, e_55_1, e_55_2, n10, n01, Nat.lt_irrefl, Nat.not_lt_zero, ne_eq, Nat.add_zero, Nat.one_ne_zero, Nat.zero_ne_one, Nat.reduceEqDiff, bI_T, bI_F, bI_0, bI_1, bI_01, not_and_self, true_and, and_true, not_true_eq_false, not_false_eq_true, false_imp_iff, true_imp_iff, imp_self, gPv_n, gPv_i, gPv_r, gPv_0, Option.toList_some, Option.toList_none, List.singleton_append, List.cons_append, List.nil_append, List.length_nil, List.length_cons, Nat.zero_le, Nat.reduceAdd, Nat.reduceLeDiff, or_true, true_or, false_or, or_false, and_self, and_false, false_and, implies_true, Option.some.injEq, exists_eq_left', sk_20 hv, sr_20_0 hv, sr_20_1 hv, sr_20_2 hv, sr_20_3 hv]
  refine hS τ t pq z X nd _ h hz ?_ ?_
  · intro τ2 e hr he
    rw [hr] at K0
    simp (disch := omega) only [e_55_5, e_55_8, e_55_9, n10, n01, Nat.lt_irrefl, Nat.not_lt_zero, ne_eq, Nat.add_zero, Nat.one_ne_zero, Nat.zero_ne_one, Nat.reduceEqDiff, bI_T, bI_F, bI_0, bI_1, bI_01, not_and_self, true_and, and_true, not_true_eq_false, not_false_eq_true, false_imp_iff, true_imp_iff, imp_self, gPv_n, gPv_i, gPv_r, gPv_0, Option.toList_some, Option.toList_none, List.singleton_append, List.cons_append, List.nil_append, List.length_nil, List.length_cons, Nat.zero_le, Nat.reduceAdd, Nat.reduceLeDiff, or_true, true_or, false_or, or_false, and_self, and_false, false_and, implies_true, Option.some.injEq, exists_eq_left', nL, nI_add, nI_mul, nI_clamp, nI_ltI, nI_leI, nI_eq, nI_pos, nI_pos', Nat.reduceAdd, Nat.reduceMul, Nat.reducePow]
    exact K0 τ2 e rfl he
  · intro τ2 t2 pq2 f z2 X2 nd2 hr hs b1 b2 b3 b4 b5 b6 b7
    rw [hr] at K0 K1
    simp only at K0 K1
    have Z := cr_X Y hs.1
    have hv2 := Z.1
    have tn2 := hs.2.2.1.1
    have sg1 : ∀ (d : Nat) (Q : Option Value → gS → Prop), wc (d + 1) 47 [.ref (B + 20), .int (nI 60)] τ2 Q ↔ Q (some (.int (bI (cT T q t2 = 160)))) τ2 := fun d Q => s_isSign Z hs.2.1 (by omega) rfl
    have sg2 : ∀ (d : Nat) (Q : Option Value → gS → Prop), wc (d + 1) 47 [.ref (B + 20), .int (nI 62)] τ2 Q ↔ Q (some (.int (bI (cT T q t2 = 162)))) τ2 := fun d Q => s_isSign Z hs.2.1 (by omega) rfl
    have sg3 : ∀ (d : Nat) (Q : Option Value → gS → Prop), wc (d + 1) 47 [.ref (B + 20), .int (nI 61)] τ2 Q ↔ Q (some (.int (bI (cT T q t2 = 161)))) τ2 := fun d Q => s_isSign Z hs.2.1 (by omega) rfl
    have body : ∀ kk, (kk = 6 ∧ cT T q t2 = 160 ∨ kk = 7 ∧ cT T q t2 = 162 ∨ kk = 8 ∧ cT T q t2 = 161) → wp (D + 3) pr_55 Q 61 [some (.ref (B + 20)), some (.int (nI dp)), some (.int (nI kk))] [] τ2 := by
      intro kk hkk
      rw [if_pos (by omega)] at K0 K1
      have tn : t2 < n := CX_c Y (by omega)
      simp (disch := omega) only [e_55_61, e_55_62, n10, n01, Nat.lt_irrefl, Nat.not_lt_zero, ne_eq, Nat.add_zero, Nat.one_ne_zero, Nat.zero_ne_one, Nat.reduceEqDiff, bI_T, bI_F, bI_0, bI_1, bI_01, not_and_self, true_and, and_true, not_true_eq_false, not_false_eq_true, false_imp_iff, true_imp_iff, imp_self, gPv_n, gPv_i, gPv_r, gPv_0, Option.toList_some, Option.toList_none, List.singleton_append, List.cons_append, List.nil_append, List.length_nil, List.length_cons, Nat.zero_le, Nat.reduceAdd, Nat.reduceLeDiff, or_true, true_or, false_or, or_false, and_self, and_false, false_and, implies_true, Option.some.injEq, exists_eq_left', sk_20 hv2, sr_20_0 hv2, sr_20_1 hv2, sr_20_2 hv2, sr_20_3 hv2]
      refine k_go (d := D + 1) Y hs tn ?_
      intro τ3 h3
      have hv3 := (cr_X Y h3.1).1
      simp (disch := omega) only [e_55_65, e_55_66, e_55_67, n10, n01, Nat.lt_irrefl, Nat.not_lt_zero, ne_eq, Nat.add_zero, Nat.one_ne_zero, Nat.zero_ne_one, Nat.reduceEqDiff, bI_T, bI_F, bI_0, bI_1, bI_01, not_and_self, true_and, and_true, not_true_eq_false, not_false_eq_true, false_imp_iff, true_imp_iff, imp_self, gPv_n, gPv_i, gPv_r, gPv_0, Option.toList_some, Option.toList_none, List.singleton_append, List.cons_append, List.nil_append, List.length_nil, List.length_cons, Nat.zero_le, Nat.reduceAdd, Nat.reduceLeDiff, or_true, true_or, false_or, or_false, and_self, and_false, false_and, implies_true, Option.some.injEq, exists_eq_left', sk_20 hv3, sr_20_0 hv3, sr_20_1 hv3, sr_20_2 hv3, sr_20_3 hv3]
      refine hS τ3 (t2 + 1) pq2 z2 X2 nd2 _ h3 (by omega) ?_ ?_
      · intro τ4 e hr4 he
        rw [hr4] at K0
        simp (disch := omega) only [e_55_70, e_55_73, e_55_74, n10, n01, Nat.lt_irrefl, Nat.not_lt_zero, ne_eq, Nat.add_zero, Nat.one_ne_zero, Nat.zero_ne_one, Nat.reduceEqDiff, bI_T, bI_F, bI_0, bI_1, bI_01, not_and_self, true_and, and_true, not_true_eq_false, not_false_eq_true, false_imp_iff, true_imp_iff, imp_self, gPv_n, gPv_i, gPv_r, gPv_0, Option.toList_some, Option.toList_none, List.singleton_append, List.cons_append, List.nil_append, List.length_nil, List.length_cons, Nat.zero_le, Nat.reduceAdd, Nat.reduceLeDiff, or_true, true_or, false_or, or_false, and_self, and_false, false_and, implies_true, Option.some.injEq, exists_eq_left', nL, nI_add, nI_mul, nI_clamp, nI_ltI, nI_leI, nI_eq, nI_pos, nI_pos', Nat.reduceAdd, Nat.reduceMul, Nat.reducePow]
        exact K0 τ4 e rfl he
      · intro τ4 t4 pq4 g z4 X4 nd4 hr4 hs4 d1 d2 d3 d4 d5 d6 d7
        rw [hr4] at K1
        simp only at K1
        have hv4 := (cr_X Y hs4.1).1
        have tn4 := hs4.2.2.1.1
        have e1 := b5.1.1
        have e2 := d5.1.1
        simp (disch := omega) only [e_55_70, e_55_75, e_55_76, e_55_77, e_55_78, n10, n01, Nat.lt_irrefl, Nat.not_lt_zero, ne_eq, Nat.add_zero, Nat.one_ne_zero, Nat.zero_ne_one, Nat.reduceEqDiff, bI_T, bI_F, bI_0, bI_1, bI_01, not_and_self, true_and, and_true, not_true_eq_false, not_false_eq_true, false_imp_iff, true_imp_iff, imp_self, gPv_n, gPv_i, gPv_r, gPv_0, Option.toList_some, Option.toList_none, List.singleton_append, List.cons_append, List.nil_append, List.length_nil, List.length_cons, Nat.zero_le, Nat.reduceAdd, Nat.reduceLeDiff, or_true, true_or, false_or, or_false, and_self, and_false, false_and, implies_true, Option.some.injEq, exists_eq_left', nL, nI_add, nI_mul, nI_clamp, nI_ltI, nI_leI, nI_eq, nI_pos, nI_pos', Nat.reduceAdd, Nat.reduceMul, Nat.reducePow, sk_20 hv4, sr_20_0 hv4, sr_20_1 hv4, sr_20_2 hv4, sr_20_3 hv4]
        refine k_emit (d := D + 2) Y hs4 (by omega) (by omega) ?_
        intro τ5 h5
        simp (disch := omega) only [e_55_81, e_55_81n, e_55_82, e_55_83, n10, n01, Nat.lt_irrefl, Nat.not_lt_zero, ne_eq, Nat.add_zero, Nat.one_ne_zero, Nat.zero_ne_one, Nat.reduceEqDiff, bI_T, bI_F, bI_0, bI_1, bI_01, not_and_self, true_and, and_true, not_true_eq_false, not_false_eq_true, false_imp_iff, true_imp_iff, imp_self, gPv_n, gPv_i, gPv_r, gPv_0, Option.toList_some, Option.toList_none, List.singleton_append, List.cons_append, List.nil_append, List.length_nil, List.length_cons, Nat.zero_le, Nat.reduceAdd, Nat.reduceLeDiff, or_true, true_or, false_or, or_false, and_self, and_false, false_and, implies_true, Option.some.injEq, exists_eq_left', nL, nI_add, nI_mul, nI_clamp, nI_ltI, nI_leI, nI_eq, nI_pos, nI_pos', Nat.reduceAdd, Nat.reduceMul, Nat.reducePow]
        refine K1 τ5 t4 pq4 _ (z4 + 1) _ nd4 rfl h5 (by omega) (by omega) (by omega) ?_ ?_ (fun w => d6 (b6 w)) ?_
        · intro j hj
          rw [un_ne (by omega), d4 j (by omega), b4 j hj]
        · rw [show pq4 - pq = (pq2 - pq) + (pq4 - pq2) from by omega]
          exact Cd_cmp (CdS_c b5 (fun j j1 j2 => by rw [un_ne (by omega)]; exact d4 j (by omega))) (CdS_c d5 (fun j j1 j2 => un_ne (by omega))) (by rw [un_eq]; omega) hkk
        · rcases b7 with w | w
          · exact Or.inl (d6 w)
          · rcases d7 with y | y
            · exact Or.inl y
            · exact Or.inr (dy_cmp w y)
    by_cases g1 : cT T q t2 = 160
    · have bd := body 6 (Or.inl ⟨rfl, g1⟩)
      have nn : ¬ nI 6 = -nI 1 := by decide
      simp (disch := omega) only [e_55_5, e_55_10, e_55_11, e_55_13, e_55_16, e_55_19, e_55_21, e_55_53, e_55_54, e_55_55, e_55_56, n10, n01, Nat.lt_irrefl, Nat.not_lt_zero, ne_eq, Nat.add_zero, Nat.one_ne_zero, Nat.zero_ne_one, Nat.reduceEqDiff, bI_T, bI_F, bI_0, bI_1, bI_01, not_and_self, true_and, and_true, not_true_eq_false, not_false_eq_true, false_imp_iff, true_imp_iff, imp_self, gPv_n, gPv_i, gPv_r, gPv_0, Option.toList_some, Option.toList_none, List.singleton_append, List.cons_append, List.nil_append, List.length_nil, List.length_cons, Nat.zero_le, Nat.reduceAdd, Nat.reduceLeDiff, or_true, true_or, false_or, or_false, and_self, and_false, false_and, implies_true, Option.some.injEq, exists_eq_left', nL, nI_add, nI_mul, nI_clamp, nI_ltI, nI_leI, nI_eq, nI_pos, nI_pos', Nat.reduceAdd, Nat.reduceMul, Nat.reducePow, sk_20 hv2, sr_20_0 hv2, sr_20_1 hv2, sr_20_2 hv2, sr_20_3 hv2, sg1, g1, nn]
      exact bd
    · by_cases g2 : cT T q t2 = 162
      · have bd := body 7 (Or.inr (Or.inl ⟨rfl, g2⟩))
        have nn : ¬ nI 7 = -nI 1 := by decide
        simp (disch := omega) only [e_55_5, e_55_10, e_55_11, e_55_13, e_55_16, e_55_19, e_55_21, e_55_24, e_55_25, e_55_27, e_55_30, e_55_33, e_55_35, e_55_53, e_55_54, e_55_55, e_55_56, n10, n01, Nat.lt_irrefl, Nat.not_lt_zero, ne_eq, Nat.add_zero, Nat.one_ne_zero, Nat.zero_ne_one, Nat.reduceEqDiff, bI_T, bI_F, bI_0, bI_1, bI_01, not_and_self, true_and, and_true, not_true_eq_false, not_false_eq_true, false_imp_iff, true_imp_iff, imp_self, gPv_n, gPv_i, gPv_r, gPv_0, Option.toList_some, Option.toList_none, List.singleton_append, List.cons_append, List.nil_append, List.length_nil, List.length_cons, Nat.zero_le, Nat.reduceAdd, Nat.reduceLeDiff, or_true, true_or, false_or, or_false, and_self, and_false, false_and, implies_true, Option.some.injEq, exists_eq_left', nL, nI_add, nI_mul, nI_clamp, nI_ltI, nI_leI, nI_eq, nI_pos, nI_pos', Nat.reduceAdd, Nat.reduceMul, Nat.reducePow, sk_20 hv2, sr_20_0 hv2, sr_20_1 hv2, sr_20_2 hv2, sr_20_3 hv2, sg1, sg2, g1, g2, nn, Nat.reduceEqDiff]
        exact bd
      · by_cases g3 : cT T q t2 = 161
        · have bd := body 8 (Or.inr (Or.inr ⟨rfl, g3⟩))
          have nn : ¬ nI 8 = -nI 1 := by decide
          simp (disch := omega) only [e_55_5, e_55_10, e_55_11, e_55_13, e_55_16, e_55_19, e_55_21, e_55_24, e_55_25, e_55_27, e_55_30, e_55_33, e_55_35, e_55_38, e_55_39, e_55_41, e_55_44, e_55_47, e_55_49, e_55_52, e_55_53, e_55_54, e_55_55, e_55_56, n10, n01, Nat.lt_irrefl, Nat.not_lt_zero, ne_eq, Nat.add_zero, Nat.one_ne_zero, Nat.zero_ne_one, Nat.reduceEqDiff, bI_T, bI_F, bI_0, bI_1, bI_01, not_and_self, true_and, and_true, not_true_eq_false, not_false_eq_true, false_imp_iff, true_imp_iff, imp_self, gPv_n, gPv_i, gPv_r, gPv_0, Option.toList_some, Option.toList_none, List.singleton_append, List.cons_append, List.nil_append, List.length_nil, List.length_cons, Nat.zero_le, Nat.reduceAdd, Nat.reduceLeDiff, or_true, true_or, false_or, or_false, and_self, and_false, false_and, implies_true, Option.some.injEq, exists_eq_left', nL, nI_add, nI_mul, nI_clamp, nI_ltI, nI_leI, nI_eq, nI_pos, nI_pos', Nat.reduceAdd, Nat.reduceMul, Nat.reducePow, sk_20 hv2, sr_20_0 hv2, sr_20_1 hv2, sr_20_2 hv2, sr_20_3 hv2, sg1, sg2, sg3, g1, g2, g3, nn, Nat.reduceEqDiff]
          exact bd
        · rw [if_neg (by omega)] at K0
          simp (disch := omega) only [e_55_5, e_55_10, e_55_11, e_55_13, e_55_16, e_55_19, e_55_21, e_55_24, e_55_25, e_55_27, e_55_30, e_55_33, e_55_35, e_55_38, e_55_39, e_55_41, e_55_44, e_55_47, e_55_49, e_55_52, e_55_53, e_55_54, e_55_55, e_55_56, e_55_59, e_55_60, n10, n01, Nat.lt_irrefl, Nat.not_lt_zero, ne_eq, Nat.add_zero, Nat.one_ne_zero, Nat.zero_ne_one, Nat.reduceEqDiff, bI_T, bI_F, bI_0, bI_1, bI_01, not_and_self, true_and, and_true, not_true_eq_false, not_false_eq_true, false_imp_iff, true_imp_iff, imp_self, gPv_n, gPv_i, gPv_r, gPv_0, Option.toList_some, Option.toList_none, List.singleton_append, List.cons_append, List.nil_append, List.length_nil, List.length_cons, Nat.zero_le, Nat.reduceAdd, Nat.reduceLeDiff, or_true, true_or, false_or, or_false, and_self, and_false, false_and, implies_true, Option.some.injEq, exists_eq_left', nL, nI_add, nI_mul, nI_clamp, nI_ltI, nI_leI, nI_eq, nI_pos, nI_pos', Nat.reduceAdd, Nat.reduceMul, Nat.reducePow, sk_20 hv2, sr_20_0 hv2, sr_20_1 hv2, sr_20_2 hv2, sr_20_3 hv2, sg1, sg2, sg3, g1, g2, g3]
          exact K0 τ2 t2 rfl (CS_E hs)
theorem k_brk0 {D : Nat} {S : Nat → Nat → zR zS} {U : Nat → Nat → zR zT} : CR1 B q n T σ (D + 4) 54 [.int (nI 8)] (pPos (cT T q) S U false) (fun t => cT T q t = 140) := by
  intro τ t pq z X nd Q a1 h hz K0 K1
  rw [pPos, if_pos a1, if_neg (by decide)] at K0
  simp (disch := omega) only [c_54, e_54_0, e_54_1, e_54_3, e_54_6, e_54_7, n10, n01, Nat.lt_irrefl, Nat.not_lt_zero, ne_eq, Nat.add_zero, Nat.one_ne_zero, Nat.zero_ne_one, Nat.reduceEqDiff, bI_T, bI_F, bI_0, bI_1, bI_01, not_and_self, true_and, and_true, not_true_eq_false, not_false_eq_true, false_imp_iff, true_imp_iff, imp_self, gPv_n, gPv_i, gPv_r, gPv_0, Option.toList_some, Option.toList_none, List.singleton_append, List.cons_append, List.nil_append, List.length_nil, List.length_cons, Nat.zero_le, Nat.reduceAdd, Nat.reduceLeDiff, or_true, true_or, false_or, or_false, and_self, and_false, false_and, implies_true, Option.some.injEq, exists_eq_left', nL, nI_add, nI_mul, nI_clamp, nI_ltI, nI_leI, nI_eq, nI_pos, nI_pos', Nat.reduceAdd, Nat.reduceMul, Nat.reducePow, Nat.lt_irrefl]
  exact K0 τ t rfl (CS_E h)
theorem k_brkS {D dp : Nat} {S : Nat → Nat → zR zS} {U : Nat → Nat → zR zT} (Y : CX B q n T σ) (hdp : dp < 8) (hU : CRd B q n T σ (D + 3) 51 [.int (nI (dp + 1))] U CdT) : CR1 B q n T σ (D + 4) 54 [.int (nI dp)] (pPos (cT T q) S U true) (fun t => cT T q t = 140) := by
  intro τ t pq z X nd Q a1 h hz K0 K1
  rw [pPos, if_pos a1, if_pos rfl] at K0 K1
  have tn : t < n := CX_c Y (by omega)
  have hv := (cr_X Y h.1).1
  simp (disch := omega) only [c_54, e_54_0, e_54_1, e_54_3, e_54_8, e_54_9, n10, n01, Nat.lt_irrefl, Nat.not_lt_zero, ne_eq, Nat.add_zero, Nat.one_ne_zero, Nat.zero_ne_one, Nat.reduceEqDiff, bI_T, bI_F, bI_0, bI_1, bI_01, not_and_self, true_and, and_true, not_true_eq_false, not_false_eq_true, false_imp_iff, true_imp_iff, imp_self, gPv_n, gPv_i, gPv_r, gPv_0, Option.toList_some, Option.toList_none, List.singleton_append, List.cons_append, List.nil_append, List.length_nil, List.length_cons, Nat.zero_le, Nat.reduceAdd, Nat.reduceLeDiff, or_true, true_or, false_or, or_false, and_self, and_false, false_and, implies_true, Option.some.injEq, exists_eq_left', nL, nI_add, nI_mul, nI_clamp, nI_ltI, nI_leI, nI_eq, nI_pos, nI_pos', Nat.reduceAdd, Nat.reduceMul, Nat.reducePow, sk_20 hv, sr_20_0 hv, sr_20_1 hv, sr_20_2 hv, sr_20_3 hv, hdp]
  refine k_go (d := D + 1) Y h tn ?_
  intro τ1 h1
  have hv1 := (cr_X Y h1.1).1
  simp (disch := omega) only [e_54_12, e_54_13, e_54_14, e_54_15, e_54_16, n10, n01, Nat.lt_irrefl, Nat.not_lt_zero, ne_eq, Nat.add_zero, Nat.one_ne_zero, Nat.zero_ne_one, Nat.reduceEqDiff, bI_T, bI_F, bI_0, bI_1, bI_01, not_and_self, true_and, and_true, not_true_eq_false, not_false_eq_true, false_imp_iff, true_imp_iff, imp_self, gPv_n, gPv_i, gPv_r, gPv_0, Option.toList_some, Option.toList_none, List.singleton_append, List.cons_append, List.nil_append, List.length_nil, List.length_cons, Nat.zero_le, Nat.reduceAdd, Nat.reduceLeDiff, or_true, true_or, false_or, or_false, and_self, and_false, false_and, implies_true, Option.some.injEq, exists_eq_left', nL, nI_add, sk_20 hv1, sr_20_0 hv1, sr_20_1 hv1, sr_20_2 hv1, sr_20_3 hv1]
  refine hU τ1 (t + 1) pq z X nd _ h1 (by omega) ?_ ?_
  · intro τ2 e hr he
    rw [hr] at K0
    simp (disch := omega) only [e_54_19, e_54_31, e_54_32, n10, n01, Nat.lt_irrefl, Nat.not_lt_zero, ne_eq, Nat.add_zero, Nat.one_ne_zero, Nat.zero_ne_one, Nat.reduceEqDiff, bI_T, bI_F, bI_0, bI_1, bI_01, not_and_self, true_and, and_true, not_true_eq_false, not_false_eq_true, false_imp_iff, true_imp_iff, imp_self, gPv_n, gPv_i, gPv_r, gPv_0, Option.toList_some, Option.toList_none, List.singleton_append, List.cons_append, List.nil_append, List.length_nil, List.length_cons, Nat.zero_le, Nat.reduceAdd, Nat.reduceLeDiff, or_true, true_or, false_or, or_false, and_self, and_false, false_and, implies_true, Option.some.injEq, exists_eq_left', nL, nI_add, nI_mul, nI_clamp, nI_ltI, nI_leI, nI_eq, nI_pos, nI_pos', Nat.reduceAdd, Nat.reduceMul, Nat.reducePow]
    exact K0 τ2 e rfl he
  · intro τ2 t' pq' f z' X' nd' hr hs b1 b2 b3 b4 b5 b6 b7
    rw [hr] at K0 K1
    simp only at K0 K1
    have Z2 := cr_X Y hs.1
    have hv2 := Z2.1
    have sg : ∀ (d : Nat) (Q : Option Value → gS → Prop), wc (d + 1) 47 [.ref (B + 20), .int (nI 41)] τ2 Q ↔ Q (some (.int (bI (cT T q t' = 141)))) τ2 := fun d Q => s_isSign Z2 hs.2.1 (by omega) rfl
    by_cases a2 : cT T q t' = 141
    · rw [if_pos a2] at K1
      have tn' : t' < n := CX_c Y (by omega)
      simp (disch := omega) only [e_54_19, e_54_22, e_54_23, e_54_25, e_54_28, e_54_33, e_54_34, n10, n01, Nat.lt_irrefl, Nat.not_lt_zero, ne_eq, Nat.add_zero, Nat.one_ne_zero, Nat.zero_ne_one, Nat.reduceEqDiff, bI_T, bI_F, bI_0, bI_1, bI_01, not_and_self, true_and, and_true, not_true_eq_false, not_false_eq_true, false_imp_iff, true_imp_iff, imp_self, gPv_n, gPv_i, gPv_r, gPv_0, Option.toList_some, Option.toList_none, List.singleton_append, List.cons_append, List.nil_append, List.length_nil, List.length_cons, Nat.zero_le, Nat.reduceAdd, Nat.reduceLeDiff, or_true, true_or, false_or, or_false, and_self, and_false, false_and, implies_true, Option.some.injEq, exists_eq_left', nL, nI_add, nI_mul, nI_clamp, nI_ltI, nI_leI, nI_eq, nI_pos, nI_pos', Nat.reduceAdd, Nat.reduceMul, Nat.reducePow, sk_20 hv2, sr_20_0 hv2, sr_20_1 hv2, sr_20_2 hv2, sr_20_3 hv2, sg, a2]
      refine k_go (d := D + 1) Y hs tn' ?_
      intro τ3 h3
      simp (disch := omega) only [e_54_37, e_54_38, n10, n01, Nat.lt_irrefl, Nat.not_lt_zero, ne_eq, Nat.add_zero, Nat.one_ne_zero, Nat.zero_ne_one, Nat.reduceEqDiff, bI_T, bI_F, bI_0, bI_1, bI_01, not_and_self, true_and, and_true, not_true_eq_false, not_false_eq_true, false_imp_iff, true_imp_iff, imp_self, gPv_n, gPv_i, gPv_r, gPv_0, Option.toList_some, Option.toList_none, List.singleton_append, List.cons_append, List.nil_append, List.length_nil, List.length_cons, Nat.zero_le, Nat.reduceAdd, Nat.reduceLeDiff, or_true, true_or, false_or, or_false, and_self, and_false, false_and, implies_true, Option.some.injEq, exists_eq_left', nL, nI_add, nI_mul, nI_clamp, nI_ltI, nI_leI, nI_eq, nI_pos, nI_pos', Nat.reduceAdd, Nat.reduceMul, Nat.reducePow]
      exact K1 τ3 (t' + 1) pq' f z' X' nd' rfl h3 (by omega) (by omega) b3 b4 b5 b6 b7
    · rw [if_neg a2] at K0
      simp (disch := omega) only [e_54_19, e_54_22, e_54_23, e_54_25, e_54_28, e_54_31, e_54_32, n10, n01, Nat.lt_irrefl, Nat.not_lt_zero, ne_eq, Nat.add_zero, Nat.one_ne_zero, Nat.zero_ne_one, Nat.reduceEqDiff, bI_T, bI_F, bI_0, bI_1, bI_01, not_and_self, true_and, and_true, not_true_eq_false, not_false_eq_true, false_imp_iff, true_imp_iff, imp_self, gPv_n, gPv_i, gPv_r, gPv_0, Option.toList_some, Option.toList_none, List.singleton_append, List.cons_append, List.nil_append, List.length_nil, List.length_cons, Nat.zero_le, Nat.reduceAdd, Nat.reduceLeDiff, or_true, true_or, false_or, or_false, and_self, and_false, false_and, implies_true, Option.some.injEq, exists_eq_left', nL, nI_add, nI_mul, nI_clamp, nI_ltI, nI_leI, nI_eq, nI_pos, nI_pos', Nat.reduceAdd, Nat.reduceMul, Nat.reducePow, sk_20 hv2, sr_20_0 hv2, sr_20_1 hv2, sr_20_2 hv2, sr_20_3 hv2, sg, a2]
      exact K0 τ2 t' rfl (CS_E hs)
theorem k_nots {D dp pq z : Nat} {X : Nat → Nat} {nd : Bool} (Y : CX B q n T σ) : ∀ F t b i τ, CS B q n T σ τ t pq z X nd → i ≤ t → n < t + F → (∀ τ' i', CS B q n T σ τ' (pNots (cT T q) F t b).1 pq z X nd → wp (D + 5) pr_53 Q 41 [some (.ref (B + 20)), some (.int (nI dp)), some (.int (bI ((pNots (cT T q) F t b).2 = true))), some (.int (nI i'))] [] τ') → wp (D + 5) pr_53 Q 4 [some (.ref (B + 20)), some (.int (nI dp)), some (.int (bI (b = true))), some (.int (nI i))] [] τ := by
  obtain ⟨nq, q4⟩ := CX_n Y
  intro F
  induction F with
  | zero =>
    intro t b i τ h _ hF
    have := h.2.2.1.1
    omega
  | succ F ih =>
    intro t b i τ h hi hF K
    have Z := cr_X Y h.1
    have hv := Z.1
    have h4 := Z.2.2.2.2
    have tn0 := h.2.2.1.1
    have w : ∀ (d : Nat) (Q : Option Value → gS → Prop), wc (d + 5) 46 [.ref (B + 20), .ref (gT τ 12)] τ Q ↔ Q (some (.int (bI (cT T q t = 6)))) τ := fun d Q => s_isWord Z h.2.1 (k := 12) (by omega)
    rw [pNots] at K
    rw [e_53_4]
    by_cases a : cT T q t = 6
    · rw [if_pos a] at K
      have tn : t < n := CX_c Y (by omega)
      have iq : ¬ q ≤ i := by omega
      cases b
      · simp (disch := omega) only [e_53_5, e_53_6, e_53_9, e_53_12, e_53_13, e_53_15, e_53_18, e_53_21, e_53_22, e_53_25, e_53_26, e_53_29, e_53_30, e_53_31, e_53_32, n10, n01, Nat.lt_irrefl, Nat.not_lt_zero, ne_eq, Nat.add_zero, Nat.one_ne_zero, Nat.zero_ne_one, Nat.reduceEqDiff, bI_T, bI_F, bI_0, bI_1, bI_01, not_and_self, true_and, and_true, not_true_eq_false, not_false_eq_true, false_imp_iff, true_imp_iff, imp_self, gPv_n, gPv_i, gPv_r, gPv_0, Option.toList_some, Option.toList_none, List.singleton_append, List.cons_append, List.nil_append, List.length_nil, List.length_cons, Nat.zero_le, Nat.reduceAdd, Nat.reduceLeDiff, or_true, true_or, false_or, or_false, and_self, and_false, false_and, implies_true, Option.some.injEq, exists_eq_left', nL, nI_add, nI_mul, nI_clamp, nI_ltI, nI_leI, nI_eq, nI_pos, nI_pos', Nat.reduceAdd, Nat.reduceMul, Nat.reducePow, sk_20 hv, sr_20_0 hv, sr_20_1 hv, sr_20_2 hv, sr_20_3 hv, h4, iq, w, a, Bool.false_eq_true]
        refine k_go (d := D + 3) Y h tn ?_
        intro τ1 h1
        simp (disch := omega) only [e_53_35, e_53_38, n10, n01, Nat.lt_irrefl, Nat.not_lt_zero, ne_eq, Nat.add_zero, Nat.one_ne_zero, Nat.zero_ne_one, Nat.reduceEqDiff, bI_T, bI_F, bI_0, bI_1, bI_01, not_and_self, true_and, and_true, not_true_eq_false, not_false_eq_true, false_imp_iff, true_imp_iff, imp_self, gPv_n, gPv_i, gPv_r, gPv_0, Option.toList_some, Option.toList_none, List.singleton_append, List.cons_append, List.nil_append, List.length_nil, List.length_cons, Nat.zero_le, Nat.reduceAdd, Nat.reduceLeDiff, or_true, true_or, false_or, or_false, and_self, and_false, false_and, implies_true, Option.some.injEq, exists_eq_left', nL, nI_add]
        have := ih (t + 1) true (i + 1) τ1 h1 (by omega) (by omega) K
        simp only [bI_T] at this
        exact this
      · simp (disch := omega) only [e_53_5, e_53_6, e_53_9, e_53_12, e_53_13, e_53_15, e_53_18, e_53_21, e_53_22, e_53_25, e_53_26, e_53_29, e_53_30, e_53_31, e_53_32, n10, n01, Nat.lt_irrefl, Nat.not_lt_zero, ne_eq, Nat.add_zero, Nat.one_ne_zero, Nat.zero_ne_one, Nat.reduceEqDiff, bI_T, bI_F, bI_0, bI_1, bI_01, not_and_self, true_and, and_true, not_true_eq_false, not_false_eq_true, false_imp_iff, true_imp_iff, imp_self, gPv_n, gPv_i, gPv_r, gPv_0, Option.toList_some, Option.toList_none, List.singleton_append, List.cons_append, List.nil_append, List.length_nil, List.length_cons, Nat.zero_le, Nat.reduceAdd, Nat.reduceLeDiff, or_true, true_or, false_or, or_false, and_self, and_false, false_and, implies_true, Option.some.injEq, exists_eq_left', nL, nI_add, nI_mul, nI_clamp, nI_ltI, nI_leI, nI_eq, nI_pos, nI_pos', Nat.reduceAdd, Nat.reduceMul, Nat.reducePow, sk_20 hv, sr_20_0 hv, sr_20_1 hv, sr_20_2 hv, sr_20_3 hv, h4, iq, w, a]
        refine k_go (d := D + 3) Y h tn ?_
        intro τ1 h1
        simp (disch := omega) only [e_53_35, e_53_38, n10, n01, Nat.lt_irrefl, Nat.not_lt_zero, ne_eq, Nat.add_zero, Nat.one_ne_zero, Nat.zero_ne_one, Nat.reduceEqDiff, bI_T, bI_F, bI_0, bI_1, bI_01, not_and_self, true_and, and_true, not_true_eq_false, not_false_eq_true, false_imp_iff, true_imp_iff, imp_self, gPv_n, gPv_i, gPv_r, gPv_0, Option.toList_some, Option.toList_none, List.singleton_append, List.cons_append, List.nil_append, List.length_nil, List.length_cons, Nat.zero_le, Nat.reduceAdd, Nat.reduceLeDiff, or_true, true_or, false_or, or_false, and_self, and_false, false_and, implies_true, Option.some.injEq, exists_eq_left', nL, nI_add]
        have := ih (t + 1) false (i + 1) τ1 h1 (by omega) (by omega) K
        simp only [Bool.false_eq_true, bI_F] at this
        exact this
    · rw [if_neg a] at K
      by_cases iq : q ≤ i
      · simp (disch := omega) only [e_53_5, e_53_6, e_53_9, n10, n01, Nat.lt_irrefl, Nat.not_lt_zero, ne_eq, Nat.add_zero, Nat.one_ne_zero, Nat.zero_ne_one, Nat.reduceEqDiff, bI_T, bI_F, bI_0, bI_1, bI_01, not_and_self, true_and, and_true, not_true_eq_false, not_false_eq_true, false_imp_iff, true_imp_iff, imp_self, gPv_n, gPv_i, gPv_r, gPv_0, Option.toList_some, Option.toList_none, List.singleton_append, List.cons_append, List.nil_append, List.length_nil, List.length_cons, Nat.zero_le, Nat.reduceAdd, Nat.reduceLeDiff, or_true, true_or, false_or, or_false, and_self, and_false, false_and, implies_true, Option.some.injEq, exists_eq_left', nL, nI_add, nI_mul, nI_clamp, nI_ltI, nI_leI, nI_eq, nI_pos, nI_pos', Nat.reduceAdd, Nat.reduceMul, Nat.reducePow, sk_20 hv, sr_20_0 hv, sr_20_1 hv, sr_20_2 hv, sr_20_3 hv, h4, iq]
        exact K τ i h
      · simp (disch := omega) only [e_53_5, e_53_6, e_53_9, e_53_12, e_53_13, e_53_15, e_53_18, n10, n01, Nat.lt_irrefl, Nat.not_lt_zero, ne_eq, Nat.add_zero, Nat.one_ne_zero, Nat.zero_ne_one, Nat.reduceEqDiff, bI_T, bI_F, bI_0, bI_1, bI_01, not_and_self, true_and, and_true, not_true_eq_false, not_false_eq_true, false_imp_iff, true_imp_iff, imp_self, gPv_n, gPv_i, gPv_r, gPv_0, Option.toList_some, Option.toList_none, List.singleton_append, List.cons_append, List.nil_append, List.length_nil, List.length_cons, Nat.zero_le, Nat.reduceAdd, Nat.reduceLeDiff, or_true, true_or, false_or, or_false, and_self, and_false, false_and, implies_true, Option.some.injEq, exists_eq_left', nL, nI_add, nI_mul, nI_clamp, nI_ltI, nI_leI, nI_eq, nI_pos, nI_pos', Nat.reduceAdd, Nat.reduceMul, Nat.reducePow, sk_20 hv, sr_20_0 hv, sr_20_1 hv, sr_20_2 hv, sr_20_3 hv, h4, iq, w, a]
        exact K τ i h
theorem k_plain {D dp F : Nat} {S : Nat → Nat → zR zS} {U : Nat → Nat → zR zT} {b : Bool} (Y : CX B q n T σ) (hF : n < F) (hC : CR1 B q n T σ (D + 5) 55 [.int (nI dp)] (pPos (cT T q) S U b) (fun t => cT T q t ≠ 140)) (hB : CR1 B q n T σ (D + 5) 54 [.int (nI dp)] (pPos (cT T q) S U b) (fun t => cT T q t = 140)) : CRd B q n T σ (D + 6) 53 [.int (nI dp)] (pPlain (cT T q) S U b F) CdT := by
  obtain ⟨nq, q4⟩ := CX_n Y
  intro τ t0 pq z X nd Q h hz K0 K1
  rw [pPlain] at K0 K1
  simp (disch := omega) only [c_53, e_53_0, e_53_1, e_53_2, e_53_3, n10, n01, Nat.lt_irrefl, Nat.not_lt_zero, ne_eq, Nat.add_zero, Nat.one_ne_zero, Nat.zero_ne_one, Nat.reduceEqDiff, bI_T, bI_F, bI_0, bI_1, bI_01, not_and_self, true_and, and_true, not_true_eq_false, not_false_eq_true, false_imp_iff, true_imp_iff, imp_self, gPv_n, gPv_i, gPv_r, gPv_0, Option.toList_some, Option.toList_none, List.singleton_append, List.cons_append, List.nil_append, List.length_nil, List.length_cons, Nat.zero_le, Nat.reduceAdd, Nat.reduceLeDiff, or_true, true_or, false_or, or_false, and_self, and_false, false_and, implies_true, Option.some.injEq, exists_eq_left', nL]
  have st' := k_nots (D := D) (dp := dp) (Q := Q) Y F t0 false 0 τ h (by omega) (by omega)
  simp only [Bool.false_eq_true, bI_F] at st'
  refine st' ?_
  intro τ1 i1 h1
  have up := pNots_up (c := cT T q) F t0 false
  have ne : (pNots (cT T q) F t0 false).2 = true → t0 < (pNots (cT T q) F t0 false).1 := fun w => pNots_ne F t0 false (by rw [w]; decide)
  generalize (pNots (cT T q) F t0 false).1 = t at h1 up ne K0 K1
  generalize (pNots (cT T q) F t0 false).2 = tn at ne K0 K1
  have Z := cr_X Y h1.1
  have hv1 := Z.1
  have sg : ∀ (d : Nat) (Q : Option Value → gS → Prop), wc (d + 1) 47 [.ref (B + 20), .int (nI 40)] τ1 Q ↔ Q (some (.int (bI (cT T q t = 140)))) τ1 := fun d Q => s_isSign Z h1.2.1 (by omega) rfl
  have bad : ∀ τ' e, pPos (cT T q) S U b t pq = .inl e → CE B q T σ τ' e → wp (D + 5) pr_53 Q 63 [some (.ref (B + 20)), some (.int (nI dp)), some (.int (bI (tn = true))), some (.int (nI i1))] [.int (nI 0)] τ' := by
    intro τ' e hr he
    rw [hr] at K0
    simp (disch := omega) only [e_53_63, e_53_64, e_53_65, e_53_80, e_53_81, n10, n01, Nat.lt_irrefl, Nat.not_lt_zero, ne_eq, Nat.add_zero, Nat.one_ne_zero, Nat.zero_ne_one, Nat.reduceEqDiff, bI_T, bI_F, bI_0, bI_1, bI_01, not_and_self, true_and, and_true, not_true_eq_false, not_false_eq_true, false_imp_iff, true_imp_iff, imp_self, gPv_n, gPv_i, gPv_r, gPv_0, Option.toList_some, Option.toList_none, List.singleton_append, List.cons_append, List.nil_append, List.length_nil, List.length_cons, Nat.zero_le, Nat.reduceAdd, Nat.reduceLeDiff, or_true, true_or, false_or, or_false, and_self, and_false, false_and, implies_true, Option.some.injEq, exists_eq_left', nL, nI_add, nI_mul, nI_clamp, nI_ltI, nI_leI, nI_eq, nI_pos, nI_pos', Nat.reduceAdd, Nat.reduceMul, Nat.reducePow]
    exact K0 τ' e rfl he
  have good : ∀ τ' t' pq' f z' X' nd', pPos (cT T q) S U b t pq = .inr (t', pq', f) → CS B q n T σ τ' t' pq' z' X' nd' → t < t' → z' + t ≤ z + t' → pq < pq' → (∀ j, j < z → X' j = X j) → CdT X' z z' (pq' - pq) f → (nd = true → nd' = true) → (nd' = true ∨ dyF f) → wp (D + 5) pr_53 Q 63 [some (.ref (B + 20)), some (.int (nI dp)), some (.int (bI (tn = true))), some (.int (nI i1))] [.int (nI 1)] τ' := by
    intro τ' t' pq' f z' X' nd' hr hs b1 b2 b3 b4 b5 b6 b7
    rw [hr] at K1
    simp only at K1
    have hv' := (cr_X Y hs.1).1
    have tn' := hs.2.2.1.1
    have e1 := b5.1.1
    cases tn
    · simp (disch := omega) only [e_53_63, e_53_64, e_53_65, e_53_68, e_53_69, e_53_80, e_53_81, n10, n01, Nat.lt_irrefl, Nat.not_lt_zero, ne_eq, Nat.add_zero, Nat.one_ne_zero, Nat.zero_ne_one, Nat.reduceEqDiff, bI_T, bI_F, bI_0, bI_1, bI_01, not_and_self, true_and, and_true, not_true_eq_false, not_false_eq_true, false_imp_iff, true_imp_iff, imp_self, gPv_n, gPv_i, gPv_r, gPv_0, Option.toList_some, Option.toList_none, List.singleton_append, List.cons_append, List.nil_append, List.length_nil, List.length_cons, Nat.zero_le, Nat.reduceAdd, Nat.reduceLeDiff, or_true, true_or, false_or, or_false, and_self, and_false, false_and, implies_true, Option.some.injEq, exists_eq_left', nL, nI_add, nI_mul, nI_clamp, nI_ltI, nI_leI, nI_eq, nI_pos, nI_pos', Nat.reduceAdd, Nat.reduceMul, Nat.reducePow, Bool.false_eq_true]
      exact K1 τ' t' pq' _ z' X' nd' rfl hs (by omega) (by omega) b3 b4 (Cd_not0 b5) b6 (b7.imp id dy_not)
    · have := ne rfl
      simp (disch := omega) only [e_53_63, e_53_64, e_53_65, e_53_68, e_53_69, e_53_72, e_53_73, e_53_75, e_53_76, n10, n01, Nat.lt_irrefl, Nat.not_lt_zero, ne_eq, Nat.add_zero, Nat.one_ne_zero, Nat.zero_ne_one, Nat.reduceEqDiff, bI_T, bI_F, bI_0, bI_1, bI_01, not_and_self, true_and, and_true, not_true_eq_false, not_false_eq_true, false_imp_iff, true_imp_iff, imp_self, gPv_n, gPv_i, gPv_r, gPv_0, Option.toList_some, Option.toList_none, List.singleton_append, List.cons_append, List.nil_append, List.length_nil, List.length_cons, Nat.zero_le, Nat.reduceAdd, Nat.reduceLeDiff, or_true, true_or, false_or, or_false, and_self, and_false, false_and, implies_true, Option.some.injEq, exists_eq_left', nL, nI_add, nI_mul, nI_clamp, nI_ltI, nI_leI, nI_eq, nI_pos, nI_pos', Nat.reduceAdd, Nat.reduceMul, Nat.reducePow, sk_20 hv', sr_20_0 hv', sr_20_1 hv', sr_20_2 hv', sr_20_3 hv']
      refine k_emit (d := D + 4) Y hs (by omega) (by omega) ?_
      intro τ2 h2
      simp (disch := omega) only [e_53_79, e_53_79n, e_53_80, e_53_81, n10, n01, Nat.lt_irrefl, Nat.not_lt_zero, ne_eq, Nat.add_zero, Nat.one_ne_zero, Nat.zero_ne_one, Nat.reduceEqDiff, bI_T, bI_F, bI_0, bI_1, bI_01, not_and_self, true_and, and_true, not_true_eq_false, not_false_eq_true, false_imp_iff, true_imp_iff, imp_self, gPv_n, gPv_i, gPv_r, gPv_0, Option.toList_some, Option.toList_none, List.singleton_append, List.cons_append, List.nil_append, List.length_nil, List.length_cons, Nat.zero_le, Nat.reduceAdd, Nat.reduceLeDiff, or_true, true_or, false_or, or_false, and_self, and_false, false_and, implies_true, Option.some.injEq, exists_eq_left', nL, nI_add, nI_mul, nI_clamp, nI_ltI, nI_leI, nI_eq, nI_pos, nI_pos', Nat.reduceAdd, Nat.reduceMul, Nat.reducePow]
      refine K1 τ2 t' pq' _ (z' + 1) _ nd' rfl h2 (by omega) (by omega) b3 (fun j hj => by rw [un_ne (by omega)]; exact b4 j hj) ?_ b6 (b7.imp id dy_not)
      exact Cd_not (CdT_c b5 (fun j j1 j2 => un_ne (by omega))) (by rw [un_eq])
  by_cases a : cT T q t = 140
  · simp (disch := omega) only [e_53_41, e_53_42, e_53_44, e_53_47, e_53_50, e_53_51, e_53_52, n10, n01, Nat.lt_irrefl, Nat.not_lt_zero, ne_eq, Nat.add_zero, Nat.one_ne_zero, Nat.zero_ne_one, Nat.reduceEqDiff, bI_T, bI_F, bI_0, bI_1, bI_01, not_and_self, true_and, and_true, not_true_eq_false, not_false_eq_true, false_imp_iff, true_imp_iff, imp_self, gPv_n, gPv_i, gPv_r, gPv_0, Option.toList_some, Option.toList_none, List.singleton_append, List.cons_append, List.nil_append, List.length_nil, List.length_cons, Nat.zero_le, Nat.reduceAdd, Nat.reduceLeDiff, or_true, true_or, false_or, or_false, and_self, and_false, false_and, implies_true, Option.some.injEq, exists_eq_left', nL, nI_add, nI_mul, nI_clamp, nI_ltI, nI_leI, nI_eq, nI_pos, nI_pos', Nat.reduceAdd, Nat.reduceMul, Nat.reducePow, sk_20 hv1, sr_20_0 hv1, sr_20_1 hv1, sr_20_2 hv1, sr_20_3 hv1, sg, a]
    refine hB τ1 t pq z X nd _ a h1 (by omega) ?_ ?_
    · intro τ' e hr he
      simp (disch := omega) only [e_53_55, n10, n01, Nat.lt_irrefl, Nat.not_lt_zero, ne_eq, Nat.add_zero, Nat.one_ne_zero, Nat.zero_ne_one, Nat.reduceEqDiff, bI_T, bI_F, bI_0, bI_1, bI_01, not_and_self, true_and, and_true, not_true_eq_false, not_false_eq_true, false_imp_iff, true_imp_iff, imp_self, gPv_n, gPv_i, gPv_r, gPv_0, Option.toList_some, Option.toList_none, List.singleton_append, List.cons_append, List.nil_append, List.length_nil, List.length_cons, Nat.zero_le, Nat.reduceAdd, Nat.reduceLeDiff, or_true, true_or, false_or, or_false, and_self, and_false, false_and, implies_true, Option.some.injEq, exists_eq_left']
      exact bad τ' e hr he
    · intro τ' t' pq' f z' X' nd' hr hs b1 b2 b3 b4 b5 b6 b7
      simp (disch := omega) only [e_53_55, n10, n01, Nat.lt_irrefl, Nat.not_lt_zero, ne_eq, Nat.add_zero, Nat.one_ne_zero, Nat.zero_ne_one, Nat.reduceEqDiff, bI_T, bI_F, bI_0, bI_1, bI_01, not_and_self, true_and, and_true, not_true_eq_false, not_false_eq_true, false_imp_iff, true_imp_iff, imp_self, gPv_n, gPv_i, gPv_r, gPv_0, Option.toList_some, Option.toList_none, List.singleton_append, List.cons_append, List.nil_append, List.length_nil, List.length_cons, Nat.zero_le, Nat.reduceAdd, Nat.reduceLeDiff, or_true, true_or, false_or, or_false, and_self, and_false, false_and, implies_true, Option.some.injEq, exists_eq_left']
      exact good τ' t' pq' f z' X' nd' hr hs b1 b2 b3 b4 b5 b6 b7
  · simp (disch := omega) only [e_53_41, e_53_42, e_53_44, e_53_47, e_53_58, e_53_59, e_53_60, n10, n01, Nat.lt_irrefl, Nat.not_lt_zero, ne_eq, Nat.add_zero, Nat.one_ne_zero, Nat.zero_ne_one, Nat.reduceEqDiff, bI_T, bI_F, bI_0, bI_1, bI_01, not_and_self, true_and, and_true, not_true_eq_false, not_false_eq_true, false_imp_iff, true_imp_iff, imp_self, gPv_n, gPv_i, gPv_r, gPv_0, Option.toList_some, Option.toList_none, List.singleton_append, List.cons_append, List.nil_append, List.length_nil, List.length_cons, Nat.zero_le, Nat.reduceAdd, Nat.reduceLeDiff, or_true, true_or, false_or, or_false, and_self, and_false, false_and, implies_true, Option.some.injEq, exists_eq_left', nL, nI_add, nI_mul, nI_clamp, nI_ltI, nI_leI, nI_eq, nI_pos, nI_pos', Nat.reduceAdd, Nat.reduceMul, Nat.reducePow, sk_20 hv1, sr_20_0 hv1, sr_20_1 hv1, sr_20_2 hv1, sr_20_3 hv1, sg, a]
    refine hC τ1 t pq z X nd _ a h1 (by omega) ?_ ?_
    · intro τ' e hr he
      exact bad τ' e hr he
    · intro τ' t' pq' f z' X' nd' hr hs b1 b2 b3 b4 b5 b6 b7
      exact good τ' t' pq' f z' X' nd' hr hs b1 b2 b3 b4 b5 b6 b7
theorem k_lp52 {D dp t0 pq0 z0 : Nat} {nd0 : Bool} {X0 : Nat → Nat} {R : Nat → Nat → zR zT} (Y : CX B q n T σ) (hR : CRd B q n T σ (D + 6) 53 [.int (nI dp)] R CdT) (hz0 : z0 ≤ t0) : ∀ F t pq z X nd f i τ x3, CS B q n T σ τ t pq z X nd → i ≤ t → n < t + F → t0 < t → z + t0 ≤ z0 + t → pq0 < pq → (∀ j, j < z0 → X j = X0 j) → CdT X z0 z (pq - pq0) f → (nd0 = true → nd = true) → (nd = true ∨ dyF f) → (∀ τ' e, pLoop (cT T q) 5 5 R (fun _ => dAnd) F t pq f = .inl e → CE B q T σ τ' e → Q (some (.int (nI 0))) τ') → (∀ τ' t' pq' f' z' X' nd', pLoop (cT T q) 5 5 R (fun _ => dAnd) F t pq f = .inr (t', pq', f') → CS B q n T σ τ' t' pq' z' X' nd' → t0 < t' → z' + t0 ≤ z0 + t' → pq0 < pq' → (∀ j, j < z0 → X' j = X0 j) → CdT X' z0 z' (pq' - pq0) f' → (nd0 = true → nd' = true) → (nd' = true ∨ dyF f') → Q (some (.int (nI 1))) τ') → wp (D + 6) pr_52 Q 12 [some (.ref (B + 20)), some (.int (nI dp)), some (.int (nI i)), x3] [] τ := by
  obtain ⟨nq, q4⟩ := CX_n Y
  intro F
  induction F with
  | zero =>
    intro t pq z X nd f i τ x3 h _ hF
    have := h.2.2.1.1
    omega
  | succ F ih =>
    intro t pq z X nd f i τ x3 h hi hF c1 c2 c3 c4 c5 c6 c7 K0 K1
    have Z := cr_X Y h.1
    have hv := Z.1
    have h4 := Z.2.2.2.2
    have tn0 := h.2.2.1.1
    have z0z := c5.1.1
    have w : ∀ (d : Nat) (Q : Option Value → gS → Prop), wc (d + 5) 46 [.ref (B + 20), .ref (gT τ 13)] τ Q ↔ Q (some (.int (bI (cT T q t = 5)))) τ := fun d Q => s_isWord Z h.2.1 (k := 13) (by omega)
    rw [pLoop] at K0 K1
    rw [e_52_12]
    by_cases a : cT T q t = 5
    · rw [if_pos (Or.inl a)] at K0 K1
      have tn : t < n := CX_c Y (by omega)
      have iq : ¬ q ≤ i := by omega
      simp (disch := omega) only [e_52_13, e_52_14, e_52_17, e_52_20, e_52_21, e_52_23, e_52_26, e_52_29, e_52_30, e_52_32, e_52_33, n10, n01, Nat.lt_irrefl, Nat.not_lt_zero, ne_eq, Nat.add_zero, Nat.one_ne_zero, Nat.zero_ne_one, Nat.reduceEqDiff, bI_T, bI_F, bI_0, bI_1, bI_01, not_and_self, true_and, and_true, not_true_eq_false, not_false_eq_true, false_imp_iff, true_imp_iff, imp_self, gPv_n, gPv_i, gPv_r, gPv_0, Option.toList_some, Option.toList_none, List.singleton_append, List.cons_append, List.nil_append, List.length_nil, List.length_cons, Nat.zero_le, Nat.reduceAdd, Nat.reduceLeDiff, or_true, true_or, false_or, or_false, and_self, and_false, false_and, implies_true, Option.some.injEq, exists_eq_left', nL, nI_add, nI_mul, nI_clamp, nI_ltI, nI_leI, nI_eq, nI_pos, nI_pos', Nat.reduceAdd, Nat.reduceMul, Nat.reducePow, sk_20 hv, sr_20_0 hv, sr_20_1 hv, sr_20_2 hv, sr_20_3 hv, h4, iq, w, a]
      refine k_emit (d := D + 5) Y h (by omega) (by omega) ?_
      intro τ1 h1
      have hv1 := (cr_X Y h1.1).1
      simp (disch := omega) only [e_52_36, e_52_37, e_52_38, n10, n01, Nat.lt_irrefl, Nat.not_lt_zero, ne_eq, Nat.add_zero, Nat.one_ne_zero, Nat.zero_ne_one, Nat.reduceEqDiff, bI_T, bI_F, bI_0, bI_1, bI_01, not_and_self, true_and, and_true, not_true_eq_false, not_false_eq_true, false_imp_iff, true_imp_iff, imp_self, gPv_n, gPv_i, gPv_r, gPv_0, Option.toList_some, Option.toList_none, List.singleton_append, List.cons_append, List.nil_append, List.length_nil, List.length_cons, Nat.zero_le, Nat.reduceAdd, Nat.reduceLeDiff, or_true, true_or, false_or, or_false, and_self, and_false, false_and, implies_true, Option.some.injEq, exists_eq_left', sk_20 hv1, sr_20_0 hv1, sr_20_1 hv1, sr_20_2 hv1, sr_20_3 hv1]
      refine k_go (d := D + 4) Y h1 tn ?_
      intro τ2 h2
      have hv2 := (cr_X Y h2.1).1
      simp (disch := omega) only [e_52_41, e_52_42, e_52_43, n10, n01, Nat.lt_irrefl, Nat.not_lt_zero, ne_eq, Nat.add_zero, Nat.one_ne_zero, Nat.zero_ne_one, Nat.reduceEqDiff, bI_T, bI_F, bI_0, bI_1, bI_01, not_and_self, true_and, and_true, not_true_eq_false, not_false_eq_true, false_imp_iff, true_imp_iff, imp_self, gPv_n, gPv_i, gPv_r, gPv_0, Option.toList_some, Option.toList_none, List.singleton_append, List.cons_append, List.nil_append, List.length_nil, List.length_cons, Nat.zero_le, Nat.reduceAdd, Nat.reduceLeDiff, or_true, true_or, false_or, or_false, and_self, and_false, false_and, implies_true, Option.some.injEq, exists_eq_left', sk_20 hv2, sr_20_0 hv2, sr_20_1 hv2, sr_20_2 hv2, sr_20_3 hv2]
      refine hR τ2 (t + 1) pq (z + 1) _ nd _ h2 (by omega) ?_ ?_
      · intro τ3 e hr he
        rw [hr] at K0
        simp (disch := omega) only [e_52_46, e_52_49, e_52_50, n10, n01, Nat.lt_irrefl, Nat.not_lt_zero, ne_eq, Nat.add_zero, Nat.one_ne_zero, Nat.zero_ne_one, Nat.reduceEqDiff, bI_T, bI_F, bI_0, bI_1, bI_01, not_and_self, true_and, and_true, not_true_eq_false, not_false_eq_true, false_imp_iff, true_imp_iff, imp_self, gPv_n, gPv_i, gPv_r, gPv_0, Option.toList_some, Option.toList_none, List.singleton_append, List.cons_append, List.nil_append, List.length_nil, List.length_cons, Nat.zero_le, Nat.reduceAdd, Nat.reduceLeDiff, or_true, true_or, false_or, or_false, and_self, and_false, false_and, implies_true, Option.some.injEq, exists_eq_left', nL, nI_add, nI_mul, nI_clamp, nI_ltI, nI_leI, nI_eq, nI_pos, nI_pos', Nat.reduceAdd, Nat.reduceMul, Nat.reducePow]
        exact K0 τ3 e rfl he
      · intro τ3 t3 pq3 g z3 X3 nd3 hr hs b1 b2 b3 b4 b5 b6 b7
        rw [hr] at K0 K1
        simp only at K0 K1
        have hv3 := (cr_X Y hs.1).1
        have tn3 := hs.2.2.1.1
        have zz := b5.1.1
        simp (disch := omega) only [e_52_46, e_52_51, e_52_52, e_52_53, e_52_55, n10, n01, Nat.lt_irrefl, Nat.not_lt_zero, ne_eq, Nat.add_zero, Nat.one_ne_zero, Nat.zero_ne_one, Nat.reduceEqDiff, bI_T, bI_F, bI_0, bI_1, bI_01, not_and_self, true_and, and_true, not_true_eq_false, not_false_eq_true, false_imp_iff, true_imp_iff, imp_self, gPv_n, gPv_i, gPv_r, gPv_0, Option.toList_some, Option.toList_none, List.singleton_append, List.cons_append, List.nil_append, List.length_nil, List.length_cons, Nat.zero_le, Nat.reduceAdd, Nat.reduceLeDiff, or_true, true_or, false_or, or_false, and_self, and_false, false_and, implies_true, Option.some.injEq, exists_eq_left', nL, nI_add, nI_mul, nI_clamp, nI_ltI, nI_leI, nI_eq, nI_pos, nI_pos', Nat.reduceAdd, Nat.reduceMul, Nat.reducePow, sk_20 hv3, sr_20_0 hv3, sr_20_1 hv3, sr_20_2 hv3, sr_20_3 hv3]
        refine k_lead (d := D + 5) Y hs (by omega) (by omega) (by omega) ?_
        intro τ4 h4'
        simp (disch := omega) only [e_52_58, e_52_61, n10, n01, Nat.lt_irrefl, Nat.not_lt_zero, ne_eq, Nat.add_zero, Nat.one_ne_zero, Nat.zero_ne_one, Nat.reduceEqDiff, bI_T, bI_F, bI_0, bI_1, bI_01, not_and_self, true_and, and_true, not_true_eq_false, not_false_eq_true, false_imp_iff, true_imp_iff, imp_self, gPv_n, gPv_i, gPv_r, gPv_0, Option.toList_some, Option.toList_none, List.singleton_append, List.cons_append, List.nil_append, List.length_nil, List.length_cons, Nat.zero_le, Nat.reduceAdd, Nat.reduceLeDiff, or_true, true_or, false_or, or_false, and_self, and_false, false_and, implies_true, Option.some.injEq, exists_eq_left', nL, nI_add]
        refine ih t3 pq3 z3 _ nd3 (dAnd f g) (i + 1) τ4 _ h4' (by omega) (by omega) (by omega) (by omega) (by omega) ?_ ?_ (fun y => b6 (c6 y)) ?_ K0 K1
        · intro j hj
          rw [un_ne (by omega), b4 j (by omega), un_ne (by omega)]
          exact c4 j hj
        · rw [show pq3 - pq0 = (pq - pq0) + (pq3 - pq) from by omega]
          refine Cd_and (m := z) (CdT_c c5 (fun j j1 j2 => by rw [un_ne (by omega), b4 j (by omega), un_ne (by omega)])) (CdT_c b5 (fun j j1 j2 => un_ne (by omega))) (by rw [un_eq]) (by omega)
        · rcases c7 with y | y
          · exact Or.inl (b6 y)
          · rcases b7 with y2 | y2
            · exact Or.inl y2
            · exact Or.inr (dy_and y y2)
    · rw [if_neg (by omega)] at K1
      have fin := K1 τ t pq f z X nd rfl h c1 c2 c3 c4 c5 c6 c7
      by_cases iq : q ≤ i
      · simp (disch := omega) only [e_52_13, e_52_14, e_52_17, e_52_64, e_52_65, n10, n01, Nat.lt_irrefl, Nat.not_lt_zero, ne_eq, Nat.add_zero, Nat.one_ne_zero, Nat.zero_ne_one, Nat.reduceEqDiff, bI_T, bI_F, bI_0, bI_1, bI_01, not_and_self, true_and, and_true, not_true_eq_false, not_false_eq_true, false_imp_iff, true_imp_iff, imp_self, gPv_n, gPv_i, gPv_r, gPv_0, Option.toList_some, Option.toList_none, List.singleton_append, List.cons_append, List.nil_append, List.length_nil, List.length_cons, Nat.zero_le, Nat.reduceAdd, Nat.reduceLeDiff, or_true, true_or, false_or, or_false, and_self, and_false, false_and, implies_true, Option.some.injEq, exists_eq_left', nL, nI_add, nI_mul, nI_clamp, nI_ltI, nI_leI, nI_eq, nI_pos, nI_pos', Nat.reduceAdd, Nat.reduceMul, Nat.reducePow, sk_20 hv, sr_20_0 hv, sr_20_1 hv, sr_20_2 hv, sr_20_3 hv, h4, iq]
        exact fin
      · simp (disch := omega) only [e_52_13, e_52_14, e_52_17, e_52_20, e_52_21, e_52_23, e_52_26, e_52_64, e_52_65, n10, n01, Nat.lt_irrefl, Nat.not_lt_zero, ne_eq, Nat.add_zero, Nat.one_ne_zero, Nat.zero_ne_one, Nat.reduceEqDiff, bI_T, bI_F, bI_0, bI_1, bI_01, not_and_self, true_and, and_true, not_true_eq_false, not_false_eq_true, false_imp_iff, true_imp_iff, imp_self, gPv_n, gPv_i, gPv_r, gPv_0, Option.toList_some, Option.toList_none, List.singleton_append, List.cons_append, List.nil_append, List.length_nil, List.length_cons, Nat.zero_le, Nat.reduceAdd, Nat.reduceLeDiff, or_true, true_or, false_or, or_false, and_self, and_false, false_and, implies_true, Option.some.injEq, exists_eq_left', nL, nI_add, nI_mul, nI_clamp, nI_ltI, nI_leI, nI_eq, nI_pos, nI_pos', Nat.reduceAdd, Nat.reduceMul, Nat.reducePow, sk_20 hv, sr_20_0 hv, sr_20_1 hv, sr_20_2 hv, sr_20_3 hv, h4, iq, w, a]
        exact fin
theorem k_ch52 {D dp F : Nat} {R : Nat → Nat → zR zT} (Y : CX B q n T σ) (hF : n < F) (hR : CRd B q n T σ (D + 6) 53 [.int (nI dp)] R CdT) : CRd B q n T σ (D + 7) 52 [.int (nI dp)] (pChain (cT T q) 5 5 R (fun _ => dAnd) F) CdT := by
  intro τ t pq z X nd Q h hz K0 K1
  have hv := (cr_X Y h.1).1
  rw [pChain] at K0 K1
  simp (disch := omega) only [c_52, e_52_0, e_52_1, e_52_2, n10, n01, Nat.lt_irrefl, Nat.not_lt_zero, ne_eq, Nat.add_zero, Nat.one_ne_zero, Nat.zero_ne_one, Nat.reduceEqDiff, bI_T, bI_F, bI_0, bI_1, bI_01, not_and_self, true_and, and_true, not_true_eq_false, not_false_eq_true, false_imp_iff, true_imp_iff, imp_self, gPv_n, gPv_i, gPv_r, gPv_0, Option.toList_some, Option.toList_none, List.singleton_append, List.cons_append, List.nil_append, List.length_nil, List.length_cons, Nat.zero_le, Nat.reduceAdd, Nat.reduceLeDiff, or_true, true_or, false_or, or_false, and_self, and_false, false_and, implies_true, Option.some.injEq, exists_eq_left', sk_20 hv, sr_20_0 hv, sr_20_1 hv, sr_20_2 hv, sr_20_3 hv]
  refine hR τ t pq z X nd _ h hz ?_ ?_
  · intro τ2 e hr he
    rw [hr] at K0
    simp (disch := omega) only [e_52_5, e_52_8, e_52_9, n10, n01, Nat.lt_irrefl, Nat.not_lt_zero, ne_eq, Nat.add_zero, Nat.one_ne_zero, Nat.zero_ne_one, Nat.reduceEqDiff, bI_T, bI_F, bI_0, bI_1, bI_01, not_and_self, true_and, and_true, not_true_eq_false, not_false_eq_true, false_imp_iff, true_imp_iff, imp_self, gPv_n, gPv_i, gPv_r, gPv_0, Option.toList_some, Option.toList_none, List.singleton_append, List.cons_append, List.nil_append, List.length_nil, List.length_cons, Nat.zero_le, Nat.reduceAdd, Nat.reduceLeDiff, or_true, true_or, false_or, or_false, and_self, and_false, false_and, implies_true, Option.some.injEq, exists_eq_left', nL, nI_add, nI_mul, nI_clamp, nI_ltI, nI_leI, nI_eq, nI_pos, nI_pos', Nat.reduceAdd, Nat.reduceMul, Nat.reducePow]
    exact K0 τ2 e rfl he
  · intro τ2 t2 pq2 g z2 X2 nd2 hr hs b1 b2 b3 b4 b5 b6 b7
    rw [hr] at K0 K1
    simp only at K0 K1
    simp (disch := omega) only [e_52_5, e_52_10, e_52_11, n10, n01, Nat.lt_irrefl, Nat.not_lt_zero, ne_eq, Nat.add_zero, Nat.one_ne_zero, Nat.zero_ne_one, Nat.reduceEqDiff, bI_T, bI_F, bI_0, bI_1, bI_01, not_and_self, true_and, and_true, not_true_eq_false, not_false_eq_true, false_imp_iff, true_imp_iff, imp_self, gPv_n, gPv_i, gPv_r, gPv_0, Option.toList_some, Option.toList_none, List.singleton_append, List.cons_append, List.nil_append, List.length_nil, List.length_cons, Nat.zero_le, Nat.reduceAdd, Nat.reduceLeDiff, or_true, true_or, false_or, or_false, and_self, and_false, false_and, implies_true, Option.some.injEq, exists_eq_left', nL, nI_add, nI_mul, nI_clamp, nI_ltI, nI_leI, nI_eq, nI_pos, nI_pos', Nat.reduceAdd, Nat.reduceMul, Nat.reducePow]
    exact k_lp52 (D := D) (X0 := X) (t0 := t) (pq0 := pq) (z0 := z) (nd0 := nd) Y hR hz F t2 pq2 z2 X2 nd2 g 0 τ2 _ hs (by omega) (by omega) b1 b2 b3 b4 b5 b6 b7 K0 K1
theorem k_lp51 {D dp t0 pq0 z0 : Nat} {nd0 : Bool} {X0 : Nat → Nat} {R : Nat → Nat → zR zT} (Y : CX B q n T σ) (hR : CRd B q n T σ (D + 6) 52 [.int (nI dp)] R CdT) (hz0 : z0 ≤ t0) : ∀ F t pq z X nd f i τ x3, CS B q n T σ τ t pq z X nd → i ≤ t → n < t + F → t0 < t → z + t0 ≤ z0 + t → pq0 < pq → (∀ j, j < z0 → X j = X0 j) → CdT X z0 z (pq - pq0) f → (nd0 = true → nd = true) → (nd = true ∨ dyF f) → (∀ τ' e, pLoop (cT T q) 4 4 R (fun _ => dOr) F t pq f = .inl e → CE B q T σ τ' e → Q (some (.int (nI 0))) τ') → (∀ τ' t' pq' f' z' X' nd', pLoop (cT T q) 4 4 R (fun _ => dOr) F t pq f = .inr (t', pq', f') → CS B q n T σ τ' t' pq' z' X' nd' → t0 < t' → z' + t0 ≤ z0 + t' → pq0 < pq' → (∀ j, j < z0 → X' j = X0 j) → CdT X' z0 z' (pq' - pq0) f' → (nd0 = true → nd' = true) → (nd' = true ∨ dyF f') → Q (some (.int (nI 1))) τ') → wp (D + 6) pr_51 Q 12 [some (.ref (B + 20)), some (.int (nI dp)), some (.int (nI i)), x3] [] τ := by
  obtain ⟨nq, q4⟩ := CX_n Y
  intro F
  induction F with
  | zero =>
    intro t pq z X nd f i τ x3 h _ hF
    have := h.2.2.1.1
    omega
  | succ F ih =>
    intro t pq z X nd f i τ x3 h hi hF c1 c2 c3 c4 c5 c6 c7 K0 K1
    have Z := cr_X Y h.1
    have hv := Z.1
    have h4 := Z.2.2.2.2
    have tn0 := h.2.2.1.1
    have z0z := c5.1.1
    have w : ∀ (d : Nat) (Q : Option Value → gS → Prop), wc (d + 5) 46 [.ref (B + 20), .ref (gT τ 14)] τ Q ↔ Q (some (.int (bI (cT T q t = 4)))) τ := fun d Q => s_isWord Z h.2.1 (k := 14) (by omega)
    rw [pLoop] at K0 K1
    rw [e_51_12]
    by_cases a : cT T q t = 4
    · rw [if_pos (Or.inl a)] at K0 K1
      have tn : t < n := CX_c Y (by omega)
      have iq : ¬ q ≤ i := by omega
      simp (disch := omega) only [e_51_13, e_51_14, e_51_17, e_51_20, e_51_21, e_51_23, e_51_26, e_51_29, e_51_30, e_51_32, e_51_33, n10, n01, Nat.lt_irrefl, Nat.not_lt_zero, ne_eq, Nat.add_zero, Nat.one_ne_zero, Nat.zero_ne_one, Nat.reduceEqDiff, bI_T, bI_F, bI_0, bI_1, bI_01, not_and_self, true_and, and_true, not_true_eq_false, not_false_eq_true, false_imp_iff, true_imp_iff, imp_self, gPv_n, gPv_i, gPv_r, gPv_0, Option.toList_some, Option.toList_none, List.singleton_append, List.cons_append, List.nil_append, List.length_nil, List.length_cons, Nat.zero_le, Nat.reduceAdd, Nat.reduceLeDiff, or_true, true_or, false_or, or_false, and_self, and_false, false_and, implies_true, Option.some.injEq, exists_eq_left', nL, nI_add, nI_mul, nI_clamp, nI_ltI, nI_leI, nI_eq, nI_pos, nI_pos', Nat.reduceAdd, Nat.reduceMul, Nat.reducePow, sk_20 hv, sr_20_0 hv, sr_20_1 hv, sr_20_2 hv, sr_20_3 hv, h4, iq, w, a]
      refine k_emit (d := D + 5) Y h (by omega) (by omega) ?_
      intro τ1 h1
      have hv1 := (cr_X Y h1.1).1
      simp (disch := omega) only [e_51_36, e_51_37, e_51_38, n10, n01, Nat.lt_irrefl, Nat.not_lt_zero, ne_eq, Nat.add_zero, Nat.one_ne_zero, Nat.zero_ne_one, Nat.reduceEqDiff, bI_T, bI_F, bI_0, bI_1, bI_01, not_and_self, true_and, and_true, not_true_eq_false, not_false_eq_true, false_imp_iff, true_imp_iff, imp_self, gPv_n, gPv_i, gPv_r, gPv_0, Option.toList_some, Option.toList_none, List.singleton_append, List.cons_append, List.nil_append, List.length_nil, List.length_cons, Nat.zero_le, Nat.reduceAdd, Nat.reduceLeDiff, or_true, true_or, false_or, or_false, and_self, and_false, false_and, implies_true, Option.some.injEq, exists_eq_left', sk_20 hv1, sr_20_0 hv1, sr_20_1 hv1, sr_20_2 hv1, sr_20_3 hv1]
      refine k_go (d := D + 4) Y h1 tn ?_
      intro τ2 h2
      have hv2 := (cr_X Y h2.1).1
      simp (disch := omega) only [e_51_41, e_51_42, e_51_43, n10, n01, Nat.lt_irrefl, Nat.not_lt_zero, ne_eq, Nat.add_zero, Nat.one_ne_zero, Nat.zero_ne_one, Nat.reduceEqDiff, bI_T, bI_F, bI_0, bI_1, bI_01, not_and_self, true_and, and_true, not_true_eq_false, not_false_eq_true, false_imp_iff, true_imp_iff, imp_self, gPv_n, gPv_i, gPv_r, gPv_0, Option.toList_some, Option.toList_none, List.singleton_append, List.cons_append, List.nil_append, List.length_nil, List.length_cons, Nat.zero_le, Nat.reduceAdd, Nat.reduceLeDiff, or_true, true_or, false_or, or_false, and_self, and_false, false_and, implies_true, Option.some.injEq, exists_eq_left', sk_20 hv2, sr_20_0 hv2, sr_20_1 hv2, sr_20_2 hv2, sr_20_3 hv2]
      refine hR τ2 (t + 1) pq (z + 1) _ nd _ h2 (by omega) ?_ ?_
      · intro τ3 e hr he
        rw [hr] at K0
        simp (disch := omega) only [e_51_46, e_51_49, e_51_50, n10, n01, Nat.lt_irrefl, Nat.not_lt_zero, ne_eq, Nat.add_zero, Nat.one_ne_zero, Nat.zero_ne_one, Nat.reduceEqDiff, bI_T, bI_F, bI_0, bI_1, bI_01, not_and_self, true_and, and_true, not_true_eq_false, not_false_eq_true, false_imp_iff, true_imp_iff, imp_self, gPv_n, gPv_i, gPv_r, gPv_0, Option.toList_some, Option.toList_none, List.singleton_append, List.cons_append, List.nil_append, List.length_nil, List.length_cons, Nat.zero_le, Nat.reduceAdd, Nat.reduceLeDiff, or_true, true_or, false_or, or_false, and_self, and_false, false_and, implies_true, Option.some.injEq, exists_eq_left', nL, nI_add, nI_mul, nI_clamp, nI_ltI, nI_leI, nI_eq, nI_pos, nI_pos', Nat.reduceAdd, Nat.reduceMul, Nat.reducePow]
        exact K0 τ3 e rfl he
      · intro τ3 t3 pq3 g z3 X3 nd3 hr hs b1 b2 b3 b4 b5 b6 b7
        rw [hr] at K0 K1
        simp only at K0 K1
        have hv3 := (cr_X Y hs.1).1
        have tn3 := hs.2.2.1.1
        have zz := b5.1.1
        simp (disch := omega) only [e_51_46, e_51_51, e_51_52, e_51_53, e_51_55, n10, n01, Nat.lt_irrefl, Nat.not_lt_zero, ne_eq, Nat.add_zero, Nat.one_ne_zero, Nat.zero_ne_one, Nat.reduceEqDiff, bI_T, bI_F, bI_0, bI_1, bI_01, not_and_self, true_and, and_true, not_true_eq_false, not_false_eq_true, false_imp_iff, true_imp_iff, imp_self, gPv_n, gPv_i, gPv_r, gPv_0, Option.toList_some, Option.toList_none, List.singleton_append, List.cons_append, List.nil_append, List.length_nil, List.length_cons, Nat.zero_le, Nat.reduceAdd, Nat.reduceLeDiff, or_true, true_or, false_or, or_false, and_self, and_false, false_and, implies_true, Option.some.injEq, exists_eq_left', nL, nI_add, nI_mul, nI_clamp, nI_ltI, nI_leI, nI_eq, nI_pos, nI_pos', Nat.reduceAdd, Nat.reduceMul, Nat.reducePow, sk_20 hv3, sr_20_0 hv3, sr_20_1 hv3, sr_20_2 hv3, sr_20_3 hv3]
        refine k_lead (d := D + 5) Y hs (by omega) (by omega) (by omega) ?_
        intro τ4 h4'
        simp (disch := omega) only [e_51_58, e_51_61, n10, n01, Nat.lt_irrefl, Nat.not_lt_zero, ne_eq, Nat.add_zero, Nat.one_ne_zero, Nat.zero_ne_one, Nat.reduceEqDiff, bI_T, bI_F, bI_0, bI_1, bI_01, not_and_self, true_and, and_true, not_true_eq_false, not_false_eq_true, false_imp_iff, true_imp_iff, imp_self, gPv_n, gPv_i, gPv_r, gPv_0, Option.toList_some, Option.toList_none, List.singleton_append, List.cons_append, List.nil_append, List.length_nil, List.length_cons, Nat.zero_le, Nat.reduceAdd, Nat.reduceLeDiff, or_true, true_or, false_or, or_false, and_self, and_false, false_and, implies_true, Option.some.injEq, exists_eq_left', nL, nI_add]
        refine ih t3 pq3 z3 _ nd3 (dOr f g) (i + 1) τ4 _ h4' (by omega) (by omega) (by omega) (by omega) (by omega) ?_ ?_ (fun y => b6 (c6 y)) ?_ K0 K1
        · intro j hj
          rw [un_ne (by omega), b4 j (by omega), un_ne (by omega)]
          exact c4 j hj
        · rw [show pq3 - pq0 = (pq - pq0) + (pq3 - pq) from by omega]
          refine Cd_or (m := z) (CdT_c c5 (fun j j1 j2 => by rw [un_ne (by omega), b4 j (by omega), un_ne (by omega)])) (CdT_c b5 (fun j j1 j2 => un_ne (by omega))) (by rw [un_eq]) (by omega)
        · rcases c7 with y | y
          · exact Or.inl (b6 y)
          · rcases b7 with y2 | y2
            · exact Or.inl y2
            · exact Or.inr (dy_or y y2)
    · rw [if_neg (by omega)] at K1
      have fin := K1 τ t pq f z X nd rfl h c1 c2 c3 c4 c5 c6 c7
      by_cases iq : q ≤ i
      · simp (disch := omega) only [e_51_13, e_51_14, e_51_17, e_51_64, e_51_65, n10, n01, Nat.lt_irrefl, Nat.not_lt_zero, ne_eq, Nat.add_zero, Nat.one_ne_zero, Nat.zero_ne_one, Nat.reduceEqDiff, bI_T, bI_F, bI_0, bI_1, bI_01, not_and_self, true_and, and_true, not_true_eq_false, not_false_eq_true, false_imp_iff, true_imp_iff, imp_self, gPv_n, gPv_i, gPv_r, gPv_0, Option.toList_some, Option.toList_none, List.singleton_append, List.cons_append, List.nil_append, List.length_nil, List.length_cons, Nat.zero_le, Nat.reduceAdd, Nat.reduceLeDiff, or_true, true_or, false_or, or_false, and_self, and_false, false_and, implies_true, Option.some.injEq, exists_eq_left', nL, nI_add, nI_mul, nI_clamp, nI_ltI, nI_leI, nI_eq, nI_pos, nI_pos', Nat.reduceAdd, Nat.reduceMul, Nat.reducePow, sk_20 hv, sr_20_0 hv, sr_20_1 hv, sr_20_2 hv, sr_20_3 hv, h4, iq]
        exact fin
      · simp (disch := omega) only [e_51_13, e_51_14, e_51_17, e_51_20, e_51_21, e_51_23, e_51_26, e_51_64, e_51_65, n10, n01, Nat.lt_irrefl, Nat.not_lt_zero, ne_eq, Nat.add_zero, Nat.one_ne_zero, Nat.zero_ne_one, Nat.reduceEqDiff, bI_T, bI_F, bI_0, bI_1, bI_01, not_and_self, true_and, and_true, not_true_eq_false, not_false_eq_true, false_imp_iff, true_imp_iff, imp_self, gPv_n, gPv_i, gPv_r, gPv_0, Option.toList_some, Option.toList_none, List.singleton_append, List.cons_append, List.nil_append, List.length_nil, List.length_cons, Nat.zero_le, Nat.reduceAdd, Nat.reduceLeDiff, or_true, true_or, false_or, or_false, and_self, and_false, false_and, implies_true, Option.some.injEq, exists_eq_left', nL, nI_add, nI_mul, nI_clamp, nI_ltI, nI_leI, nI_eq, nI_pos, nI_pos', Nat.reduceAdd, Nat.reduceMul, Nat.reducePow, sk_20 hv, sr_20_0 hv, sr_20_1 hv, sr_20_2 hv, sr_20_3 hv, h4, iq, w, a]
        exact fin
theorem k_ch51 {D dp F : Nat} {R : Nat → Nat → zR zT} (Y : CX B q n T σ) (hF : n < F) (hR : CRd B q n T σ (D + 6) 52 [.int (nI dp)] R CdT) : CRd B q n T σ (D + 7) 51 [.int (nI dp)] (pChain (cT T q) 4 4 R (fun _ => dOr) F) CdT := by
  intro τ t pq z X nd Q h hz K0 K1
  have hv := (cr_X Y h.1).1
  rw [pChain] at K0 K1
  simp (disch := omega) only [c_51, e_51_0, e_51_1, e_51_2, n10, n01, Nat.lt_irrefl, Nat.not_lt_zero, ne_eq, Nat.add_zero, Nat.one_ne_zero, Nat.zero_ne_one, Nat.reduceEqDiff, bI_T, bI_F, bI_0, bI_1, bI_01, not_and_self, true_and, and_true, not_true_eq_false, not_false_eq_true, false_imp_iff, true_imp_iff, imp_self, gPv_n, gPv_i, gPv_r, gPv_0, Option.toList_some, Option.toList_none, List.singleton_append, List.cons_append, List.nil_append, List.length_nil, List.length_cons, Nat.zero_le, Nat.reduceAdd, Nat.reduceLeDiff, or_true, true_or, false_or, or_false, and_self, and_false, false_and, implies_true, Option.some.injEq, exists_eq_left', sk_20 hv, sr_20_0 hv, sr_20_1 hv, sr_20_2 hv, sr_20_3 hv]
  refine hR τ t pq z X nd _ h hz ?_ ?_
  · intro τ2 e hr he
    rw [hr] at K0
    simp (disch := omega) only [e_51_5, e_51_8, e_51_9, n10, n01, Nat.lt_irrefl, Nat.not_lt_zero, ne_eq, Nat.add_zero, Nat.one_ne_zero, Nat.zero_ne_one, Nat.reduceEqDiff, bI_T, bI_F, bI_0, bI_1, bI_01, not_and_self, true_and, and_true, not_true_eq_false, not_false_eq_true, false_imp_iff, true_imp_iff, imp_self, gPv_n, gPv_i, gPv_r, gPv_0, Option.toList_some, Option.toList_none, List.singleton_append, List.cons_append, List.nil_append, List.length_nil, List.length_cons, Nat.zero_le, Nat.reduceAdd, Nat.reduceLeDiff, or_true, true_or, false_or, or_false, and_self, and_false, false_and, implies_true, Option.some.injEq, exists_eq_left', nL, nI_add, nI_mul, nI_clamp, nI_ltI, nI_leI, nI_eq, nI_pos, nI_pos', Nat.reduceAdd, Nat.reduceMul, Nat.reducePow]
    exact K0 τ2 e rfl he
  · intro τ2 t2 pq2 g z2 X2 nd2 hr hs b1 b2 b3 b4 b5 b6 b7
    rw [hr] at K0 K1
    simp only at K0 K1
    simp (disch := omega) only [e_51_5, e_51_10, e_51_11, n10, n01, Nat.lt_irrefl, Nat.not_lt_zero, ne_eq, Nat.add_zero, Nat.one_ne_zero, Nat.zero_ne_one, Nat.reduceEqDiff, bI_T, bI_F, bI_0, bI_1, bI_01, not_and_self, true_and, and_true, not_true_eq_false, not_false_eq_true, false_imp_iff, true_imp_iff, imp_self, gPv_n, gPv_i, gPv_r, gPv_0, Option.toList_some, Option.toList_none, List.singleton_append, List.cons_append, List.nil_append, List.length_nil, List.length_cons, Nat.zero_le, Nat.reduceAdd, Nat.reduceLeDiff, or_true, true_or, false_or, or_false, and_self, and_false, false_and, implies_true, Option.some.injEq, exists_eq_left', nL, nI_add, nI_mul, nI_clamp, nI_ltI, nI_leI, nI_eq, nI_pos, nI_pos', Nat.reduceAdd, Nat.reduceMul, Nat.reducePow]
    exact k_lp51 (D := D) (X0 := X) (t0 := t) (pq0 := pq) (z0 := z) (nd0 := nd) Y hR hz F t2 pq2 z2 X2 nd2 g 0 τ2 _ hs (by omega) (by omega) b1 b2 b3 b4 b5 b6 b7 K0 K1
theorem k_testD {F : Nat} (Y : CX B q n T σ) (hF : n < F) : ∀ r d, r ≤ 8 → CRd B q n T σ (d + 4 * r + 13) 51 [.int (nI (8 - r))] (pTestD (cT T q) (vT T q) F r) CdT := by
  intro r
  induction r with
  | zero =>
    intro d _
    exact k_ch51 (D := d + 6) Y hF (k_ch52 (D := d + 5) Y hF (k_plain (D := d + 5) Y hF (k_comp (D := d + 6) Y (k_sumD Y hF 0 d (by omega))) (k_brk0 (D := d + 6))))
  | succ r ih =>
    intro d hr
    have hU := ih d (by omega)
    have hS := k_sumD Y hF (r + 1) d hr
    have e1 : 8 - (r + 1) + 1 = 8 - r := by omega
    rw [show d + 4 * (r + 1) + 13 = (d + 4 * r + 10) + 7 from by omega]
    rw [show d + 4 * (r + 1) + 9 = d + 4 * r + 10 + 3 from by omega] at hS
    rw [show d + 4 * r + 13 = d + 4 * r + 10 + 3 from by omega] at hU
    refine k_ch51 (D := d + 4 * r + 10) Y hF (k_ch52 (D := d + 4 * r + 9) Y hF (k_plain (D := d + 4 * r + 9) Y hF (k_comp (D := d + 4 * r + 10) Y hS) (k_brkS (D := d + 4 * r + 10) Y (by omega) ?_)))
    rw [e1]
    exact hU
end
