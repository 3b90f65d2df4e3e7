/-! the model reads a text -/
section
variable {B q : Nat} {σ : gS} {T : Nat → Nat} {d : Nat} {Q : Option Value → gS → Prop}
theorem vl_b (hT : ∀ i, i < q → T i < 256) : ∀ m p a, p + m ≤ q → a ≤ 10000300 → vl T m p a ≤ 10000300 := by
  intro m
  induction m with
  | zero => intro p a _ ha; exact ha
  | succ m ih =>
    intro p a hp ha
    have := hT p (by omega)
    rw [vl]
    refine ih _ _ (by omega) ?_
    split <;> omega
theorem vT_b (hT : ∀ i, i < q → T i < 256) (t : Nat) : vT T q t ≤ 10000300 := by
  rw [vT]
  by_cases c : st T q t < q
  · rw [if_pos c, vP]
    by_cases k : kd (T (st T q t)) = 2
    · rw [if_pos k]
      have := en_gt (T := T) c
      exact vl_b hT _ _ _ (by omega) (by omega)
    · rw [if_neg k]; omega
  · rw [if_neg c]; omega
theorem cT_b (hT : ∀ i, i < q → T i < 256) (t : Nat) : cT T q t < 1000 := by
  rw [cT]
  by_cases c : st T q t < q
  · rw [if_pos c, cd]
    have := hT _ c
    have := wx_le (T := T) (p := st T q t) (e := en T q (st T q t))
    split
    · omega
    · split <;> omega
  · rw [if_neg c]; omega
theorem cT_0 {n : Nat} (hn : st T q n = q) {t : Nat} (h : n ≤ t) : cT T q t = 0 := by
  obtain ⟨k, rfl⟩ : ∃ k, t = n + k := ⟨t - n, by omega⟩
  rw [cT, st_q hn k, if_neg (Nat.lt_irrefl _)]
abbrev pT (T : Nat → Nat) (q n : Nat) : zR (List zC) := pLawL (cT T q) (vT T q) (n + 1) n 12 0 0
theorem t_reads (X : TxM B q T σ) (h10 : gI σ (B + 54) 10 = nI q) (K : ∀ τ' n r, Sm (spP B) σ τ' → (∀ j, j ≠ 10 → j ≠ 11 → j ≠ 15 → j ≠ 16 → j ≠ 17 → j ≠ 18 → gI τ' (B + 54) j = gI σ (B + 54) j) → gI τ' (B + 54) 10 = nI 0 → gI τ' (B + 54) 15 = nI n → (∀ t, t < n → st T q t < q) → st T q n = q → SpT B T q (n + 1) τ' → ((∃ e, pT T q n = .inl e ∧ gI τ' (B + 54) 11 = nI (st T q e) ∧ r = nI 0) ∨ (∃ x, pT T q n = .inr x ∧ gI τ' (B + 54) 11 = -nI 1 ∧ r = nI 1)) → Q (some (.int r)) τ') : wc (d + 36) 213 [.ref (B + 54)] σ Q := by
  obtain ⟨hv, hW, hq, hT⟩ := id X
  have hT' : ∀ i, i < q → T i < 256 := fun i hi => (hT i hi).2
  simp (disch := omega) only [c_213, e_213_0, e_213_1, e_213_2, e_213_5, n10, n01, Nat.lt_irrefl, Nat.not_lt_zero, ne_eq, Nat.add_zero, Nat.one_ne_zero, Nat.zero_ne_one, Nat.reduceEqDiff, bI_T, bI_F, bI_0, bI_1, bI_01, not_and_self, true_and, and_true, not_true_eq_false, not_false_eq_true, false_imp_iff, true_imp_iff, imp_self, gPv_n, gPv_i, gPv_r, gPv_0, Option.toList_some, Option.toList_none, List.singleton_append, List.cons_append, List.nil_append, List.length_nil, List.length_cons, Nat.zero_le, Nat.reduceAdd, Nat.reduceLeDiff, or_true, true_or, false_or, or_false, and_self, and_false, false_and, implies_true, Option.some.injEq, exists_eq_left', nL, sk_54 hv, sr_54_2 hv, sr_54_3 hv, sr_54_4 hv, sr_54_5 hv, sr_54_7 hv, sr_54_8 hv, sr_54_9 hv, sr_54_12 hv, sr_54_13 hv, sr_54_14 hv, sr_54_22 hv, sr_54_25 hv, sr_54_26 hv, sr_54_27 hv, sr_54_34 hv, sr_54_35 hv, sr_54_36 hv, sr_54_37 hv, sr_54_38 hv, sr_54_40 hv, sr_54_43 hv, sr_54_44 hv, sr_54_45 hv, sr_54_46 hv, sr_54_47 hv, h10]
  refine t_splits (d := d + 32) X ?_
  intro τ1 n S1 f1 g15 hl hn hR
  have tq := st_ge hl n (Nat.le_refl _)
  have hv1 : IvS B τ1 := fr_IvS S1.1 S1.2.1 S1.2.2.1 hv
  simp (disch := omega) only [e_213_8, e_213_9, e_213_10, e_213_13, e_213_14, e_213_15, e_213_18, e_213_19, e_213_20, e_213_23, e_213_24, e_213_25, e_213_28, e_213_29, n10, n01, Nat.lt_irrefl, Nat.not_lt_zero, ne_eq, Nat.add_zero, Nat.one_ne_zero, Nat.zero_ne_one, Nat.reduceEqDiff, bI_T, bI_F, bI_0, bI_1, bI_01, not_and_self, true_and, and_true, not_true_eq_false, not_false_eq_true, false_imp_iff, true_imp_iff, imp_self, gPv_n, gPv_i, gPv_r, gPv_0, Option.toList_some, Option.toList_none, List.singleton_append, List.cons_append, List.nil_append, List.length_nil, List.length_cons, Nat.zero_le, Nat.reduceAdd, Nat.reduceLeDiff, or_true, true_or, false_or, or_false, and_self, and_false, false_and, implies_true, Option.some.injEq, exists_eq_left', nL, n_K_I, n_K_J, n_K_R, n_K_r, n_N_I, n_N_J, n_N_R, n_N_r, n_R_I, n_R_J, n_R_r, n_J_I, n_J_R, n_J_r, n_I_J, n_I_R, n_n_I, n_n_J, n_n_R, n_n_r, n_w_I, n_w_J, n_w_R, n_w_r, n_T_I, n_T_J, n_T_R, n_T_r, rI_ne, rI_nk, rI_eq, rr_ne, rr_eq, n_J_J, n_R_R, Nat.add_left_cancel_iff, Nat.add_right_cancel_iff, Nat.add_eq_left, Nat.left_eq_add, Nat.reduceEqDiff, Nat.reduceAdd, Nat.zero_ne_one, Nat.one_ne_zero, false_and, and_false, true_and, and_true, and_self, if_false, if_true, ↓reduceIte, sk_54 hv1, sr_54_2 hv1, sr_54_3 hv1, sr_54_4 hv1, sr_54_5 hv1, sr_54_7 hv1, sr_54_8 hv1, sr_54_9 hv1, sr_54_12 hv1, sr_54_13 hv1, sr_54_14 hv1, sr_54_22 hv1, sr_54_25 hv1, sr_54_26 hv1, sr_54_27 hv1, sr_54_34 hv1, sr_54_35 hv1, sr_54_36 hv1, sr_54_37 hv1, sr_54_38 hv1, sr_54_40 hv1, sr_54_43 hv1, sr_54_44 hv1, sr_54_45 hv1, sr_54_46 hv1, sr_54_47 hv1]
  generalize hσ0 : sI τ1 (B + 54) 10 (nI 0) = σ0
  have S0 : Sm (spP B) σ σ0 := by rw [← hσ0]; exact Sm_I S1 (Or.inl rfl)
  have hv0 : IvS B σ0 := fr_IvS S0.1 S0.2.1 S0.2.2.1 hv
  have r0 : ∀ a, a ≠ B + 54 → gI σ0 a = gI τ1 a := fun a ha => by rw [← hσ0, rI_ne ha]
  have M : MRX B n (cT T q) (vT T q) (st T q) σ0 := by
    refine ⟨hv0, by omega, ?_, fun t ht => cT_0 hn ht, fun t => cT_b hT' t, fun t => by have := vT_b hT' t; omega, fun t => by have := st_le (T := T) (q := q) t; omega⟩
    intro t ht
    rw [r0 _ (by omega), r0 _ (by omega), r0 _ (by omega)]
    exact hR t (by omega)
  have e15 : gI σ0 (B + 54) 15 = nI n := by rw [← hσ0, rI_nk (by omega)]; exact g15
  have h0 : FI B σ0 (sI (sI (sI σ0 (B + 54) 16 (nI 0)) (B + 54) 17 (nI 0)) (B + 54) 18 (-nI 1)) 0 0 := by
    refine ⟨rd_I (rd_I (rd_I ⟨Sm_refl _ _, fun _ _ _ _ => rfl⟩ (by omega)) (by omega)) (by omega), ?_, ?_, ?_⟩
    · rw [rI_nk (by omega), rI_nk (by omega), rI_eq]
    · rw [rI_nk (by omega), rI_eq]
    · rw [rI_eq]
  refine (t_clause (d := d + 1) M (Nat.lt_succ_self n)).1 _ 0 0 _ h0 (by omega) (by omega) ?_
  intro τ2 ok
  simp (disch := omega) only [e_213_32, e_213_33, n10, n01, Nat.lt_irrefl, Nat.not_lt_zero, ne_eq, Nat.add_zero, Nat.one_ne_zero, Nat.zero_ne_one, Nat.reduceEqDiff, bI_T, bI_F, bI_0, bI_1, bI_01, not_and_self, true_and, and_true, not_true_eq_false, not_false_eq_true, false_imp_iff, true_imp_iff, imp_self, gPv_n, gPv_i, gPv_r, gPv_0, Option.toList_some, Option.toList_none, List.singleton_append, List.cons_append, List.nil_append, List.length_nil, List.length_cons, Nat.zero_le, Nat.reduceAdd, Nat.reduceLeDiff, or_true, true_or, false_or, or_false, and_self, and_false, false_and, implies_true, Option.some.injEq, exists_eq_left', nL]
  refine t_rd2 (d := d + 1) (F := n + 1) M (Nat.lt_succ_self n) e15 11 1 0 0 τ2 (by omega) ok ?_
  intro τ3 x1 ok3
  have ok3 : OKr B n (st T q) σ0 (pT T q n) τ3 := ok3
  have fin : ∀ τ4 r, rdS B σ0 τ3 → τ4 = sI τ3 (B + 54) 11 (gI τ3 (B + 54) 18) → ((∃ e, pT T q n = .inl e ∧ gI τ3 (B + 54) 18 = nI (st T q e) ∧ r = nI 0) ∨ (∃ x, pT T q n = .inr x ∧ gI τ3 (B + 54) 18 = -nI 1 ∧ r = nI 1)) → Q (some (.int r)) τ4 := by
    intro τ4 r hrd he hres
    have S3 : Sm (spP B) σ τ4 := by
      rw [he]
      exact Sm_I (Sm_trans S0 (Sm_mono hrd.1 (fun a ha => Or.inl ha))) (Or.inl rfl)
    have g : ∀ a, a ≠ B + 54 → gI τ4 a = gI τ1 a := fun a ha => by
      rw [he, rI_ne ha, hrd.1.2.2.2.2.2.2.1 a ha, r0 a ha]
    refine K τ4 n r S3 ?_ ?_ ?_ hl hn ?_ ?_
    · intro j j1 j2 j3 j4 j5 j6
      rw [he, rI_nk j2, hrd.2 j j4 j5 j6, ← hσ0, rI_nk j1]
      exact f1 j j3
    · rw [he, rI_nk (by omega), hrd.2 10 (by omega) (by omega) (by omega), ← hσ0, rI_eq]
    · rw [he, rI_nk (by omega), hrd.2 15 (by omega) (by omega) (by omega)]
      exact e15
    · intro i hi
      rw [g _ (by omega), g _ (by omega), g _ (by omega)]
      exact hR i hi
    · have e11 : gI τ4 (B + 54) 11 = gI τ3 (B + 54) 18 := by rw [he, rI_eq]
      rw [e11]
      exact hres
  cases hr : pT T q n with
  | inl e =>
    rw [hr] at ok3
    have ok3 : FE B (st T q) σ0 τ3 e := ok3
    have hv3 := rd_v hv0 ok3.1
    have h4 : FE B (st T q) σ0 (sI τ3 (B + 54) 11 (gI τ3 (B + 54) 18)) e ∨ True := Or.inr trivial
    have l := st_le (T := T) (q := q) e
    have nn : ¬ nI (st T q e) = -nI 1 := fun z => ng_ne 1 _ (by omega) (by omega) (by omega) z.symm
    have k := fin _ (nI 0) ok3.1 rfl (Or.inl ⟨e, hr, ok3.2, rfl⟩)
    rw [ok3.2] at k
    simp (disch := omega) only [e_213_95, e_213_96, e_213_97, e_213_100, e_213_103, e_213_104, e_213_107, c_200, e_200_0, e_200_1, e_200_4, e_200_5, e_200_8, e_200_9, e_200_12, e_200_13, n10, n01, Nat.lt_irrefl, Nat.not_lt_zero, ne_eq, Nat.add_zero, Nat.one_ne_zero, Nat.zero_ne_one, Nat.reduceEqDiff, bI_T, bI_F, bI_0, bI_1, bI_01, not_and_self, true_and, and_true, not_true_eq_false, not_false_eq_true, false_imp_iff, true_imp_iff, imp_self, gPv_n, gPv_i, gPv_r, gPv_0, Option.toList_some, Option.toList_none, List.singleton_append, List.cons_append, List.nil_append, List.length_nil, List.length_cons, Nat.zero_le, Nat.reduceAdd, Nat.reduceLeDiff, or_true, true_or, false_or, or_false, and_self, and_false, false_and, implies_true, Option.some.injEq, exists_eq_left', nL, nI_add, nI_mul, nI_clamp, nI_ltI, nI_leI, nI_eq, nI_pos, nI_pos', Nat.reduceAdd, Nat.reduceMul, Nat.reducePow, n_K_I, n_K_J, n_K_R, n_K_r, n_N_I, n_N_J, n_N_R, n_N_r, n_R_I, n_R_J, n_R_r, n_J_I, n_J_R, n_J_r, n_I_J, n_I_R, n_n_I, n_n_J, n_n_R, n_n_r, n_w_I, n_w_J, n_w_R, n_w_r, n_T_I, n_T_J, n_T_R, n_T_r, rI_ne, rI_nk, rI_eq, rr_ne, rr_eq, n_J_J, n_R_R, Nat.add_left_cancel_iff, Nat.add_right_cancel_iff, Nat.add_eq_left, Nat.left_eq_add, Nat.reduceEqDiff, Nat.reduceAdd, Nat.zero_ne_one, Nat.one_ne_zero, false_and, and_false, true_and, and_true, and_self, if_false, if_true, ↓reduceIte, sk_54 hv3, sr_54_2 hv3, sr_54_3 hv3, sr_54_4 hv3, sr_54_5 hv3, sr_54_7 hv3, sr_54_8 hv3, sr_54_9 hv3, sr_54_12 hv3, sr_54_13 hv3, sr_54_14 hv3, sr_54_22 hv3, sr_54_25 hv3, sr_54_26 hv3, sr_54_27 hv3, sr_54_34 hv3, sr_54_35 hv3, sr_54_36 hv3, sr_54_37 hv3, sr_54_38 hv3, sr_54_40 hv3, sr_54_43 hv3, sr_54_44 hv3, sr_54_45 hv3, sr_54_46 hv3, sr_54_47 hv3, ok3.2, nn]
    exact k
  | inr x =>
    obtain ⟨t', q', L⟩ := x
    rw [hr] at ok3
    obtain ⟨ok3, _, _⟩ : FI B σ0 τ3 t' q' ∧ t' ≤ n ∧ q' ≤ 50 := ok3
    have hv3 := rd_v hv0 ok3.1
    have k := fin _ (nI 1) ok3.1 rfl (Or.inr ⟨_, hr, ok3.2.2.2, rfl⟩)
    rw [ok3.2.2.2] at k
    simp (disch := omega) only [e_213_95, e_213_96, e_213_97, e_213_100, e_213_103, e_213_104, e_213_107, c_200, e_200_0, e_200_1, e_200_4, e_200_5, e_200_8, e_200_9, e_200_12, e_200_13, n10, n01, Nat.lt_irrefl, Nat.not_lt_zero, ne_eq, Nat.add_zero, Nat.one_ne_zero, Nat.zero_ne_one, Nat.reduceEqDiff, bI_T, bI_F, bI_0, bI_1, bI_01, not_and_self, true_and, and_true, not_true_eq_false, not_false_eq_true, false_imp_iff, true_imp_iff, imp_self, gPv_n, gPv_i, gPv_r, gPv_0, Option.toList_some, Option.toList_none, List.singleton_append, List.cons_append, List.nil_append, List.length_nil, List.length_cons, Nat.zero_le, Nat.reduceAdd, Nat.reduceLeDiff, or_true, true_or, false_or, or_false, and_self, and_false, false_and, implies_true, Option.some.injEq, exists_eq_left', nL, nI_add, nI_mul, nI_clamp, nI_ltI, nI_leI, nI_eq, nI_pos, nI_pos', Nat.reduceAdd, Nat.reduceMul, Nat.reducePow, n_K_I, n_K_J, n_K_R, n_K_r, n_N_I, n_N_J, n_N_R, n_N_r, n_R_I, n_R_J, n_R_r, n_J_I, n_J_R, n_J_r, n_I_J, n_I_R, n_n_I, n_n_J, n_n_R, n_n_r, n_w_I, n_w_J, n_w_R, n_w_r, n_T_I, n_T_J, n_T_R, n_T_r, rI_ne, rI_nk, rI_eq, rr_ne, rr_eq, n_J_J, n_R_R, Nat.add_left_cancel_iff, Nat.add_right_cancel_iff, Nat.add_eq_left, Nat.left_eq_add, Nat.reduceEqDiff, Nat.reduceAdd, Nat.zero_ne_one, Nat.one_ne_zero, false_and, and_false, true_and, and_true, and_self, if_false, if_true, ↓reduceIte, sk_54 hv3, sr_54_2 hv3, sr_54_3 hv3, sr_54_4 hv3, sr_54_5 hv3, sr_54_7 hv3, sr_54_8 hv3, sr_54_9 hv3, sr_54_12 hv3, sr_54_13 hv3, sr_54_14 hv3, sr_54_22 hv3, sr_54_25 hv3, sr_54_26 hv3, sr_54_27 hv3, sr_54_34 hv3, sr_54_35 hv3, sr_54_36 hv3, sr_54_37 hv3, sr_54_38 hv3, sr_54_40 hv3, sr_54_43 hv3, sr_54_44 hv3, sr_54_45 hv3, sr_54_46 hv3, sr_54_47 hv3, ok3.2.2.2]
    exact k
end
