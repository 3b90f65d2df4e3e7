/-! who can visit whom: the class -/
abbrev Rk (B a : Nat) : Prop := B + 26 ≤ a ∧ a ≤ B + 28
section
variable {B : Nat} {own : Nat → Nat} {σ : gS} {A : Nat → Int32} {d : Nat} {Q : Option Value → gS → Prop}
theorem s_lif0 (h : Ctx B own σ A) (h0 : A 255 = -nI 1) : wc (d + 2) 104 [.ref (B + 1)] σ Q ↔ Q (some .null) σ := by
  obtain ⟨hv, ⟨⟨w1, w2, w3, w4, w5⟩, ⟨t1, t2, t3, t4, t5⟩, lw⟩, h3⟩ := h
  have e : gI σ (B + 1) 11 = -nI 1 := t5.2.trans h0
  have z : ¬ (nI 0 ≤ -nI 1 ∧ -nI 1 ≤ nI 5) := by decide
  simp (disch := omega) only [c_104, e_104_0, e_104_1, e_104_4, e_104_5, e_104_6, e_104_9, e_104_12, e_104_13, e_104_16, e_104_17, e_104_20, e_104_21, e_104_24, e_104_25, e_104_25n, n10, n01, Nat.lt_irrefl, Nat.not_lt_zero, ne_eq, Nat.add_zero, Nat.one_ne_zero, Nat.zero_ne_one, Nat.reduceEqDiff, bI_T, bI_F, bI_0, bI_1, bI_01, not_and_self, true_and, and_true, not_true_eq_false, not_false_eq_true, false_imp_iff, true_imp_iff, imp_self, gPv_n, gPv_i, gPv_r, gPv_0, Option.toList_some, Option.toList_none, List.singleton_append, List.cons_append, List.nil_append, List.length_nil, List.length_cons, Nat.zero_le, Nat.reduceAdd, Nat.reduceLeDiff, or_true, true_or, false_or, or_false, and_self, and_false, false_and, implies_true, Option.some.injEq, exists_eq_left', nL, sk_1 hv, sr_1_0 hv, sr_1_1 hv, sr_1_2 hv, sr_1_3 hv, sr_1_4 hv, sr_1_7 hv, sr_1_9 hv, sr_1_14 hv, sr_1_15 hv, sr_1_16 hv, e, s_within, z]
theorem s_lif1 {f p : Nat} (h : Ctx B own σ A) (h0 : A 255 = nI f) (hf : f < 6) (hp : gR σ (B + 8) f = some p) : wc (d + 2) 104 [.ref (B + 1)] σ Q ↔ Q (some (.ref p)) σ := by
  obtain ⟨hv, ⟨⟨w1, w2, w3, w4, w5⟩, ⟨t1, t2, t3, t4, t5⟩, lw⟩, h3⟩ := h
  have e : gI σ (B + 1) 11 = nI f := t5.2.trans h0
  have z : f ≤ 5 := by omega
  simp (disch := omega) only [c_104, e_104_0, e_104_1, e_104_4, e_104_5, e_104_6, e_104_9, e_104_12, e_104_13, e_104_16, e_104_17, e_104_20, e_104_21, e_104_24, e_104_25, e_104_25n, n10, n01, Nat.lt_irrefl, Nat.not_lt_zero, ne_eq, Nat.add_zero, Nat.one_ne_zero, Nat.zero_ne_one, Nat.reduceEqDiff, bI_T, bI_F, bI_0, bI_1, bI_01, not_and_self, true_and, and_true, not_true_eq_false, not_false_eq_true, false_imp_iff, true_imp_iff, imp_self, gPv_n, gPv_i, gPv_r, gPv_0, Option.toList_some, Option.toList_none, List.singleton_append, List.cons_append, List.nil_append, List.length_nil, List.length_cons, Nat.zero_le, Nat.reduceAdd, Nat.reduceLeDiff, or_true, true_or, false_or, or_false, and_self, and_false, false_and, implies_true, Option.some.injEq, exists_eq_left', nL, nI_add, nI_mul, nI_clamp, nI_ltI, nI_leI, nI_eq, nI_pos, nI_pos', Nat.reduceAdd, Nat.reduceMul, Nat.reducePow, sk_1 hv, sr_1_0 hv, sr_1_1 hv, sr_1_2 hv, sr_1_3 hv, sr_1_4 hv, sr_1_7 hv, sr_1_9 hv, sr_1_14 hv, sr_1_15 hv, sr_1_16 hv, sk_8 hv, sn_8 hv, e, s_within, z, hf, hp, Option.some.injEq, forall_eq', reduceCtorEq]
theorem s_tell {f t : Nat} {dr dy : Int32} (h : Ctx B own σ A) (hf : f < hn A) (ht : t < hn A) (K : ∀ τ, Sm (fun a => a = B + 27) σ τ → WdI B (wdF A f t dr dy) τ → Q none τ) : wc (d + 2) 63 [.ref (B + 26), .ref (B + 1), .int (nI f), .int (nI t), .int dr, .int dy] σ Q := by
  obtain ⟨hv, ⟨⟨w1, w2, w3, w4, w5⟩, ⟨t1, t2, t3, t4, t5⟩, lw⟩, h3⟩ := h
  have h12 := hn_le w1
  obtain ⟨f1, f2, f3, f4, f5⟩ := t1.2.2 f hf
  obtain ⟨g1, g2, g3, g4, g5⟩ := t1.2.2 t ht
  have f3 : gI σ (B + 4) f = _ := f3
  have f4 : gI σ (B + 5) f = _ := f4
  have f5 : gI σ (B + 6) f = _ := f5
  have g3 : gI σ (B + 4) t = _ := g3
  have g4 : gI σ (B + 5) t = _ := g4
  have g5 : gI σ (B + 6) t = _ := g5
  have y1 : f < 12 := by omega
  have y2 : t < 12 := by omega
  have hh := t3.1
  simp (disch := omega) only [c_63, e_63_0, e_63_0n, e_63_1, e_63_2, e_63_5, e_63_8, e_63_8n, e_63_9, e_63_10, e_63_13, e_63_16, e_63_17, e_63_18, e_63_21, e_63_22, e_63_23, e_63_24, e_63_25, e_63_28, e_63_29, e_63_30, e_63_31, e_63_32, e_63_35, e_63_36, e_63_36n, e_63_37, e_63_40, e_63_41, e_63_42, e_63_43, e_63_44, e_63_47, e_63_48, e_63_48n, e_63_49, e_63_52, e_63_53, e_63_54, e_63_55, e_63_56, e_63_59, e_63_60, e_63_60n, e_63_61, e_63_64, e_63_65, e_63_66, e_63_66n, e_63_67, e_63_70, e_63_71, e_63_72, e_63_73, e_63_74, e_63_75, e_63_78, e_63_79, e_63_79n, e_63_80, e_63_83, e_63_84, e_63_85, e_63_85n, e_63_86, e_63_89, e_63_90, e_63_91, e_63_92, e_63_93, e_63_94, e_63_97, e_63_99, e_63_101, e_63_102, e_63_103, e_63_106, e_63_108, e_63_108n, e_63_109, e_63_112, e_63_113, e_63_114, e_63_117, e_63_119, e_63_121, e_63_122, n10, n01, Nat.lt_irrefl, Nat.not_lt_zero, ne_eq, Nat.add_zero, Nat.one_ne_zero, Nat.zero_ne_one, Nat.reduceEqDiff, bI_T, bI_F, bI_0, bI_1, bI_01, not_and_self, true_and, and_true, not_true_eq_false, not_false_eq_true, false_imp_iff, true_imp_iff, imp_self, gPv_n, gPv_i, gPv_r, gPv_0, Option.toList_some, Option.toList_none, List.singleton_append, List.cons_append, List.nil_append, List.length_nil, List.length_cons, Nat.zero_le, Nat.reduceAdd, Nat.reduceLeDiff, or_true, true_or, false_or, or_false, and_self, and_false, false_and, implies_true, Option.some.injEq, exists_eq_left', n_K_I, n_K_J, n_K_R, n_K_r, n_N_I, n_N_J, n_N_R, n_N_r, n_R_I, n_R_J, n_R_r, n_J_I, n_J_R, n_J_r, n_I_J, n_I_R, n_n_I, n_n_J, n_n_R, n_n_r, n_w_I, n_w_J, n_w_R, n_w_r, n_T_I, n_T_J, n_T_R, n_T_r, rI_ne, rI_nk, rI_eq, rr_ne, rr_eq, n_J_J, n_R_R, Nat.add_left_cancel_iff, Nat.add_right_cancel_iff, Nat.add_eq_left, Nat.left_eq_add, Nat.reduceEqDiff, Nat.reduceAdd, Nat.zero_ne_one, Nat.one_ne_zero, false_and, and_false, true_and, and_true, and_self, if_false, if_true, ↓reduceIte, nL, nI_add, nI_mul, nI_clamp, nI_ltI, nI_leI, nI_eq, nI_pos, nI_pos', Nat.reduceAdd, Nat.reduceMul, Nat.reducePow, sk_1 hv, sr_1_0 hv, sr_1_1 hv, sr_1_2 hv, sr_1_3 hv, sr_1_4 hv, sr_1_7 hv, sr_1_9 hv, sr_1_14 hv, sr_1_15 hv, sr_1_16 hv, sk_4 hv, sn_4 hv, sk_5 hv, sn_5 hv, sk_6 hv, sn_6 hv, sk_26 hv, sr_26_0 hv, sr_26_1 hv, sk_27 hv, sn_27 hv, s_hasN hv w1 t1 hf, s_hasN hv w1 t1 ht, f3, f4, f5, g3, g4, g5, y1, y2, hh, Nat.reduceLT]
  refine K _ (Sm_I (Sm_I (Sm_I (Sm_I (Sm_I (Sm_I (Sm_I (Sm_I (Sm_I (Sm_refl _ _) rfl) rfl) rfl) rfl) rfl) rfl) rfl) rfl) rfl) ?_
  intro j hj
  rcases lt9 hj with rfl | rfl | rfl | rfl | rfl | rfl | rfl | rfl | rfl <;> simp (disch := omega) only [rI_nk, rI_eq, wdF, List.getD_cons_zero, List.getD_cons_succ]
theorem s_lawBars {f t : Nat} {dr dy : Int32} (h : Ctx B own σ A) (hf : f < hn A) (ht : t < hn A) (K : ∀ τ, Sm (Rk B) σ τ → Q (some (.int (bI (brd A f t dr dy = true)))) τ) : wc (d + 4) 83 [.ref (B + 25), .int (nI f), .int (nI t), .int dr, .int dy] σ Q := by
  have hv := h.1
  rcases Ctx_L h with ⟨h1, h2⟩ | ⟨lf, p, L, h1, h2, h3, h4, h5, h6, h7⟩
  · have K := K σ (Sm_refl _ _)
    have e : brd A f t dr dy = false := by simp only [brd, h2, zBar, List.any_nil]
    simp only [e, Bool.false_eq_true, bI_F] at K
    simp (disch := omega) only [c_83, e_83_0, e_83_1, e_83_4, e_83_7, e_83_7n, e_83_9, e_83_9n, e_83_11, e_83_11n, e_83_14, e_83_15, n10, n01, Nat.lt_irrefl, Nat.not_lt_zero, ne_eq, Nat.add_zero, Nat.one_ne_zero, Nat.zero_ne_one, Nat.reduceEqDiff, bI_T, bI_F, bI_0, bI_1, bI_01, not_and_self, true_and, and_true, not_true_eq_false, not_false_eq_true, false_imp_iff, true_imp_iff, imp_self, gPv_n, gPv_i, gPv_r, gPv_0, Option.toList_some, Option.toList_none, List.singleton_append, List.cons_append, List.nil_append, List.length_nil, List.length_cons, Nat.zero_le, Nat.reduceAdd, Nat.reduceLeDiff, or_true, true_or, false_or, or_false, and_self, and_false, false_and, implies_true, Option.some.injEq, exists_eq_left', nL, sk_1 hv, sr_1_0 hv, sr_1_1 hv, sr_1_2 hv, sr_1_3 hv, sr_1_4 hv, sr_1_7 hv, sr_1_9 hv, sr_1_14 hv, sr_1_15 hv, sr_1_16 hv, sk_25 hv, sr_25_0 hv, sr_25_1 hv, sr_25_2 hv, sr_25_3 hv, sr_25_4 hv, sr_25_5 hv, s_lif0 h h1]
    exact K
  · simp (disch := omega) only [c_83, e_83_0, e_83_1, e_83_4, e_83_7, e_83_7n, e_83_9, e_83_9n, e_83_11, e_83_11n, e_83_14, e_83_15, e_83_16, e_83_17, e_83_20, e_83_21, e_83_24, e_83_25, e_83_26, e_83_27, e_83_29, n10, n01, Nat.lt_irrefl, Nat.not_lt_zero, ne_eq, Nat.add_zero, Nat.one_ne_zero, Nat.zero_ne_one, Nat.reduceEqDiff, bI_T, bI_F, bI_0, bI_1, bI_01, not_and_self, true_and, and_true, not_true_eq_false, not_false_eq_true, false_imp_iff, true_imp_iff, imp_self, gPv_n, gPv_i, gPv_r, gPv_0, Option.toList_some, Option.toList_none, List.singleton_append, List.cons_append, List.nil_append, List.length_nil, List.length_cons, Nat.zero_le, Nat.reduceAdd, Nat.reduceLeDiff, or_true, true_or, false_or, or_false, and_self, and_false, false_and, implies_true, Option.some.injEq, exists_eq_left', nL, sk_1 hv, sr_1_0 hv, sr_1_1 hv, sr_1_2 hv, sr_1_3 hv, sr_1_4 hv, sr_1_7 hv, sr_1_9 hv, sr_1_14 hv, sr_1_15 hv, sr_1_16 hv, sk_25 hv, sr_25_0 hv, sr_25_1 hv, sr_25_2 hv, sr_25_3 hv, sr_25_4 hv, sr_25_5 hv, sk_26 hv, sr_26_0 hv, sr_26_1 hv, s_lif1 h h1 h2 h3]
    refine s_tell h hf ht ?_
    intro τ hS hW
    have hv1 : IvS B τ := fr_IvS hS.1 hS.2.1 hS.2.2.1 hv
    have h41 : LwO B p τ L := LwO_S h4 (fun a ha => by omega) hS
    simp (disch := omega) only [e_83_32, e_83_33, e_83_36, e_83_36n, e_83_38, n10, n01, Nat.lt_irrefl, Nat.not_lt_zero, ne_eq, Nat.add_zero, Nat.one_ne_zero, Nat.zero_ne_one, Nat.reduceEqDiff, bI_T, bI_F, bI_0, bI_1, bI_01, not_and_self, true_and, and_true, not_true_eq_false, not_false_eq_true, false_imp_iff, true_imp_iff, imp_self, gPv_n, gPv_i, gPv_r, gPv_0, Option.toList_some, Option.toList_none, List.singleton_append, List.cons_append, List.nil_append, List.length_nil, List.length_cons, Nat.zero_le, Nat.reduceAdd, Nat.reduceLeDiff, or_true, true_or, false_or, or_false, and_self, and_false, false_and, implies_true, Option.some.injEq, exists_eq_left', nL, sk_25 hv1, sr_25_0 hv1, sr_25_1 hv1, sr_25_2 hv1, sr_25_3 hv1, sr_25_4 hv1, sr_25_5 hv1, sk_26 hv1, sr_26_0 hv1, sr_26_1 hv1]
    refine s_bars hv1 h41 hW ?_
    intro τ' hS'
    have K := K τ' (Sm_trans (Sm_mono hS (fun a ha => by constructor <;> omega)) (Sm_mono hS' (fun a ha => by constructor <;> omega)))
    simp only [brd, h5] at K
    simp (disch := omega) only [e_83_41, n10, n01, Nat.lt_irrefl, Nat.not_lt_zero, ne_eq, Nat.add_zero, Nat.one_ne_zero, Nat.zero_ne_one, Nat.reduceEqDiff, bI_T, bI_F, bI_0, bI_1, bI_01, not_and_self, true_and, and_true, not_true_eq_false, not_false_eq_true, false_imp_iff, true_imp_iff, imp_self, gPv_n, gPv_i, gPv_r, gPv_0, Option.toList_some, Option.toList_none, List.singleton_append, List.cons_append, List.nil_append, List.length_nil, List.length_cons, Nat.zero_le, Nat.reduceAdd, Nat.reduceLeDiff, or_true, true_or, false_or, or_false, and_self, and_false, false_and, implies_true, Option.some.injEq, exists_eq_left', nL]
    exact ⟨(Decidable.em (zBar L (wdF A f t dr dy) = true)).symm, K⟩
theorem s_timeOf {f t : Nat} (h : Ctx B own σ A) (hf : f < hn A) (ht : t < hn A) (K : ∀ τ, Sm (Rk B) σ τ → Q (some (.int (tks A f t (A (72 + 12 * f + t)) (A 249)))) τ) : wc (d + 4) 85 [.ref (B + 25), .int (nI f), .int (nI t)] σ Q := by
  have hv := h.1
  obtain ⟨⟨w1, w2, w3, w4, w5⟩, ⟨t1, t2, t3, t4, t5⟩, lw⟩ := h.2.1
  have h12 := hn_le w1
  rcases Ctx_L h with ⟨h1, h2⟩ | ⟨lf, p, L, h1, h2, h3, h4, h5, h6, h7⟩
  · have K := K σ (Sm_refl _ _)
    have e : tks A f t (A (72 + 12 * f + t)) (A 249) = nI 1 := by simp only [tks, h2, zTak, List.foldl_nil]; rfl
    simp only [e] at K
    simp (disch := omega) only [c_85, e_85_0, e_85_1, e_85_4, e_85_7, e_85_7n, e_85_8, e_85_8n, e_85_9, e_85_9n, e_85_12, e_85_13, e_85_16, e_85_17, e_85_20, e_85_23, e_85_24, n10, n01, Nat.lt_irrefl, Nat.not_lt_zero, ne_eq, Nat.add_zero, Nat.one_ne_zero, Nat.zero_ne_one, Nat.reduceEqDiff, bI_T, bI_F, bI_0, bI_1, bI_01, not_and_self, true_and, and_true, not_true_eq_false, not_false_eq_true, false_imp_iff, true_imp_iff, imp_self, gPv_n, gPv_i, gPv_r, gPv_0, Option.toList_some, Option.toList_none, List.singleton_append, List.cons_append, List.nil_append, List.length_nil, List.length_cons, Nat.zero_le, Nat.reduceAdd, Nat.reduceLeDiff, or_true, true_or, false_or, or_false, and_self, and_false, false_and, implies_true, Option.some.injEq, exists_eq_left', nL, sk_1 hv, sr_1_0 hv, sr_1_1 hv, sr_1_2 hv, sr_1_3 hv, sr_1_4 hv, sr_1_7 hv, sr_1_9 hv, sr_1_14 hv, sr_1_15 hv, sr_1_16 hv, sk_25 hv, sr_25_0 hv, sr_25_1 hv, sr_25_2 hv, sr_25_3 hv, sr_25_4 hv, sr_25_5 hv, s_lif0 h h1]
    exact K
  · have d1 : gI σ (B + 7) f = nI (mkN (Dr A f) 12) := t2.2 f hf
    have m1 : mkN (Dr A f) 12 < 4096 := mk_lt12 (Nat.le_refl 12)
    have y1 : f < 12 := by omega
    have hday : gI σ (B + 1) 13 = A 249 := t3.2
    have e1 : bI ((mkN (Dr A f) 12).testBit t = true) = A (72 + 12 * f + t) := by
      rw [Dr_v w2 (show f < 12 by omega) (show t < 12 by omega), tb_mk]
      have : decide (t < 12) = true := decide_eq_true (by omega)
      rw [this, Bool.true_and]
      cases Dr A f t <;> rfl
    simp (disch := omega) only [c_85, e_85_0, e_85_1, e_85_4, e_85_7, e_85_7n, e_85_8, e_85_8n, e_85_9, e_85_9n, e_85_12, e_85_13, e_85_16, e_85_17, e_85_20, e_85_23, e_85_24, e_85_25, e_85_26, e_85_29, e_85_30, e_85_33, e_85_34, e_85_35, e_85_36, e_85_39, e_85_42, e_85_43, e_85_44, e_85_45, e_85_48, e_85_49, e_85_52, e_85_55, n10, n01, Nat.lt_irrefl, Nat.not_lt_zero, ne_eq, Nat.add_zero, Nat.one_ne_zero, Nat.zero_ne_one, Nat.reduceEqDiff, bI_T, bI_F, bI_0, bI_1, bI_01, not_and_self, true_and, and_true, not_true_eq_false, not_false_eq_true, false_imp_iff, true_imp_iff, imp_self, gPv_n, gPv_i, gPv_r, gPv_0, Option.toList_some, Option.toList_none, List.singleton_append, List.cons_append, List.nil_append, List.length_nil, List.length_cons, Nat.zero_le, Nat.reduceAdd, Nat.reduceLeDiff, or_true, true_or, false_or, or_false, and_self, and_false, false_and, implies_true, Option.some.injEq, exists_eq_left', nL, nI_add, nI_mul, nI_clamp, nI_ltI, nI_leI, nI_eq, nI_pos, nI_pos', Nat.reduceAdd, Nat.reduceMul, Nat.reducePow, sk_1 hv, sr_1_0 hv, sr_1_1 hv, sr_1_2 hv, sr_1_3 hv, sr_1_4 hv, sr_1_7 hv, sr_1_9 hv, sr_1_14 hv, sr_1_15 hv, sr_1_16 hv, sk_7 hv, sn_7 hv, sk_25 hv, sr_25_0 hv, sr_25_1 hv, sr_25_2 hv, sr_25_3 hv, sr_25_4 hv, sr_25_5 hv, sk_26 hv, sr_26_0 hv, sr_26_1 hv, s_lif1 h h1 h2 h3, s_hasN hv w1 t1 hf, s_bitOf, d1, nI_bit, y1, hday, e1]
    refine s_tell h hf ht ?_
    intro τ hS hW
    have hv1 : IvS B τ := fr_IvS hS.1 hS.2.1 hS.2.2.1 hv
    have h41 : LwO B p τ L := LwO_S h4 (fun a ha => by omega) hS
    simp (disch := omega) only [e_85_58, e_85_59, e_85_62, e_85_62n, e_85_63, n10, n01, Nat.lt_irrefl, Nat.not_lt_zero, ne_eq, Nat.add_zero, Nat.one_ne_zero, Nat.zero_ne_one, Nat.reduceEqDiff, bI_T, bI_F, bI_0, bI_1, bI_01, not_and_self, true_and, and_true, not_true_eq_false, not_false_eq_true, false_imp_iff, true_imp_iff, imp_self, gPv_n, gPv_i, gPv_r, gPv_0, Option.toList_some, Option.toList_none, List.singleton_append, List.cons_append, List.nil_append, List.length_nil, List.length_cons, Nat.zero_le, Nat.reduceAdd, Nat.reduceLeDiff, or_true, true_or, false_or, or_false, and_self, and_false, false_and, implies_true, Option.some.injEq, exists_eq_left', nL, sk_25 hv1, sr_25_0 hv1, sr_25_1 hv1, sr_25_2 hv1, sr_25_3 hv1, sr_25_4 hv1, sr_25_5 hv1, sk_26 hv1, sr_26_0 hv1, sr_26_1 hv1]
    refine s_takes hv1 h41 hW ?_
    intro τ' hS'
    have K := K τ' (Sm_trans (Sm_mono hS (fun a ha => by constructor <;> omega)) (Sm_mono hS' (fun a ha => by constructor <;> omega)))
    simp only [tks, h5] at K
    simp (disch := omega) only [e_85_66, n10, n01, Nat.lt_irrefl, Nat.not_lt_zero, ne_eq, Nat.add_zero, Nat.one_ne_zero, Nat.zero_ne_one, Nat.reduceEqDiff, bI_T, bI_F, bI_0, bI_1, bI_01, not_and_self, true_and, and_true, not_true_eq_false, not_false_eq_true, false_imp_iff, true_imp_iff, imp_self, gPv_n, gPv_i, gPv_r, gPv_0, Option.toList_some, Option.toList_none, List.singleton_append, List.cons_append, List.nil_append, List.length_nil, List.length_cons, Nat.zero_le, Nat.reduceAdd, Nat.reduceLeDiff, or_true, true_or, false_or, or_false, and_self, and_false, false_and, implies_true, Option.some.injEq, exists_eq_left', nL]
    exact K
/-- a door's number -/
theorem dr_e {f t : Nat} (w2 : Wd A) (hf : f < 12) (ht : t < 12) : bI ((mkN (Dr A f) 12).testBit t = true) = A (72 + 12 * f + t) := by
  rw [Dr_v w2 hf ht, tb_mk]
  have : decide (t < 12) = true := decide_eq_true (by omega)
  rw [this, Bool.true_and]
  cases Dr A f t <;> rfl
def opB (A : Nat → Int32) (dy : Int32) (a b : Nat) : Bool := decide (a < hn A ∧ a ≠ b) && (St A a && St A b) && (Dr A a b || decide (tch A a b = 1)) && !brd A a b (A (72 + 12 * a + b)) dy
def opn (A : Nat → Int32) (dy : Int32) (a : Nat) : Nat := mkN (opB A dy a) (hn A)
theorem tch_le {a b : Nat} : tch A a b ≤ 2 := by
  simp only [tch, tcA, tc]
  split
  · omega
  · split <;> omega
set_option maxHeartbeats 1000000 in
theorem s_isOpen {a b : Nat} {dy : Int32} (h : Ctx B own σ A) (ha : a < 12) (hb : b < hn A) (K : ∀ τ, Sm (Rk B) σ τ → Q (some (.int (bI (opB A dy a b = true)))) τ) : wc (d + 5) 86 [.ref (B + 25), .int (nI a), .int (nI b), .int dy] σ Q := by
  have hv := h.1
  obtain ⟨⟨w1, w2, w3, w4, w5⟩, ⟨t1, t2, t3, t4, t5⟩, lw⟩ := h.2.1
  have h12 := hn_le w1
  have hn2 := hn_eq w1
  by_cases ha2 : a < hn A
  · by_cases hab : a = b
    · have K := K σ (Sm_refl _ _)
      have e : opB A dy a b = false := by simp [opB, hab]
      simp only [e, Bool.false_eq_true, bI_F] at K
      simp (disch := omega) only [c_86, e_86_0, e_86_1, e_86_4, e_86_5, e_86_6, e_86_9, e_86_12, e_86_13, e_86_16, e_86_17, e_86_18, e_86_21, e_86_24, e_86_25, n10, n01, Nat.lt_irrefl, Nat.not_lt_zero, ne_eq, Nat.add_zero, Nat.one_ne_zero, Nat.zero_ne_one, Nat.reduceEqDiff, bI_T, bI_F, bI_0, bI_1, bI_01, not_and_self, true_and, and_true, not_true_eq_false, not_false_eq_true, false_imp_iff, true_imp_iff, imp_self, gPv_n, gPv_i, gPv_r, gPv_0, Option.toList_some, Option.toList_none, List.singleton_append, List.cons_append, List.nil_append, List.length_nil, List.length_cons, Nat.zero_le, Nat.reduceAdd, Nat.reduceLeDiff, or_true, true_or, false_or, or_false, and_self, and_false, false_and, implies_true, Option.some.injEq, exists_eq_left', nL, nI_add, nI_mul, nI_clamp, nI_ltI, nI_leI, nI_eq, nI_pos, nI_pos', Nat.reduceAdd, Nat.reduceMul, Nat.reducePow, sk_1 hv, sr_1_0 hv, sr_1_1 hv, sr_1_2 hv, sr_1_3 hv, sr_1_4 hv, sr_1_7 hv, sr_1_9 hv, sr_1_14 hv, sr_1_15 hv, sr_1_16 hv, sk_25 hv, sr_25_0 hv, sr_25_1 hv, sr_25_2 hv, sr_25_3 hv, sr_25_4 hv, sr_25_5 hv, c_102, e_102_0, e_102_1, e_102_2, e_102_5, e_102_8, e_102_9, e_102_10, e_102_13, e_102_16, e_102_17, e_102_18, e_102_21, e_102_22, e_102_25, e_102_26, s_has (sk_1 hv), t1.1, hn2, hb, ha2, hab]
      exact K
    · have s6 : gI σ (B + 1) 6 = nI (mkN (St A) (hn A)) := t1.2.1
      have m0 : mkN (St A) (hn A) < 4096 := mk_lt12 h12
      have ea : (mkN (St A) (hn A)).testBit a = St A a := by rw [tb_mk]; simp [ha2]
      have eb : (mkN (St A) (hn A)).testBit b = St A b := by rw [tb_mk]; simp [hb]
      have d1 : gI σ (B + 7) a = nI (mkN (Dr A a) 12) := t2.2 a ha2
      have m1 : mkN (Dr A a) 12 < 4096 := mk_lt12 (Nat.le_refl 12)
      have tl := tch_le (A := A) (a := a) (b := b)
      have b12 : b < 12 := by omega
      have ed : (mkN (Dr A a) 12).testBit b = Dr A a b := by rw [tb_mk]; simp [b12]
      have edr := dr_e w2 (show a < 12 by omega) (show b < 12 by omega)
      have op0 : opB A dy a b = ((St A a && St A b) && (Dr A a b || decide (tch A a b = 1)) && !brd A a b (A (72 + 12 * a + b)) dy) := by simp [opB, ha2, hab]
      by_cases sa : St A a = true
      · by_cases sb' : St A b = true
        · have fin : ∀ x : Prop, (Dr A a b = true ∨ tch A a b = 1) → wp (d + 4) pr_86 Q 60 [some (.ref (B + 25)), some (.int (nI a)), some (.int (nI b)), some (.int dy), some (.int (A (72 + 12 * a + b)))] [] σ := by
            intro _ ht
            have oe : opB A dy a b = !brd A a b (A (72 + 12 * a + b)) dy := by
              rw [op0, sa, sb']
              rcases ht with ht | ht <;> simp [ht]
            simp (disch := omega) only [e_86_60, e_86_61, e_86_62, e_86_63, e_86_65, e_86_66, n10, n01, Nat.lt_irrefl, Nat.not_lt_zero, ne_eq, Nat.add_zero, Nat.one_ne_zero, Nat.zero_ne_one, Nat.reduceEqDiff, bI_T, bI_F, bI_0, bI_1, bI_01, not_and_self, true_and, and_true, not_true_eq_false, not_false_eq_true, false_imp_iff, true_imp_iff, imp_self, gPv_n, gPv_i, gPv_r, gPv_0, Option.toList_some, Option.toList_none, List.singleton_append, List.cons_append, List.nil_append, List.length_nil, List.length_cons, Nat.zero_le, Nat.reduceAdd, Nat.reduceLeDiff, or_true, true_or, false_or, or_false, and_self, and_false, false_and, implies_true, Option.some.injEq, exists_eq_left', nL, sk_25 hv, sr_25_0 hv, sr_25_1 hv, sr_25_2 hv, sr_25_3 hv, sr_25_4 hv, sr_25_5 hv]
            refine s_lawBars h ha2 hb ?_
            intro τ hS
            have K := K τ hS
            rw [oe] at K
            cases hbr : brd A a b (A (72 + 12 * a + b)) dy
            · simp only [hbr, Bool.not_false, bI_T] at K
              simp (disch := omega) only [e_86_69, e_86_72, e_86_73, e_86_76, e_86_77, n10, n01, Nat.lt_irrefl, Nat.not_lt_zero, ne_eq, Nat.add_zero, Nat.one_ne_zero, Nat.zero_ne_one, Nat.reduceEqDiff, bI_T, bI_F, bI_0, bI_1, bI_01, not_and_self, true_and, and_true, not_true_eq_false, not_false_eq_true, false_imp_iff, true_imp_iff, imp_self, gPv_n, gPv_i, gPv_r, gPv_0, Option.toList_some, Option.toList_none, List.singleton_append, List.cons_append, List.nil_append, List.length_nil, List.length_cons, Nat.zero_le, Nat.reduceAdd, Nat.reduceLeDiff, or_true, true_or, false_or, or_false, and_self, and_false, false_and, implies_true, Option.some.injEq, exists_eq_left', nL, nI_add, nI_mul, nI_clamp, nI_ltI, nI_leI, nI_eq, nI_pos, nI_pos', Nat.reduceAdd, Nat.reduceMul, Nat.reducePow, Bool.false_eq_true]
              exact K
            · simp only [hbr, Bool.not_true, Bool.false_eq_true, bI_F] at K
              simp (disch := omega) only [e_86_69, e_86_72, e_86_73, e_86_76, e_86_77, n10, n01, Nat.lt_irrefl, Nat.not_lt_zero, ne_eq, Nat.add_zero, Nat.one_ne_zero, Nat.zero_ne_one, Nat.reduceEqDiff, bI_T, bI_F, bI_0, bI_1, bI_01, not_and_self, true_and, and_true, not_true_eq_false, not_false_eq_true, false_imp_iff, true_imp_iff, imp_self, gPv_n, gPv_i, gPv_r, gPv_0, Option.toList_some, Option.toList_none, List.singleton_append, List.cons_append, List.nil_append, List.length_nil, List.length_cons, Nat.zero_le, Nat.reduceAdd, Nat.reduceLeDiff, or_true, true_or, false_or, or_false, and_self, and_false, false_and, implies_true, Option.some.injEq, exists_eq_left', nL, nI_add, nI_mul, nI_clamp, nI_ltI, nI_leI, nI_eq, nI_pos, nI_pos', Nat.reduceAdd, Nat.reduceMul, Nat.reducePow]
              exact K
          by_cases dd : Dr A a b = true
          · have e1 : A (72 + 12 * a + b) = nI 1 := by rw [← edr, ed, bI_t dd]
            have fin := fin True (Or.inl dd)
            rw [e1] at fin
            simp (disch := omega) only [c_86, e_86_0, e_86_1, e_86_4, e_86_5, e_86_6, e_86_9, e_86_12, e_86_13, e_86_16, e_86_17, e_86_18, e_86_21, e_86_24, e_86_25, e_86_26, e_86_27, e_86_30, e_86_33, e_86_34, e_86_35, e_86_36, e_86_39, e_86_41, e_86_43, e_86_44, e_86_47, e_86_48, e_86_51, e_86_52, e_86_53, e_86_56, e_86_57, n10, n01, Nat.lt_irrefl, Nat.not_lt_zero, ne_eq, Nat.add_zero, Nat.one_ne_zero, Nat.zero_ne_one, Nat.reduceEqDiff, bI_T, bI_F, bI_0, bI_1, bI_01, not_and_self, true_and, and_true, not_true_eq_false, not_false_eq_true, false_imp_iff, true_imp_iff, imp_self, gPv_n, gPv_i, gPv_r, gPv_0, Option.toList_some, Option.toList_none, List.singleton_append, List.cons_append, List.nil_append, List.length_nil, List.length_cons, Nat.zero_le, Nat.reduceAdd, Nat.reduceLeDiff, or_true, true_or, false_or, or_false, and_self, and_false, false_and, implies_true, Option.some.injEq, exists_eq_left', nL, nI_add, nI_mul, nI_clamp, nI_ltI, nI_leI, nI_eq, nI_pos, nI_pos', Nat.reduceAdd, Nat.reduceMul, Nat.reducePow, sk_1 hv, sr_1_0 hv, sr_1_1 hv, sr_1_2 hv, sr_1_3 hv, sr_1_4 hv, sr_1_7 hv, sr_1_9 hv, sr_1_14 hv, sr_1_15 hv, sr_1_16 hv, sk_7 hv, sn_7 hv, sk_25 hv, sr_25_0 hv, sr_25_1 hv, sr_25_2 hv, sr_25_3 hv, sr_25_4 hv, sr_25_5 hv, c_102, e_102_0, e_102_1, e_102_2, e_102_5, e_102_8, e_102_9, e_102_10, e_102_13, e_102_16, e_102_17, e_102_18, e_102_21, e_102_22, e_102_25, e_102_26, c_103, e_103_0, e_103_1, e_103_4, e_103_5, e_103_8, e_103_9, e_103_12, e_103_13, e_103_16, e_103_17, e_103_20, e_103_21, e_103_24, e_103_25, e_103_28, e_103_29, s_has (sk_1 hv), s_bitOf, t1.1, hn2, s6, nI_bit, ea, eb, sa, sb', hb, ha2, ha, hab, d1, ed, dd]
            exact fin
          · have dd' : Dr A a b = false := by simpa using dd
            have e1 : A (72 + 12 * a + b) = nI 0 := by rw [← edr, ed, bI_f dd]
            by_cases tt : tch A a b = 1
            · have fin := fin True (Or.inr tt)
              rw [e1] at fin
              simp (disch := omega) only [c_86, e_86_0, e_86_1, e_86_4, e_86_5, e_86_6, e_86_9, e_86_12, e_86_13, e_86_16, e_86_17, e_86_18, e_86_21, e_86_24, e_86_25, e_86_26, e_86_27, e_86_30, e_86_33, e_86_34, e_86_35, e_86_36, e_86_39, e_86_41, e_86_43, e_86_44, e_86_47, e_86_48, e_86_51, e_86_52, e_86_53, e_86_56, e_86_57, n10, n01, Nat.lt_irrefl, Nat.not_lt_zero, ne_eq, Nat.add_zero, Nat.one_ne_zero, Nat.zero_ne_one, Nat.reduceEqDiff, bI_T, bI_F, bI_0, bI_1, bI_01, not_and_self, true_and, and_true, not_true_eq_false, not_false_eq_true, false_imp_iff, true_imp_iff, imp_self, gPv_n, gPv_i, gPv_r, gPv_0, Option.toList_some, Option.toList_none, List.singleton_append, List.cons_append, List.nil_append, List.length_nil, List.length_cons, Nat.zero_le, Nat.reduceAdd, Nat.reduceLeDiff, or_true, true_or, false_or, or_false, and_self, and_false, false_and, implies_true, Option.some.injEq, exists_eq_left', nL, nI_add, nI_mul, nI_clamp, nI_ltI, nI_leI, nI_eq, nI_pos, nI_pos', Nat.reduceAdd, Nat.reduceMul, Nat.reducePow, sk_1 hv, sr_1_0 hv, sr_1_1 hv, sr_1_2 hv, sr_1_3 hv, sr_1_4 hv, sr_1_7 hv, sr_1_9 hv, sr_1_14 hv, sr_1_15 hv, sr_1_16 hv, sk_7 hv, sn_7 hv, sk_25 hv, sr_25_0 hv, sr_25_1 hv, sr_25_2 hv, sr_25_3 hv, sr_25_4 hv, sr_25_5 hv, c_102, e_102_0, e_102_1, e_102_2, e_102_5, e_102_8, e_102_9, e_102_10, e_102_13, e_102_16, e_102_17, e_102_18, e_102_21, e_102_22, e_102_25, e_102_26, c_103, e_103_0, e_103_1, e_103_4, e_103_5, e_103_8, e_103_9, e_103_12, e_103_13, e_103_16, e_103_17, e_103_20, e_103_21, e_103_24, e_103_25, e_103_28, e_103_29, s_has (sk_1 hv), s_bitOf, t1.1, hn2, s6, nI_bit, ea, eb, sa, sb', hb, ha2, ha, hab, d1, ed, dd', Bool.false_eq_true, s_touching hv w1 t1 ha2 hb hab, tt]
              exact fin
            · have K := K σ (Sm_refl _ _)
              have e : opB A dy a b = false := by simp [op0, dd', tt]
              simp only [e, Bool.false_eq_true, bI_F] at K
              simp (disch := omega) only [c_86, e_86_0, e_86_1, e_86_4, e_86_5, e_86_6, e_86_9, e_86_12, e_86_13, e_86_16, e_86_17, e_86_18, e_86_21, e_86_24, e_86_25, e_86_26, e_86_27, e_86_30, e_86_33, e_86_34, e_86_35, e_86_36, e_86_39, e_86_41, e_86_43, e_86_44, e_86_47, e_86_48, e_86_51, e_86_52, e_86_53, e_86_56, e_86_57, e_86_76, e_86_77, n10, n01, Nat.lt_irrefl, Nat.not_lt_zero, ne_eq, Nat.add_zero, Nat.one_ne_zero, Nat.zero_ne_one, Nat.reduceEqDiff, bI_T, bI_F, bI_0, bI_1, bI_01, not_and_self, true_and, and_true, not_true_eq_false, not_false_eq_true, false_imp_iff, true_imp_iff, imp_self, gPv_n, gPv_i, gPv_r, gPv_0, Option.toList_some, Option.toList_none, List.singleton_append, List.cons_append, List.nil_append, List.length_nil, List.length_cons, Nat.zero_le, Nat.reduceAdd, Nat.reduceLeDiff, or_true, true_or, false_or, or_false, and_self, and_false, false_and, implies_true, Option.some.injEq, exists_eq_left', nL, nI_add, nI_mul, nI_clamp, nI_ltI, nI_leI, nI_eq, nI_pos, nI_pos', Nat.reduceAdd, Nat.reduceMul, Nat.reducePow, sk_1 hv, sr_1_0 hv, sr_1_1 hv, sr_1_2 hv, sr_1_3 hv, sr_1_4 hv, sr_1_7 hv, sr_1_9 hv, sr_1_14 hv, sr_1_15 hv, sr_1_16 hv, sk_7 hv, sn_7 hv, sk_25 hv, sr_25_0 hv, sr_25_1 hv, sr_25_2 hv, sr_25_3 hv, sr_25_4 hv, sr_25_5 hv, c_102, e_102_0, e_102_1, e_102_2, e_102_5, e_102_8, e_102_9, e_102_10, e_102_13, e_102_16, e_102_17, e_102_18, e_102_21, e_102_22, e_102_25, e_102_26, c_103, e_103_0, e_103_1, e_103_4, e_103_5, e_103_8, e_103_9, e_103_12, e_103_13, e_103_16, e_103_17, e_103_20, e_103_21, e_103_24, e_103_25, e_103_28, e_103_29, s_has (sk_1 hv), s_bitOf, t1.1, hn2, s6, nI_bit, ea, eb, sa, sb', hb, ha2, ha, hab, d1, ed, dd', Bool.false_eq_true, s_touching hv w1 t1 ha2 hb hab, tt]
              exact K
        · have K := K σ (Sm_refl _ _)
          have e : opB A dy a b = false := by simp [op0, sb']
          simp only [e, Bool.false_eq_true, bI_F] at K
          simp (disch := omega) only [c_86, e_86_0, e_86_1, e_86_4, e_86_5, e_86_6, e_86_9, e_86_12, e_86_13, e_86_16, e_86_17, e_86_18, e_86_21, e_86_24, e_86_25, n10, n01, Nat.lt_irrefl, Nat.not_lt_zero, ne_eq, Nat.add_zero, Nat.one_ne_zero, Nat.zero_ne_one, Nat.reduceEqDiff, bI_T, bI_F, bI_0, bI_1, bI_01, not_and_self, true_and, and_true, not_true_eq_false, not_false_eq_true, false_imp_iff, true_imp_iff, imp_self, gPv_n, gPv_i, gPv_r, gPv_0, Option.toList_some, Option.toList_none, List.singleton_append, List.cons_append, List.nil_append, List.length_nil, List.length_cons, Nat.zero_le, Nat.reduceAdd, Nat.reduceLeDiff, or_true, true_or, false_or, or_false, and_self, and_false, false_and, implies_true, Option.some.injEq, exists_eq_left', nL, nI_add, nI_mul, nI_clamp, nI_ltI, nI_leI, nI_eq, nI_pos, nI_pos', Nat.reduceAdd, Nat.reduceMul, Nat.reducePow, sk_1 hv, sr_1_0 hv, sr_1_1 hv, sr_1_2 hv, sr_1_3 hv, sr_1_4 hv, sr_1_7 hv, sr_1_9 hv, sr_1_14 hv, sr_1_15 hv, sr_1_16 hv, sk_25 hv, sr_25_0 hv, sr_25_1 hv, sr_25_2 hv, sr_25_3 hv, sr_25_4 hv, sr_25_5 hv, c_102, e_102_0, e_102_1, e_102_2, e_102_5, e_102_8, e_102_9, e_102_10, e_102_13, e_102_16, e_102_17, e_102_18, e_102_21, e_102_22, e_102_25, e_102_26, c_103, e_103_0, e_103_1, e_103_4, e_103_5, e_103_8, e_103_9, e_103_12, e_103_13, e_103_16, e_103_17, e_103_20, e_103_21, e_103_24, e_103_25, e_103_28, e_103_29, s_has (sk_1 hv), s_bitOf, t1.1, hn2, s6, nI_bit, ea, eb, sa, sb', hb, ha2, hab, Bool.false_eq_true]
          exact K
      · have K := K σ (Sm_refl _ _)
        have e : opB A dy a b = false := by simp [op0, sa]
        simp only [e, Bool.false_eq_true, bI_F] at K
        simp (disch := omega) only [c_86, e_86_0, e_86_1, e_86_4, e_86_5, e_86_6, e_86_9, e_86_12, e_86_13, e_86_16, e_86_17, e_86_18, e_86_21, e_86_24, e_86_25, n10, n01, Nat.lt_irrefl, Nat.not_lt_zero, ne_eq, Nat.add_zero, Nat.one_ne_zero, Nat.zero_ne_one, Nat.reduceEqDiff, bI_T, bI_F, bI_0, bI_1, bI_01, not_and_self, true_and, and_true, not_true_eq_false, not_false_eq_true, false_imp_iff, true_imp_iff, imp_self, gPv_n, gPv_i, gPv_r, gPv_0, Option.toList_some, Option.toList_none, List.singleton_append, List.cons_append, List.nil_append, List.length_nil, List.length_cons, Nat.zero_le, Nat.reduceAdd, Nat.reduceLeDiff, or_true, true_or, false_or, or_false, and_self, and_false, false_and, implies_true, Option.some.injEq, exists_eq_left', nL, nI_add, nI_mul, nI_clamp, nI_ltI, nI_leI, nI_eq, nI_pos, nI_pos', Nat.reduceAdd, Nat.reduceMul, Nat.reducePow, sk_1 hv, sr_1_0 hv, sr_1_1 hv, sr_1_2 hv, sr_1_3 hv, sr_1_4 hv, sr_1_7 hv, sr_1_9 hv, sr_1_14 hv, sr_1_15 hv, sr_1_16 hv, sk_25 hv, sr_25_0 hv, sr_25_1 hv, sr_25_2 hv, sr_25_3 hv, sr_25_4 hv, sr_25_5 hv, c_102, e_102_0, e_102_1, e_102_2, e_102_5, e_102_8, e_102_9, e_102_10, e_102_13, e_102_16, e_102_17, e_102_18, e_102_21, e_102_22, e_102_25, e_102_26, c_103, e_103_0, e_103_1, e_103_4, e_103_5, e_103_8, e_103_9, e_103_12, e_103_13, e_103_16, e_103_17, e_103_20, e_103_21, e_103_24, e_103_25, e_103_28, e_103_29, s_has (sk_1 hv), s_bitOf, t1.1, hn2, s6, nI_bit, ea, eb, sa, hb, ha2, hab, Bool.false_eq_true]
        exact K
  · have K := K σ (Sm_refl _ _)
    have e : opB A dy a b = false := by simp [opB, ha2]
    simp only [e, Bool.false_eq_true, bI_F] at K
    simp (disch := omega) only [c_86, e_86_0, e_86_1, e_86_4, e_86_5, e_86_6, e_86_9, e_86_12, e_86_13, e_86_16, e_86_17, e_86_18, e_86_21, e_86_24, e_86_25, n10, n01, Nat.lt_irrefl, Nat.not_lt_zero, ne_eq, Nat.add_zero, Nat.one_ne_zero, Nat.zero_ne_one, Nat.reduceEqDiff, bI_T, bI_F, bI_0, bI_1, bI_01, not_and_self, true_and, and_true, not_true_eq_false, not_false_eq_true, false_imp_iff, true_imp_iff, imp_self, gPv_n, gPv_i, gPv_r, gPv_0, Option.toList_some, Option.toList_none, List.singleton_append, List.cons_append, List.nil_append, List.length_nil, List.length_cons, Nat.zero_le, Nat.reduceAdd, Nat.reduceLeDiff, or_true, true_or, false_or, or_false, and_self, and_false, false_and, implies_true, Option.some.injEq, exists_eq_left', nL, nI_add, nI_mul, nI_clamp, nI_ltI, nI_leI, nI_eq, nI_pos, nI_pos', Nat.reduceAdd, Nat.reduceMul, Nat.reducePow, sk_1 hv, sr_1_0 hv, sr_1_1 hv, sr_1_2 hv, sr_1_3 hv, sr_1_4 hv, sr_1_7 hv, sr_1_9 hv, sr_1_14 hv, sr_1_15 hv, sr_1_16 hv, sk_25 hv, sr_25_0 hv, sr_25_1 hv, sr_25_2 hv, sr_25_3 hv, sr_25_4 hv, sr_25_5 hv, c_102, e_102_0, e_102_1, e_102_2, e_102_5, e_102_8, e_102_9, e_102_10, e_102_13, e_102_16, e_102_17, e_102_18, e_102_21, e_102_22, e_102_25, e_102_26, s_has (sk_1 hv), t1.1, hn2, ha2]
    exact K
end
