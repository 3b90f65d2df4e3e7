/-! news: the model -/
section
variable {B : Nat} {own : Nat → Nat} {σ : gS} {A : Nat → Int32} {d : Nat} {Q : Option Value → gS → Prop} {E : Nat → Nat}
abbrev M75 (B : Nat) (σ τ : gS) : Prop := Sm (fun a => a = B + 75) σ τ
theorem t_sp1 {S at' : Nat} (X : MX B σ A) (hS4 : S < 4096) : ∀ m i τ, i + m = hn A → M75 B σ τ → (∀ j, j < i → gI τ (B + 75) j = foI (dyO E (hn A) S j 1)) →
    (∀ τ', M75 B σ τ' → (∀ j, j < hn A → gI τ' (B + 75) j = foI (dyO E (hn A) S j 1)) → wp (d + 3) pr_256 Q 42 [some (.ref (B + 54)), some (.int (nI at')), some (.int (nI S)), some (.int (nI (hn A))), none, none] [] τ') →
    wp (d + 3) pr_256 Q 9 [some (.ref (B + 54)), some (.int (nI at')), some (.int (nI S)), some (.int (nI i)), none, none] [] τ := by
  obtain ⟨_, _, wh, wd, wl⟩ := id X
  have h12 := hn_le wh
  have hn2 := hn_eq wh
  intro m
  induction m with
  | zero =>
    intro i τ hi hS hW K
    obtain ⟨hv, hA, _⟩ := MX_S X hS (by omega)
    have e : i = hn A := by omega
    subst e
    simp (disch := omega) only [e_256_9, e_256_10, e_256_11, e_256_14, n10, n01, Nat.lt_irrefl, Nat.not_lt_zero, ne_eq, Nat.add_zero, Nat.one_ne_zero, Nat.zero_ne_one, Nat.reduceEqDiff, bI_T, bI_F, bI_0, bI_1, bI_01, not_and_self, true_and, and_true, not_true_eq_false, not_false_eq_true, false_imp_iff, true_imp_iff, imp_self, gPv_n, gPv_i, gPv_r, gPv_0, Option.toList_some, Option.toList_none, List.singleton_append, List.cons_append, List.nil_append, List.length_nil, List.length_cons, Nat.zero_le, Nat.reduceAdd, Nat.reduceLeDiff, or_true, true_or, false_or, or_false, and_self, and_false, false_and, implies_true, Option.some.injEq, exists_eq_left', nL, nI_add, nI_mul, nI_clamp, nI_ltI, nI_leI, nI_eq, nI_pos, nI_pos', Nat.reduceAdd, Nat.reduceMul, Nat.reducePow, sk_54 hv, sr_54_2 hv, sr_54_3 hv, sr_54_4 hv, sr_54_5 hv, sr_54_7 hv, sr_54_8 hv, sr_54_9 hv, sr_54_12 hv, sr_54_13 hv, sr_54_14 hv, sr_54_22 hv, sr_54_25 hv, sr_54_26 hv, sr_54_27 hv, sr_54_34 hv, sr_54_35 hv, sr_54_36 hv, sr_54_37 hv, sr_54_38 hv, sr_54_40 hv, sr_54_43 hv, sr_54_44 hv, sr_54_45 hv, sr_54_46 hv, sr_54_47 hv, t_houses hv, hA, hn2, Nat.le_refl]
    exact K τ hS hW
  | succ m ih =>
    intro i τ hi hS hW K
    obtain ⟨hv, hA, _⟩ := MX_S X hS (by omega)
    have z : ¬ hn A ≤ i := by omega
    have z2 : i < 12 := by omega
    have e1 : foI (dyO E (hn A) S i 1) = if S.testBit i = true then nI 0 else -nI 1 := by
      by_cases q : S.testBit i = true
      · rw [if_pos q]
        simp only [dyO, fo, sq, q, if_true, foI]
      · rw [if_neg q]
        simp only [dyO, fo, sq, q, if_false, foI, Bool.false_eq_true]
    rw [e_256_9]
    have go : ∀ v : Int32, v = foI (dyO E (hn A) S i 1) → wp (d + 3) pr_256 Q 9 [some (.ref (B + 54)), some (.int (nI at')), some (.int (nI S)), some (.int (nI (i + 1))), none, none] [] (sI τ (B + 75) i v) := by
      intro v hvv
      refine ih (i + 1) _ (by omega) (Sm_I hS rfl) ?_ K
      intro j hj
      by_cases c : j = i
      · subst c; rw [rI_eq]; exact hvv
      · rw [rI_nk c]; exact hW j (by omega)
    by_cases c : S.testBit i = true
    · rw [if_pos c] at e1
      simp (disch := omega) only [e_256_10, e_256_11, e_256_14, e_256_17, e_256_18, e_256_21, e_256_22, e_256_23, e_256_24, e_256_27, e_256_30, e_256_31, e_256_34, e_256_35, e_256_36, e_256_39, n10, n01, Nat.lt_irrefl, Nat.not_lt_zero, ne_eq, Nat.add_zero, Nat.one_ne_zero, Nat.zero_ne_one, Nat.reduceEqDiff, bI_T, bI_F, bI_0, bI_1, bI_01, not_and_self, true_and, and_true, not_true_eq_false, not_false_eq_true, false_imp_iff, true_imp_iff, imp_self, gPv_n, gPv_i, gPv_r, gPv_0, Option.toList_some, Option.toList_none, List.singleton_append, List.cons_append, List.nil_append, List.length_nil, List.length_cons, Nat.zero_le, Nat.reduceAdd, Nat.reduceLeDiff, or_true, true_or, false_or, or_false, and_self, and_false, false_and, implies_true, Option.some.injEq, exists_eq_left', nL, nI_add, nI_mul, nI_clamp, nI_ltI, nI_leI, nI_eq, nI_pos, nI_pos', Nat.reduceAdd, Nat.reduceMul, Nat.reducePow, sk_54 hv, sr_54_2 hv, sr_54_3 hv, sr_54_4 hv, sr_54_5 hv, sr_54_7 hv, sr_54_8 hv, sr_54_9 hv, sr_54_12 hv, sr_54_13 hv, sr_54_14 hv, sr_54_22 hv, sr_54_25 hv, sr_54_26 hv, sr_54_27 hv, sr_54_34 hv, sr_54_35 hv, sr_54_36 hv, sr_54_37 hv, sr_54_38 hv, sr_54_40 hv, sr_54_43 hv, sr_54_44 hv, sr_54_45 hv, sr_54_46 hv, sr_54_47 hv, sk_75 hv, sn_75 hv, t_houses hv, hA, hn2, z, z2, t_isIn, c]
      exact go _ e1.symm
    · rw [if_neg c] at e1
      have c' : S.testBit i = false := by simpa using c
      simp (disch := omega) only [e_256_10, e_256_11, e_256_14, e_256_17, e_256_18, e_256_21, e_256_22, e_256_23, e_256_24, e_256_27, e_256_30, e_256_31, e_256_34, e_256_35, e_256_36, e_256_39, n10, n01, Nat.lt_irrefl, Nat.not_lt_zero, ne_eq, Nat.add_zero, Nat.one_ne_zero, Nat.zero_ne_one, Nat.reduceEqDiff, bI_T, bI_F, bI_0, bI_1, bI_01, not_and_self, true_and, and_true, not_true_eq_false, not_false_eq_true, false_imp_iff, true_imp_iff, imp_self, gPv_n, gPv_i, gPv_r, gPv_0, Option.toList_some, Option.toList_none, List.singleton_append, List.cons_append, List.nil_append, List.length_nil, List.length_cons, Nat.zero_le, Nat.reduceAdd, Nat.reduceLeDiff, or_true, true_or, false_or, or_false, and_self, and_false, false_and, implies_true, Option.some.injEq, exists_eq_left', nL, nI_add, nI_mul, nI_clamp, nI_ltI, nI_leI, nI_eq, nI_pos, nI_pos', Nat.reduceAdd, Nat.reduceMul, Nat.reducePow, sk_54 hv, sr_54_2 hv, sr_54_3 hv, sr_54_4 hv, sr_54_5 hv, sr_54_7 hv, sr_54_8 hv, sr_54_9 hv, sr_54_12 hv, sr_54_13 hv, sr_54_14 hv, sr_54_22 hv, sr_54_25 hv, sr_54_26 hv, sr_54_27 hv, sr_54_34 hv, sr_54_35 hv, sr_54_36 hv, sr_54_37 hv, sr_54_38 hv, sr_54_40 hv, sr_54_43 hv, sr_54_44 hv, sr_54_45 hv, sr_54_46 hv, sr_54_47 hv, sk_75 hv, sn_75 hv, t_houses hv, hA, hn2, z, z2, t_isIn, c', Bool.false_eq_true]
      exact go _ e1.symm
theorem t_sp2 {S at' dd : Nat} {y3 : Int32} (X : MX B σ A) (hN : NX B σ (hn A) E) (hS4 : S < 4096) : ∀ m i, i + m = hn A → (wp (d + 3) pr_256 Q 58 [some (.ref (B + 54)), some (.int (nI at')), some (.int (nI S)), some (.int y3), some (.int (nI (S ||| orU (fun h => if S.testBit h = true then E h else 0) i))), some (.int (nI i))] [] σ ↔ wp (d + 3) pr_256 Q 93 [some (.ref (B + 54)), some (.int (nI at')), some (.int (nI S)), some (.int y3), some (.int (nI (sp1 E (hn A) S))), some (.int (nI (hn A)))] [] σ) := by
  obtain ⟨hv, hA, wh, wd, wl⟩ := id X
  have h12 := hn_le wh
  have hn2 := hn_eq wh
  intro m
  induction m with
  | zero =>
    intro i hi
    have e : i = hn A := by omega
    subst e
    simp (disch := omega) only [e_256_58, e_256_60, e_256_61, e_256_64, n10, n01, Nat.lt_irrefl, Nat.not_lt_zero, ne_eq, Nat.add_zero, Nat.one_ne_zero, Nat.zero_ne_one, Nat.reduceEqDiff, bI_T, bI_F, bI_0, bI_1, bI_01, not_and_self, true_and, and_true, not_true_eq_false, not_false_eq_true, false_imp_iff, true_imp_iff, imp_self, gPv_n, gPv_i, gPv_r, gPv_0, Option.toList_some, Option.toList_none, List.singleton_append, List.cons_append, List.nil_append, List.length_nil, List.length_cons, Nat.zero_le, Nat.reduceAdd, Nat.reduceLeDiff, or_true, true_or, false_or, or_false, and_self, and_false, false_and, implies_true, Option.some.injEq, exists_eq_left', nL, nI_add, nI_mul, nI_clamp, nI_ltI, nI_leI, nI_eq, nI_pos, nI_pos', Nat.reduceAdd, Nat.reduceMul, Nat.reducePow, sk_54 hv, sr_54_2 hv, sr_54_3 hv, sr_54_4 hv, sr_54_5 hv, sr_54_7 hv, sr_54_8 hv, sr_54_9 hv, sr_54_12 hv, sr_54_13 hv, sr_54_14 hv, sr_54_22 hv, sr_54_25 hv, sr_54_26 hv, sr_54_27 hv, sr_54_34 hv, sr_54_35 hv, sr_54_36 hv, sr_54_37 hv, sr_54_38 hv, sr_54_40 hv, sr_54_43 hv, sr_54_44 hv, sr_54_45 hv, sr_54_46 hv, sr_54_47 hv, t_houses hv, hA, hn2, Nat.le_refl, sp1]
  | succ m ih =>
    intro i hi
    have z : ¬ hn A ≤ i := by omega
    rw [e_256_58]
    by_cases c : S.testBit i = true
    · simp (disch := omega) only [e_256_60, e_256_61, e_256_64, e_256_67, e_256_68, e_256_70, e_256_73, e_256_76, e_256_78, e_256_79, e_256_81, e_256_84, e_256_85, e_256_87, e_256_90, n10, n01, Nat.lt_irrefl, Nat.not_lt_zero, ne_eq, Nat.add_zero, Nat.one_ne_zero, Nat.zero_ne_one, Nat.reduceEqDiff, bI_T, bI_F, bI_0, bI_1, bI_01, not_and_self, true_and, and_true, not_true_eq_false, not_false_eq_true, false_imp_iff, true_imp_iff, imp_self, gPv_n, gPv_i, gPv_r, gPv_0, Option.toList_some, Option.toList_none, List.singleton_append, List.cons_append, List.nil_append, List.length_nil, List.length_cons, Nat.zero_le, Nat.reduceAdd, Nat.reduceLeDiff, or_true, true_or, false_or, or_false, and_self, and_false, false_and, implies_true, Option.some.injEq, exists_eq_left', nL, nI_add, nI_mul, nI_clamp, nI_ltI, nI_leI, nI_eq, nI_pos, nI_pos', Nat.reduceAdd, Nat.reduceMul, Nat.reducePow, sk_54 hv, sr_54_2 hv, sr_54_3 hv, sr_54_4 hv, sr_54_5 hv, sr_54_7 hv, sr_54_8 hv, sr_54_9 hv, sr_54_12 hv, sr_54_13 hv, sr_54_14 hv, sr_54_22 hv, sr_54_25 hv, sr_54_26 hv, sr_54_27 hv, sr_54_34 hv, sr_54_35 hv, sr_54_36 hv, sr_54_37 hv, sr_54_38 hv, sr_54_40 hv, sr_54_43 hv, sr_54_44 hv, sr_54_45 hv, sr_54_46 hv, sr_54_47 hv, t_houses hv, hA, hn2, z, t_isIn, c, hN i (by omega), nI_or]
      rw [← ih (i + 1) (by omega)]
      simp only [orU, c, if_true, Nat.or_assoc]
    · have c' : S.testBit i = false := by simpa using c
      simp (disch := omega) only [e_256_60, e_256_61, e_256_64, e_256_67, e_256_68, e_256_70, e_256_73, e_256_87, e_256_90, n10, n01, Nat.lt_irrefl, Nat.not_lt_zero, ne_eq, Nat.add_zero, Nat.one_ne_zero, Nat.zero_ne_one, Nat.reduceEqDiff, bI_T, bI_F, bI_0, bI_1, bI_01, not_and_self, true_and, and_true, not_true_eq_false, not_false_eq_true, false_imp_iff, true_imp_iff, imp_self, gPv_n, gPv_i, gPv_r, gPv_0, Option.toList_some, Option.toList_none, List.singleton_append, List.cons_append, List.nil_append, List.length_nil, List.length_cons, Nat.zero_le, Nat.reduceAdd, Nat.reduceLeDiff, or_true, true_or, false_or, or_false, and_self, and_false, false_and, implies_true, Option.some.injEq, exists_eq_left', nL, nI_add, nI_mul, nI_clamp, nI_ltI, nI_leI, nI_eq, nI_pos, nI_pos', Nat.reduceAdd, Nat.reduceMul, Nat.reducePow, sk_54 hv, sr_54_2 hv, sr_54_3 hv, sr_54_4 hv, sr_54_5 hv, sr_54_7 hv, sr_54_8 hv, sr_54_9 hv, sr_54_12 hv, sr_54_13 hv, sr_54_14 hv, sr_54_22 hv, sr_54_25 hv, sr_54_26 hv, sr_54_27 hv, sr_54_34 hv, sr_54_35 hv, sr_54_36 hv, sr_54_37 hv, sr_54_38 hv, sr_54_40 hv, sr_54_43 hv, sr_54_44 hv, sr_54_45 hv, sr_54_46 hv, sr_54_47 hv, t_houses hv, hA, hn2, z, t_isIn, c', Bool.false_eq_true]
      rw [← ih (i + 1) (by omega)]
      simp only [orU, c', Bool.false_eq_true, if_false, Nat.or_zero]
theorem t_sp3 {S0 at' dd : Nat} (X : MX B σ A) (hE : ∀ h, E h < 4096) (hS4 : S0 < 4096) (hdd : dd ≤ 12) : ∀ m i τ, i + m = hn A → M75 B σ τ → (∀ j, j < i → gI τ (B + 75) j = foI (dyO E (hn A) S0 j (dd + 1 + 1))) → (∀ j, i ≤ j → j < hn A → gI τ (B + 75) j = foI (dyO E (hn A) S0 j (dd + 1))) →
    (∀ τ', M75 B σ τ' → (∀ j, j < hn A → gI τ' (B + 75) j = foI (dyO E (hn A) S0 j (dd + 1 + 1))) → wp (d + 3) pr_256 Q 138 [some (.ref (B + 54)), some (.int (nI at')), some (.int (nI (sq E (hn A) S0 dd))), some (.int (nI (dd + 1))), some (.int (nI (sq E (hn A) S0 (dd + 1)))), some (.int (nI (hn A)))] [] τ') →
    wp (d + 3) pr_256 Q 96 [some (.ref (B + 54)), some (.int (nI at')), some (.int (nI (sq E (hn A) S0 dd))), some (.int (nI (dd + 1))), some (.int (nI (sq E (hn A) S0 (dd + 1)))), some (.int (nI i))] [] τ := by
  obtain ⟨_, _, wh, wd, wl⟩ := id X
  have h12 := hn_le wh
  have hn2 := hn_eq wh
  have l1 := sq_lt (n := hn A) hE hS4 dd
  have l2 := sq_lt (n := hn A) hE hS4 (dd + 1)
  intro m
  induction m with
  | zero =>
    intro i τ hi hS h1 h2 K
    obtain ⟨hv, hA, _⟩ := MX_S X hS (by omega)
    have e : i = hn A := by omega
    subst e
    simp (disch := omega) only [e_256_96, e_256_98, e_256_99, e_256_102, n10, n01, Nat.lt_irrefl, Nat.not_lt_zero, ne_eq, Nat.add_zero, Nat.one_ne_zero, Nat.zero_ne_one, Nat.reduceEqDiff, bI_T, bI_F, bI_0, bI_1, bI_01, not_and_self, true_and, and_true, not_true_eq_false, not_false_eq_true, false_imp_iff, true_imp_iff, imp_self, gPv_n, gPv_i, gPv_r, gPv_0, Option.toList_some, Option.toList_none, List.singleton_append, List.cons_append, List.nil_append, List.length_nil, List.length_cons, Nat.zero_le, Nat.reduceAdd, Nat.reduceLeDiff, or_true, true_or, false_or, or_false, and_self, and_false, false_and, implies_true, Option.some.injEq, exists_eq_left', nL, nI_add, nI_mul, nI_clamp, nI_ltI, nI_leI, nI_eq, nI_pos, nI_pos', Nat.reduceAdd, Nat.reduceMul, Nat.reducePow, sk_54 hv, sr_54_2 hv, sr_54_3 hv, sr_54_4 hv, sr_54_5 hv, sr_54_7 hv, sr_54_8 hv, sr_54_9 hv, sr_54_12 hv, sr_54_13 hv, sr_54_14 hv, sr_54_22 hv, sr_54_25 hv, sr_54_26 hv, sr_54_27 hv, sr_54_34 hv, sr_54_35 hv, sr_54_36 hv, sr_54_37 hv, sr_54_38 hv, sr_54_40 hv, sr_54_43 hv, sr_54_44 hv, sr_54_45 hv, sr_54_46 hv, sr_54_47 hv, t_houses hv, hA, hn2, Nat.le_refl]
    exact K τ hS h1
  | succ m ih =>
    intro i τ hi hS h1 h2 K
    obtain ⟨hv, hA, _⟩ := MX_S X hS (by omega)
    have z : ¬ hn A ≤ i := by omega
    have z2 : i < 12 := by omega
    have stay : dyO E (hn A) S0 i (dd + 1 + 1) = dyO E (hn A) S0 i (dd + 1) → wp (d + 3) pr_256 Q 96 [some (.ref (B + 54)), some (.int (nI at')), some (.int (nI (sq E (hn A) S0 dd))), some (.int (nI (dd + 1))), some (.int (nI (sq E (hn A) S0 (dd + 1)))), some (.int (nI (i + 1)))] [] τ := by
      intro he
      refine ih (i + 1) τ (by omega) hS ?_ (fun j a b => h2 j (by omega) b) K
      intro j hj
      by_cases c : j = i
      · subst c; rw [h2 j (Nat.le_refl _) (by omega), he]
      · exact h1 j (by omega)
    rw [e_256_96]
    cases c1 : (sq E (hn A) S0 (dd + 1)).testBit i
    · simp (disch := omega) only [e_256_98, e_256_99, e_256_102, e_256_105, e_256_107, e_256_109, e_256_112, e_256_132, e_256_135, n10, n01, Nat.lt_irrefl, Nat.not_lt_zero, ne_eq, Nat.add_zero, Nat.one_ne_zero, Nat.zero_ne_one, Nat.reduceEqDiff, bI_T, bI_F, bI_0, bI_1, bI_01, not_and_self, true_and, and_true, not_true_eq_false, not_false_eq_true, false_imp_iff, true_imp_iff, imp_self, gPv_n, gPv_i, gPv_r, gPv_0, Option.toList_some, Option.toList_none, List.singleton_append, List.cons_append, List.nil_append, List.length_nil, List.length_cons, Nat.zero_le, Nat.reduceAdd, Nat.reduceLeDiff, or_true, true_or, false_or, or_false, and_self, and_false, false_and, implies_true, Option.some.injEq, exists_eq_left', nL, nI_add, nI_mul, nI_clamp, nI_ltI, nI_leI, nI_eq, nI_pos, nI_pos', Nat.reduceAdd, Nat.reduceMul, Nat.reducePow, sk_54 hv, sr_54_2 hv, sr_54_3 hv, sr_54_4 hv, sr_54_5 hv, sr_54_7 hv, sr_54_8 hv, sr_54_9 hv, sr_54_12 hv, sr_54_13 hv, sr_54_14 hv, sr_54_22 hv, sr_54_25 hv, sr_54_26 hv, sr_54_27 hv, sr_54_34 hv, sr_54_35 hv, sr_54_36 hv, sr_54_37 hv, sr_54_38 hv, sr_54_40 hv, sr_54_43 hv, sr_54_44 hv, sr_54_45 hv, sr_54_46 hv, sr_54_47 hv, t_houses hv, hA, hn2, z, t_isIn, c1, Bool.false_eq_true]
      exact stay (dy_no c1)
    · cases c2 : (sq E (hn A) S0 dd).testBit i
      · simp (disch := omega) only [e_256_98, e_256_99, e_256_102, e_256_105, e_256_107, e_256_109, e_256_112, e_256_115, e_256_116, e_256_118, e_256_121, e_256_124, e_256_125, e_256_128, e_256_130, e_256_131, e_256_132, e_256_135, n10, n01, Nat.lt_irrefl, Nat.not_lt_zero, ne_eq, Nat.add_zero, Nat.one_ne_zero, Nat.zero_ne_one, Nat.reduceEqDiff, bI_T, bI_F, bI_0, bI_1, bI_01, not_and_self, true_and, and_true, not_true_eq_false, not_false_eq_true, false_imp_iff, true_imp_iff, imp_self, gPv_n, gPv_i, gPv_r, gPv_0, Option.toList_some, Option.toList_none, List.singleton_append, List.cons_append, List.nil_append, List.length_nil, List.length_cons, Nat.zero_le, Nat.reduceAdd, Nat.reduceLeDiff, or_true, true_or, false_or, or_false, and_self, and_false, false_and, implies_true, Option.some.injEq, exists_eq_left', nL, nI_add, nI_mul, nI_clamp, nI_ltI, nI_leI, nI_eq, nI_pos, nI_pos', Nat.reduceAdd, Nat.reduceMul, Nat.reducePow, sk_54 hv, sr_54_2 hv, sr_54_3 hv, sr_54_4 hv, sr_54_5 hv, sr_54_7 hv, sr_54_8 hv, sr_54_9 hv, sr_54_12 hv, sr_54_13 hv, sr_54_14 hv, sr_54_22 hv, sr_54_25 hv, sr_54_26 hv, sr_54_27 hv, sr_54_34 hv, sr_54_35 hv, sr_54_36 hv, sr_54_37 hv, sr_54_38 hv, sr_54_40 hv, sr_54_43 hv, sr_54_44 hv, sr_54_45 hv, sr_54_46 hv, sr_54_47 hv, sk_75 hv, sn_75 hv, t_houses hv, hA, hn2, z, z2, t_isIn, c1, c2, Bool.false_eq_true]
        refine ih (i + 1) _ (by omega) (Sm_I hS rfl) ?_ ?_ K
        · intro j hj
          by_cases c : j = i
          · subst c; rw [rI_eq, dy_new c2 c1]; rfl
          · rw [rI_nk c]; exact h1 j (by omega)
        · intro j a b
          rw [rI_nk (by omega)]; exact h2 j (by omega) b
      · simp (disch := omega) only [e_256_98, e_256_99, e_256_102, e_256_105, e_256_107, e_256_109, e_256_112, e_256_115, e_256_116, e_256_118, e_256_121, e_256_132, e_256_135, n10, n01, Nat.lt_irrefl, Nat.not_lt_zero, ne_eq, Nat.add_zero, Nat.one_ne_zero, Nat.zero_ne_one, Nat.reduceEqDiff, bI_T, bI_F, bI_0, bI_1, bI_01, not_and_self, true_and, and_true, not_true_eq_false, not_false_eq_true, false_imp_iff, true_imp_iff, imp_self, gPv_n, gPv_i, gPv_r, gPv_0, Option.toList_some, Option.toList_none, List.singleton_append, List.cons_append, List.nil_append, List.length_nil, List.length_cons, Nat.zero_le, Nat.reduceAdd, Nat.reduceLeDiff, or_true, true_or, false_or, or_false, and_self, and_false, false_and, implies_true, Option.some.injEq, exists_eq_left', nL, nI_add, nI_mul, nI_clamp, nI_ltI, nI_leI, nI_eq, nI_pos, nI_pos', Nat.reduceAdd, Nat.reduceMul, Nat.reducePow, sk_54 hv, sr_54_2 hv, sr_54_3 hv, sr_54_4 hv, sr_54_5 hv, sr_54_7 hv, sr_54_8 hv, sr_54_9 hv, sr_54_12 hv, sr_54_13 hv, sr_54_14 hv, sr_54_22 hv, sr_54_25 hv, sr_54_26 hv, sr_54_27 hv, sr_54_34 hv, sr_54_35 hv, sr_54_36 hv, sr_54_37 hv, sr_54_38 hv, sr_54_40 hv, sr_54_43 hv, sr_54_44 hv, sr_54_45 hv, sr_54_46 hv, sr_54_47 hv, t_houses hv, hA, hn2, z, t_isIn, c1, c2]
        exact stay (dy_old c2).1
theorem t_sp4 {S0 at' : Nat} (X : MX B σ A) (hN : ∀ τ, M75 B σ τ → NX B τ (hn A) E) (hE : ∀ h, E h < 4096) (hS4 : S0 < 4096) : ∀ m dd τ (x4 x5 : Option Value), dd + m = hn A → M75 B σ τ → (∀ j, j < hn A → gI τ (B + 75) j = foI (dyO E (hn A) S0 j (dd + 1))) →
    (∀ τ', M75 B σ τ' → (∀ j, j < hn A → gI τ' (B + 75) j = foI (dyO E (hn A) S0 j (hn A + 1))) → Q none τ') →
    wp (d + 3) pr_256 Q 44 [some (.ref (B + 54)), some (.int (nI at')), some (.int (nI (sq E (hn A) S0 dd))), some (.int (nI (dd + 1))), x4, x5] [] τ := by
  obtain ⟨_, _, wh, wd, wl⟩ := id X
  have h12 := hn_le wh
  have hn2 := hn_eq wh
  intro m
  induction m with
  | zero =>
    intro dd τ x4 x5 hd hS hW K
    obtain ⟨hv, hA, _⟩ := MX_S X hS (by omega)
    have z : hn A < dd + 1 := by omega
    have e : dd = hn A := by omega
    simp (disch := omega) only [e_256_44, e_256_45, e_256_46, e_256_49, e_256_147, n10, n01, Nat.lt_irrefl, Nat.not_lt_zero, ne_eq, Nat.add_zero, Nat.one_ne_zero, Nat.zero_ne_one, Nat.reduceEqDiff, bI_T, bI_F, bI_0, bI_1, bI_01, not_and_self, true_and, and_true, not_true_eq_false, not_false_eq_true, false_imp_iff, true_imp_iff, imp_self, gPv_n, gPv_i, gPv_r, gPv_0, Option.toList_some, Option.toList_none, List.singleton_append, List.cons_append, List.nil_append, List.length_nil, List.length_cons, Nat.zero_le, Nat.reduceAdd, Nat.reduceLeDiff, or_true, true_or, false_or, or_false, and_self, and_false, false_and, implies_true, Option.some.injEq, exists_eq_left', nL, nI_add, nI_mul, nI_clamp, nI_ltI, nI_leI, nI_eq, nI_pos, nI_pos', Nat.reduceAdd, Nat.reduceMul, Nat.reducePow, sk_54 hv, sr_54_2 hv, sr_54_3 hv, sr_54_4 hv, sr_54_5 hv, sr_54_7 hv, sr_54_8 hv, sr_54_9 hv, sr_54_12 hv, sr_54_13 hv, sr_54_14 hv, sr_54_22 hv, sr_54_25 hv, sr_54_26 hv, sr_54_27 hv, sr_54_34 hv, sr_54_35 hv, sr_54_36 hv, sr_54_37 hv, sr_54_38 hv, sr_54_40 hv, sr_54_43 hv, sr_54_44 hv, sr_54_45 hv, sr_54_46 hv, sr_54_47 hv, t_houses hv, hA, hn2, z]
    subst e
    exact K τ hS hW
  | succ m ih =>
    intro dd τ x4 x5 hd hS hW K
    have Xt := MX_S X hS (by omega)
    obtain ⟨hv, hA, _⟩ := id Xt
    have z : ¬ hn A < dd + 1 := by omega
    have l1 := sq_lt (n := hn A) hE hS4 dd
    rw [e_256_44]
    simp (disch := omega) only [e_256_45, e_256_46, e_256_49, e_256_52, e_256_53, e_256_55, e_256_56, n10, n01, Nat.lt_irrefl, Nat.not_lt_zero, ne_eq, Nat.add_zero, Nat.one_ne_zero, Nat.zero_ne_one, Nat.reduceEqDiff, bI_T, bI_F, bI_0, bI_1, bI_01, not_and_self, true_and, and_true, not_true_eq_false, not_false_eq_true, false_imp_iff, true_imp_iff, imp_self, gPv_n, gPv_i, gPv_r, gPv_0, Option.toList_some, Option.toList_none, List.singleton_append, List.cons_append, List.nil_append, List.length_nil, List.length_cons, Nat.zero_le, Nat.reduceAdd, Nat.reduceLeDiff, or_true, true_or, false_or, or_false, and_self, and_false, false_and, implies_true, Option.some.injEq, exists_eq_left', nL, nI_add, nI_mul, nI_clamp, nI_ltI, nI_leI, nI_eq, nI_pos, nI_pos', Nat.reduceAdd, Nat.reduceMul, Nat.reducePow, sk_54 hv, sr_54_2 hv, sr_54_3 hv, sr_54_4 hv, sr_54_5 hv, sr_54_7 hv, sr_54_8 hv, sr_54_9 hv, sr_54_12 hv, sr_54_13 hv, sr_54_14 hv, sr_54_22 hv, sr_54_25 hv, sr_54_26 hv, sr_54_27 hv, sr_54_34 hv, sr_54_35 hv, sr_54_36 hv, sr_54_37 hv, sr_54_38 hv, sr_54_40 hv, sr_54_43 hv, sr_54_44 hv, sr_54_45 hv, sr_54_46 hv, sr_54_47 hv, t_houses hv, hA, hn2, z]
    have r := t_sp2 (d := d) (Q := Q) (at' := at') (dd := dd) (y3 := nI (dd + 1)) Xt (hN τ hS) l1 (hn A) 0 (by omega)
    simp only [orU, Nat.or_zero] at r
    rw [r]
    simp (disch := omega) only [e_256_93, e_256_94, n10, n01, Nat.lt_irrefl, Nat.not_lt_zero, ne_eq, Nat.add_zero, Nat.one_ne_zero, Nat.zero_ne_one, Nat.reduceEqDiff, bI_T, bI_F, bI_0, bI_1, bI_01, not_and_self, true_and, and_true, not_true_eq_false, not_false_eq_true, false_imp_iff, true_imp_iff, imp_self, gPv_n, gPv_i, gPv_r, gPv_0, Option.toList_some, Option.toList_none, List.singleton_append, List.cons_append, List.nil_append, List.length_nil, List.length_cons, Nat.zero_le, Nat.reduceAdd, Nat.reduceLeDiff, or_true, true_or, false_or, or_false, and_self, and_false, false_and, implies_true, Option.some.injEq, exists_eq_left', nL, nI_add, nI_mul, nI_clamp, nI_ltI, nI_leI, nI_eq, nI_pos, nI_pos', Nat.reduceAdd, Nat.reduceMul, Nat.reducePow]
    refine t_sp3 X hE hS4 (by omega) (hn A) 0 τ (by omega) hS (fun j hj => absurd hj (by omega)) (fun j _ hj => hW j hj) ?_
    intro τ' hS' hW'
    simp (disch := omega) only [e_256_138, e_256_140, e_256_141, e_256_144, n10, n01, Nat.lt_irrefl, Nat.not_lt_zero, ne_eq, Nat.add_zero, Nat.one_ne_zero, Nat.zero_ne_one, Nat.reduceEqDiff, bI_T, bI_F, bI_0, bI_1, bI_01, not_and_self, true_and, and_true, not_true_eq_false, not_false_eq_true, false_imp_iff, true_imp_iff, imp_self, gPv_n, gPv_i, gPv_r, gPv_0, Option.toList_some, Option.toList_none, List.singleton_append, List.cons_append, List.nil_append, List.length_nil, List.length_cons, Nat.zero_le, Nat.reduceAdd, Nat.reduceLeDiff, or_true, true_or, false_or, or_false, and_self, and_false, false_and, implies_true, Option.some.injEq, exists_eq_left', nL, nI_add, nI_mul, nI_clamp, nI_ltI, nI_leI, nI_eq, nI_pos, nI_pos', Nat.reduceAdd, Nat.reduceMul, Nat.reducePow]
    exact ih (dd + 1) τ' _ _ (by omega) hS' hW' K
theorem t_spreads {b : Nat} (X : MX B σ A) (hN : ∀ τ, M75 B σ τ → NX B τ (hn A) E) (hE : EdG A E) (K : ∀ τ', M75 B σ τ' → (∀ j, j < hn A → gI τ' (B + 75) j = foI (dyO E (hn A) (b &&& mkN (St A) (hn A)) j 12)) → Q none τ') : wc (d + 4) 256 [.ref (B + 54), .int (nI b)] σ Q := by
  obtain ⟨hv, hA, wh, wd, wl⟩ := id X
  have h12 := hn_le wh
  have wh' : Wh (gI σ (B + 56)) := by rw [hA]; exact wh
  have st := fun (d : Nat) (Q : Option Value → gS → Prop) => t_standing (d := d) (Q := Q) hv wh'
  simp only [hA] at st
  have ml : mkN (St A) (hn A) < 4096 := mk_lt12 h12
  have hS4 : b &&& mkN (St A) (hn A) < 4096 := Nat.and_lt_two_pow (n := 12) _ ml
  have hSn : b &&& mkN (St A) (hn A) < 2 ^ hn A := Nat.and_lt_two_pow _ (mk_lt _ _)
  simp (disch := omega) only [c_256, e_256_0, e_256_1, e_256_2, e_256_5, e_256_6, e_256_7, e_256_8, n10, n01, Nat.lt_irrefl, Nat.not_lt_zero, ne_eq, Nat.add_zero, Nat.one_ne_zero, Nat.zero_ne_one, Nat.reduceEqDiff, bI_T, bI_F, bI_0, bI_1, bI_01, not_and_self, true_and, and_true, not_true_eq_false, not_false_eq_true, false_imp_iff, true_imp_iff, imp_self, gPv_n, gPv_i, gPv_r, gPv_0, Option.toList_some, Option.toList_none, List.singleton_append, List.cons_append, List.nil_append, List.length_nil, List.length_cons, Nat.zero_le, Nat.reduceAdd, Nat.reduceLeDiff, or_true, true_or, false_or, or_false, and_self, and_false, false_and, implies_true, Option.some.injEq, exists_eq_left', nL, sk_54 hv, sr_54_2 hv, sr_54_3 hv, sr_54_4 hv, sr_54_5 hv, sr_54_7 hv, sr_54_8 hv, sr_54_9 hv, sr_54_12 hv, sr_54_13 hv, sr_54_14 hv, sr_54_22 hv, sr_54_25 hv, sr_54_26 hv, sr_54_27 hv, sr_54_34 hv, sr_54_35 hv, sr_54_36 hv, sr_54_37 hv, sr_54_38 hv, sr_54_40 hv, sr_54_43 hv, sr_54_44 hv, sr_54_45 hv, sr_54_46 hv, sr_54_47 hv, st, nI_and]
  refine t_sp1 (E := E) X hS4 (hn A) 0 σ (by omega) (Sm_refl _ _) (fun j hj => absurd hj (by omega)) ?_
  intro τ hS hW
  simp (disch := omega) only [e_256_42, e_256_43, n10, n01, Nat.lt_irrefl, Nat.not_lt_zero, ne_eq, Nat.add_zero, Nat.one_ne_zero, Nat.zero_ne_one, Nat.reduceEqDiff, bI_T, bI_F, bI_0, bI_1, bI_01, not_and_self, true_and, and_true, not_true_eq_false, not_false_eq_true, false_imp_iff, true_imp_iff, imp_self, gPv_n, gPv_i, gPv_r, gPv_0, Option.toList_some, Option.toList_none, List.singleton_append, List.cons_append, List.nil_append, List.length_nil, List.length_cons, Nat.zero_le, Nat.reduceAdd, Nat.reduceLeDiff, or_true, true_or, false_or, or_false, and_self, and_false, false_and, implies_true, Option.some.injEq, exists_eq_left', nL]
  refine t_sp4 (S0 := b &&& mkN (St A) (hn A)) X hN hE.1 hS4 (hn A) 0 τ _ _ (by omega) hS hW ?_
  intro τ' hS' hW'
  refine K τ' hS' (fun j hj => ?_)
  rw [hW' j hj, dy_big (EdG_n hE) hSn (by omega), ← dy_big (m := 12) (EdG_n hE) hSn h12]
end
section
variable {B : Nat} {σ : gS} {A : Nat → Int32} {v : Nat}
theorem QM_75 {τ τ' : gS} (h : QM B A v σ τ) (hS : M75 B τ τ') : QM B A v σ τ' := QM_S h hS (fun a ha => by omega)
theorem NX_75 {τ : gS} (X : MX B σ A) (hq : QM B A v σ τ) : ∀ τ', M75 B τ τ' → NX B τ' (hn A) (opn A (A 249)) := fun τ' hS => NX_0 X (QM_75 hq hS)
end
section
variable {CV : Nat → (Nat → Int32) → (Nat → Nat → Int32) → Prop} {G : gG}
theorem areH {A : Nat → Int32} {p : Int32} (h12 : hn A ≤ 12) : p &&& ((nI (2 ^ hn A) - nI 1) ^^^ -nI 1) = nI 0 ↔ (nI 0 ≤ p ∧ p ≤ nI (2 ^ hn A) - nI 1) := by
  have hp : 2 ^ hn A ≤ 4096 := Nat.pow_le_pow_right (n := 2) (by decide) h12
  have h1 : 1 ≤ 2 ^ hn A := Nat.pow_pos (by decide)
  rw [nI_sub h1]
  constructor
  · intro h
    have h' : (p ||| p) &&& (nI (2 ^ hn A - 1) ^^^ -nI 1) = nI 0 := by rw [Int32.or_self]; exact h
    obtain ⟨f, g, e1, e2, f1, f2⟩ := and_sub (by omega) h'
    subst e1
    rw [nI_ad, nI_eq (by have := ad_lt (b := 2 ^ hn A - 1) f1; omega) (by omega)] at h
    have := and_le (ad_0_iff.mp h)
    rw [nI_leI (by omega) (by omega), nI_leI (by omega) (by omega)]
    omega
  · intro h
    obtain ⟨f, f1, rfl⟩ := in_nI (by omega) h
    rw [nI_ad]
    congr 1
    refine ad_0_iff.mpr ?_
    refine Nat.eq_of_testBit_eq (fun j => ?_)
    rw [Nat.testBit_and, Nat.testBit_two_pow_sub_one]
    by_cases c : j < hn A
    · simp [c]
    · rw [tb_lt (n := hn A) (b := f) (by omega) (by omega)]
      rfl
theorem ob_news (hcv : CVl CV) : gOb (Inv LSx CV MVx G) (gb G) (gB G) (gB G + 54) 140 257 2 := by
  intro σ k as hl hk hI
  obtain ⟨p0, p1, rfl⟩ := len2 hl
  have hv := Inv_Sh hI
  have hb := Inv_b hI
  obtain ⟨own, cc, v, hc, ha, hX, hm⟩ := Inv_ctx hI hk
  obtain ⟨z30, z32⟩ := Inv_30 hI
  have w1 := hX.2.2.1
  have h12 := hn_le w1
  have hn2 := hn_eq w1
  have e5 := hc.2.1.2.1.1.1
  have hp : 2 ^ hn (gI σ (gB G + 56)) ≤ 4096 := Nat.pow_le_pow_right (n := 2) (by decide) h12
  have h1 : 1 ≤ 2 ^ hn (gI σ (gB G + 56)) := Nat.pow_pos (by decide)
  have hs1 : nI (2 ^ hn (gI σ (gB G + 56))) - nI 1 = nI (2 ^ hn (gI σ (gB G + 56)) - 1) := nI_sub h1
  have aH := areH (A := gI σ (gB G + 56)) (p := p0) h12
  have sA : ∀ (d : Nat) (Q : Option Value → gS → Prop), wc (d + 1) 101 [.ref (gB G + 1), .int p0] σ Q ↔ Q (some (.int (bI (nI 0 ≤ p0 ∧ p0 ≤ nI (2 ^ hn (gI σ (gB G + 56))) - nI 1)))) σ := by
    intro d Q
    by_cases c : nI 0 ≤ p0 ∧ p0 ≤ nI (2 ^ hn (gI σ (gB G + 56))) - nI 1
    · have c' := aH.mpr c
      rw [bI_t c]
      simp (disch := omega) only [c_101, e_101_0, e_101_1, e_101_2, e_101_3, e_101_6, e_101_7, e_101_8, e_101_9, e_101_10, e_101_11, e_101_12, e_101_15, e_101_16, e_101_19, e_101_20, n10, n01, Nat.lt_irrefl, Nat.not_lt_zero, ne_eq, Nat.add_zero, Nat.one_ne_zero, Nat.zero_ne_one, Nat.reduceEqDiff, bI_T, bI_F, bI_0, bI_1, bI_01, not_and_self, true_and, and_true, not_true_eq_false, not_false_eq_true, false_imp_iff, true_imp_iff, imp_self, gPv_n, gPv_i, gPv_r, gPv_0, Option.toList_some, Option.toList_none, List.singleton_append, List.cons_append, List.nil_append, List.length_nil, List.length_cons, Nat.zero_le, Nat.reduceAdd, Nat.reduceLeDiff, or_true, true_or, false_or, or_false, and_self, and_false, false_and, implies_true, Option.some.injEq, exists_eq_left', nL, sk_1 hv, sr_1_0 hv, sr_1_1 hv, sr_1_2 hv, sr_1_3 hv, sr_1_4 hv, sr_1_7 hv, sr_1_9 hv, sr_1_14 hv, sr_1_15 hv, sr_1_16 hv, e5, hn2, nI_shl, Nat.one_mul, c']
    · have c' : ¬ (p0 &&& ((nI (2 ^ hn (gI σ (gB G + 56))) - nI 1) ^^^ -nI 1) = nI 0) := fun z => c (aH.mp z)
      rw [bI_f c]
      simp (disch := omega) only [c_101, e_101_0, e_101_1, e_101_2, e_101_3, e_101_6, e_101_7, e_101_8, e_101_9, e_101_10, e_101_11, e_101_12, e_101_15, e_101_16, e_101_19, e_101_20, n10, n01, Nat.lt_irrefl, Nat.not_lt_zero, ne_eq, Nat.add_zero, Nat.one_ne_zero, Nat.zero_ne_one, Nat.reduceEqDiff, bI_T, bI_F, bI_0, bI_1, bI_01, not_and_self, true_and, and_true, not_true_eq_false, not_false_eq_true, false_imp_iff, true_imp_iff, imp_self, gPv_n, gPv_i, gPv_r, gPv_0, Option.toList_some, Option.toList_none, List.singleton_append, List.cons_append, List.nil_append, List.length_nil, List.length_cons, Nat.zero_le, Nat.reduceAdd, Nat.reduceLeDiff, or_true, true_or, false_or, or_false, and_self, and_false, false_and, implies_true, Option.some.injEq, exists_eq_left', nL, sk_1 hv, sr_1_0 hv, sr_1_1 hv, sr_1_2 hv, sr_1_3 hv, sr_1_4 hv, sr_1_7 hv, sr_1_9 hv, sr_1_14 hv, sr_1_15 hv, sr_1_16 hv, e5, hn2, nI_shl, Nat.one_mul, c']
  by_cases h0 : nI 0 ≤ p1 ∧ p1 < nI (hn (gI σ (gB G + 56)))
  · by_cases h2 : nI 0 ≤ p0 ∧ p0 ≤ nI (2 ^ hn (gI σ (gB G + 56))) - nI 1
    · obtain ⟨a, ha1, rfl⟩ := in_lt (by omega) h0
      have h2' := h2
      rw [hs1] at h2'
      obtain ⟨b, hb1, rfl⟩ := in_nI (by omega) h2'
      have a11 : a ≤ 11 := by omega
      have a12 : a < 12 := by omega
      have sA' : ∀ (d : Nat) (Q : Option Value → gS → Prop), wc (d + 1) 101 [.ref (gB G + 1), .int (nI b)] σ Q ↔ Q (some (.int (nI 1))) σ := fun d Q => by rw [sA, bI_t h2]
      simp (disch := first | omega | (simp only [IvS_I, IvS_J, IvS_r]; assumption)) only [List.map_cons, List.map_nil, Value.int.injEq, gSc_r, gSc_I, n10, n01, Nat.lt_irrefl, Nat.not_lt_zero, ne_eq, Nat.add_zero, Nat.one_ne_zero, Nat.zero_ne_one, Nat.reduceEqDiff, bI_T, bI_F, bI_0, bI_1, bI_01, not_and_self, true_and, and_true, not_true_eq_false, not_false_eq_true, false_imp_iff, true_imp_iff, imp_self, gPv_n, gPv_i, gPv_r, gPv_0, Option.toList_some, Option.toList_none, List.singleton_append, List.cons_append, List.nil_append, List.length_nil, List.length_cons, Nat.zero_le, Nat.reduceAdd, Nat.reduceLeDiff, or_true, true_or, false_or, or_false, and_self, and_false, false_and, implies_true, Option.some.injEq, exists_eq_left', nL, nI_add, nI_mul, nI_clamp, nI_ltI, nI_leI, nI_eq, nI_pos, nI_pos', Nat.reduceAdd, Nat.reduceMul, Nat.reducePow, c_140, e_140_0, e_140_1, e_140_4, e_140_5, e_140_8, e_140_11, e_140_12, e_140_15, e_140_16, e_140_19, e_140_22, e_140_23, e_140_24, e_140_25, e_140_28, e_140_29, e_140_32, sk_0 hv, sr_0_0 hv, sr_0_1 hv, sr_0_2 hv, sr_0_4 hv, sr_0_7 hv, sr_0_9 hv, sr_0_10 hv, sr_0_11 hv, sr_0_12 hv, sr_0_13 hv, sr_0_14 hv, sk_1 hv, sr_1_0 hv, sr_1_1 hv, sr_1_2 hv, sr_1_3 hv, sr_1_4 hv, sr_1_7 hv, sr_1_9 hv, sr_1_14 hv, sr_1_15 hv, sr_1_16 hv, sk_25 hv, sr_25_0 hv, sr_25_1 hv, sr_25_2 hv, sr_25_3 hv, sr_25_4 hv, sr_25_5 hv, s_has (sk_1 hv), e5, hn2, ha1, sA']
      refine s_openRows (d := 992) hcv hc ha ?_
      intro τ hS hcT haT hr
      have hvT := hcT.1
      have hE := EdG_o (dy := gI σ (gB G + 56) 249) w1
      simp (disch := omega) only [e_140_35, e_140_36, e_140_37, e_140_40, n10, n01, Nat.lt_irrefl, Nat.not_lt_zero, ne_eq, Nat.add_zero, Nat.one_ne_zero, Nat.zero_ne_one, Nat.reduceEqDiff, bI_T, bI_F, bI_0, bI_1, bI_01, not_and_self, true_and, and_true, not_true_eq_false, not_false_eq_true, false_imp_iff, true_imp_iff, imp_self, gPv_n, gPv_i, gPv_r, gPv_0, Option.toList_some, Option.toList_none, List.singleton_append, List.cons_append, List.nil_append, List.length_nil, List.length_cons, Nat.zero_le, Nat.reduceAdd, Nat.reduceLeDiff, or_true, true_or, false_or, or_false, and_self, and_false, false_and, implies_true, Option.some.injEq, exists_eq_left', nL, nI_add, nI_mul, nI_clamp, nI_ltI, nI_leI, nI_eq, nI_pos, nI_pos', Nat.reduceAdd, Nat.reduceMul, Nat.reducePow, sk_42 hvT, sr_42_0 hvT, sr_42_1 hvT, sr_42_2 hvT, c_31, e_31_0, e_31_1, e_31_1n, e_31_2, e_31_3]
      refine s_goRound (d := 996) hcT (Or.inl rfl) hE hr ?_
      intro τ1 hS1' hW
      have hvT1 : IvS (gB G) τ1 := fr_IvS hS1'.1 hS1'.2.1 hS1'.2.2.1 hvT
      have hS01 : Sm (fun a => gB G + 25 ≤ a ∧ a < gB G + 50) σ τ1 := Sm_trans (Sm_mono hS (fun a ha => by omega)) (Sm_mono hS1' (fun a ha => by omega))
      have haT1 := Ca_P hcv haT hS1' (fun a ha => by omega)
      have XT := MX_S hX hS01 (by omega)
      have e250 : gI τ1 (gB G + 56) 250 = nI (hn (gI σ (gB G + 56))) := by rw [XT.2.1]; exact hn2
      have wa := hW a a12
      simp (disch := omega) only [e_31_6, e_31_7, e_31_8, e_31_10, e_31_13, e_31_16, e_31_17, e_31_20, e_31_21, e_31_22, e_31_25, e_31_26, e_140_40, n10, n01, Nat.lt_irrefl, Nat.not_lt_zero, ne_eq, Nat.add_zero, Nat.one_ne_zero, Nat.zero_ne_one, Nat.reduceEqDiff, bI_T, bI_F, bI_0, bI_1, bI_01, not_and_self, true_and, and_true, not_true_eq_false, not_false_eq_true, false_imp_iff, true_imp_iff, imp_self, gPv_n, gPv_i, gPv_r, gPv_0, Option.toList_some, Option.toList_none, List.singleton_append, List.cons_append, List.nil_append, List.length_nil, List.length_cons, Nat.zero_le, Nat.reduceAdd, Nat.reduceLeDiff, or_true, true_or, false_or, or_false, and_self, and_false, false_and, implies_true, Option.some.injEq, exists_eq_left', nL, nI_add, nI_mul, nI_clamp, nI_ltI, nI_leI, nI_eq, nI_pos, nI_pos', Nat.reduceAdd, Nat.reduceMul, Nat.reducePow, sk_42 hvT1, sr_42_0 hvT1, sr_42_1 hvT1, sr_42_2 hvT1, sk_44 hvT1, sn_44 hvT1, s_within, a11, a12, wa]
      refine ⟨⟨gSc_S hS01 (by omega), sk_54 hvT1⟩, _, rfl, ?_⟩
      have hb1' : nI b ≤ nI (2 ^ hn (gI σ (gB G + 56))) - nI 1 := h2.2
      simp (disch := first | omega | (simp only [IvS_I, IvS_J, IvS_r]; assumption)) only [List.map_cons, List.map_nil, Value.int.injEq, gSc_r, gSc_I, n10, n01, Nat.lt_irrefl, Nat.not_lt_zero, ne_eq, Nat.add_zero, Nat.one_ne_zero, Nat.zero_ne_one, Nat.reduceEqDiff, bI_T, bI_F, bI_0, bI_1, bI_01, not_and_self, true_and, and_true, not_true_eq_false, not_false_eq_true, false_imp_iff, true_imp_iff, imp_self, gPv_n, gPv_i, gPv_r, gPv_0, Option.toList_some, Option.toList_none, List.singleton_append, List.cons_append, List.nil_append, List.length_nil, List.length_cons, Nat.zero_le, Nat.reduceAdd, Nat.reduceLeDiff, or_true, true_or, false_or, or_false, and_self, and_false, false_and, implies_true, Option.some.injEq, exists_eq_left', nL, nI_add, nI_mul, nI_clamp, nI_ltI, nI_leI, nI_eq, nI_pos, nI_pos', Nat.reduceAdd, Nat.reduceMul, Nat.reducePow, c_257, e_257_0, e_257_1, e_257_2, e_257_3, e_257_4, e_257_7, e_257_8, e_257_9, e_257_10, e_257_13, e_257_16, e_257_17, e_257_18, e_257_21, e_257_24, e_257_25, e_257_26, e_257_27, sk_54 hvT1, sr_54_2 hvT1, sr_54_3 hvT1, sr_54_4 hvT1, sr_54_5 hvT1, sr_54_7 hvT1, sr_54_8 hvT1, sr_54_9 hvT1, sr_54_12 hvT1, sr_54_13 hvT1, sr_54_14 hvT1, sr_54_22 hvT1, sr_54_25 hvT1, sr_54_26 hvT1, sr_54_27 hvT1, sr_54_34 hvT1, sr_54_35 hvT1, sr_54_36 hvT1, sr_54_37 hvT1, sr_54_38 hvT1, sr_54_40 hvT1, sr_54_43 hvT1, sr_54_44 hvT1, sr_54_45 hvT1, sr_54_46 hvT1, sr_54_47 hvT1, t_houses hvT1, t_isHouse hvT1, t_lies, e250, le_sub1, ha1, hb1', nI_shl, Nat.one_mul]
      refine t_look (d := 930) XT (Mc_S hm hS01 (fun a ha => by omega)) (by rw [hS01.2.2.2.2.2.2.1 _ (by omega)]; exact z30) (by rw [hS01.2.2.2.2.2.2.1 _ (by omega)]; exact z32) ?_
      intro τ2 hq
      have X2 := QM_X XT hq
      have hv2 := X2.1
      simp (disch := omega) only [e_257_30, e_257_31, e_257_32, n10, n01, Nat.lt_irrefl, Nat.not_lt_zero, ne_eq, Nat.add_zero, Nat.one_ne_zero, Nat.zero_ne_one, Nat.reduceEqDiff, bI_T, bI_F, bI_0, bI_1, bI_01, not_and_self, true_and, and_true, not_true_eq_false, not_false_eq_true, false_imp_iff, true_imp_iff, imp_self, gPv_n, gPv_i, gPv_r, gPv_0, Option.toList_some, Option.toList_none, List.singleton_append, List.cons_append, List.nil_append, List.length_nil, List.length_cons, Nat.zero_le, Nat.reduceAdd, Nat.reduceLeDiff, or_true, true_or, false_or, or_false, and_self, and_false, false_and, implies_true, Option.some.injEq, exists_eq_left', nL, nI_add, nI_mul, nI_clamp, nI_ltI, nI_leI, nI_eq, nI_pos, nI_pos', Nat.reduceAdd, Nat.reduceMul, Nat.reducePow, sk_54 hv2, sr_54_2 hv2, sr_54_3 hv2, sr_54_4 hv2, sr_54_5 hv2, sr_54_7 hv2, sr_54_8 hv2, sr_54_9 hv2, sr_54_12 hv2, sr_54_13 hv2, sr_54_14 hv2, sr_54_22 hv2, sr_54_25 hv2, sr_54_26 hv2, sr_54_27 hv2, sr_54_34 hv2, sr_54_35 hv2, sr_54_36 hv2, sr_54_37 hv2, sr_54_38 hv2, sr_54_40 hv2, sr_54_43 hv2, sr_54_44 hv2, sr_54_45 hv2, sr_54_46 hv2, sr_54_47 hv2]
      refine t_spreads (d := 995) X2 (NX_75 XT hq) hE ?_
      intro τ3 hS3 hW3
      have hq3 := QM_75 hq hS3
      have hv3 := (QM_X XT hq3).1
      have w3 := hW3 a ha1
      simp (disch := omega) only [e_257_35, e_257_36, e_257_39, e_257_40, e_257_41, n10, n01, Nat.lt_irrefl, Nat.not_lt_zero, ne_eq, Nat.add_zero, Nat.one_ne_zero, Nat.zero_ne_one, Nat.reduceEqDiff, bI_T, bI_F, bI_0, bI_1, bI_01, not_and_self, true_and, and_true, not_true_eq_false, not_false_eq_true, false_imp_iff, true_imp_iff, imp_self, gPv_n, gPv_i, gPv_r, gPv_0, Option.toList_some, Option.toList_none, List.singleton_append, List.cons_append, List.nil_append, List.length_nil, List.length_cons, Nat.zero_le, Nat.reduceAdd, Nat.reduceLeDiff, or_true, true_or, false_or, or_false, and_self, and_false, false_and, implies_true, Option.some.injEq, exists_eq_left', nL, nI_add, nI_mul, nI_clamp, nI_ltI, nI_leI, nI_eq, nI_pos, nI_pos', Nat.reduceAdd, Nat.reduceMul, Nat.reducePow, sk_54 hv3, sr_54_2 hv3, sr_54_3 hv3, sr_54_4 hv3, sr_54_5 hv3, sr_54_7 hv3, sr_54_8 hv3, sr_54_9 hv3, sr_54_12 hv3, sr_54_13 hv3, sr_54_14 hv3, sr_54_22 hv3, sr_54_25 hv3, sr_54_26 hv3, sr_54_27 hv3, sr_54_34 hv3, sr_54_35 hv3, sr_54_36 hv3, sr_54_37 hv3, sr_54_38 hv3, sr_54_40 hv3, sr_54_43 hv3, sr_54_44 hv3, sr_54_45 hv3, sr_54_46 hv3, sr_54_47 hv3, sk_75 hv3, sn_75 hv3, a12, w3]
      exact Inv_QM hk hI hm hS01 haT1 hq3
    · simp (disch := first | omega | (simp only [IvS_I, IvS_J, IvS_r]; assumption)) only [List.map_cons, List.map_nil, Value.int.injEq, gSc_r, gSc_I, n10, n01, Nat.lt_irrefl, Nat.not_lt_zero, ne_eq, Nat.add_zero, Nat.one_ne_zero, Nat.zero_ne_one, Nat.reduceEqDiff, bI_T, bI_F, bI_0, bI_1, bI_01, not_and_self, true_and, and_true, not_true_eq_false, not_false_eq_true, false_imp_iff, true_imp_iff, imp_self, gPv_n, gPv_i, gPv_r, gPv_0, Option.toList_some, Option.toList_none, List.singleton_append, List.cons_append, List.nil_append, List.length_nil, List.length_cons, Nat.zero_le, Nat.reduceAdd, Nat.reduceLeDiff, or_true, true_or, false_or, or_false, and_self, and_false, false_and, implies_true, Option.some.injEq, exists_eq_left', nL, c_140, e_140_0, e_140_1, e_140_4, e_140_5, e_140_8, e_140_11, e_140_12, e_140_15, e_140_16, e_140_19, e_140_22, e_140_23, c_257, e_257_0, e_257_1, e_257_2, e_257_3, e_257_4, e_257_7, e_257_8, e_257_9, e_257_10, e_257_13, e_257_16, e_257_17, e_257_18, e_257_21, e_257_24, e_257_25, sk_0 hv, sr_0_0 hv, sr_0_1 hv, sr_0_2 hv, sr_0_4 hv, sr_0_7 hv, sr_0_9 hv, sr_0_10 hv, sr_0_11 hv, sr_0_12 hv, sr_0_13 hv, sr_0_14 hv, sk_1 hv, sr_1_0 hv, sr_1_1 hv, sr_1_2 hv, sr_1_3 hv, sr_1_4 hv, sr_1_7 hv, sr_1_9 hv, sr_1_14 hv, sr_1_15 hv, sr_1_16 hv, sk_54 hv, sr_54_2 hv, sr_54_3 hv, sr_54_4 hv, sr_54_5 hv, sr_54_7 hv, sr_54_8 hv, sr_54_9 hv, sr_54_12 hv, sr_54_13 hv, sr_54_14 hv, sr_54_22 hv, sr_54_25 hv, sr_54_26 hv, sr_54_27 hv, sr_54_34 hv, sr_54_35 hv, sr_54_36 hv, sr_54_37 hv, sr_54_38 hv, sr_54_40 hv, sr_54_43 hv, sr_54_44 hv, sr_54_45 hv, sr_54_46 hv, sr_54_47 hv, s_has (sk_1 hv), t_houses hv, t_lies, e5, hn2, nI_shl, Nat.one_mul, h0, sA, bI_f h2]
      exact Inv_up hI
  · by_cases h2 : nI 0 ≤ p0 ∧ p0 ≤ nI (2 ^ hn (gI σ (gB G + 56))) - nI 1
    · simp (disch := first | omega | (simp only [IvS_I, IvS_J, IvS_r]; assumption)) only [List.map_cons, List.map_nil, Value.int.injEq, gSc_r, gSc_I, n10, n01, Nat.lt_irrefl, Nat.not_lt_zero, ne_eq, Nat.add_zero, Nat.one_ne_zero, Nat.zero_ne_one, Nat.reduceEqDiff, bI_T, bI_F, bI_0, bI_1, bI_01, not_and_self, true_and, and_true, not_true_eq_false, not_false_eq_true, false_imp_iff, true_imp_iff, imp_self, gPv_n, gPv_i, gPv_r, gPv_0, Option.toList_some, Option.toList_none, List.singleton_append, List.cons_append, List.nil_append, List.length_nil, List.length_cons, Nat.zero_le, Nat.reduceAdd, Nat.reduceLeDiff, or_true, true_or, false_or, or_false, and_self, and_false, false_and, implies_true, Option.some.injEq, exists_eq_left', nL, c_140, e_140_0, e_140_1, e_140_4, e_140_5, e_140_8, e_140_11, e_140_12, e_140_15, e_140_16, e_140_19, e_140_22, e_140_23, c_257, e_257_0, e_257_1, e_257_2, e_257_3, e_257_4, e_257_7, e_257_8, e_257_9, e_257_10, e_257_13, e_257_16, e_257_17, e_257_18, e_257_21, e_257_24, e_257_25, sk_0 hv, sr_0_0 hv, sr_0_1 hv, sr_0_2 hv, sr_0_4 hv, sr_0_7 hv, sr_0_9 hv, sr_0_10 hv, sr_0_11 hv, sr_0_12 hv, sr_0_13 hv, sr_0_14 hv, sk_1 hv, sr_1_0 hv, sr_1_1 hv, sr_1_2 hv, sr_1_3 hv, sr_1_4 hv, sr_1_7 hv, sr_1_9 hv, sr_1_14 hv, sr_1_15 hv, sr_1_16 hv, sk_54 hv, sr_54_2 hv, sr_54_3 hv, sr_54_4 hv, sr_54_5 hv, sr_54_7 hv, sr_54_8 hv, sr_54_9 hv, sr_54_12 hv, sr_54_13 hv, sr_54_14 hv, sr_54_22 hv, sr_54_25 hv, sr_54_26 hv, sr_54_27 hv, sr_54_34 hv, sr_54_35 hv, sr_54_36 hv, sr_54_37 hv, sr_54_38 hv, sr_54_40 hv, sr_54_43 hv, sr_54_44 hv, sr_54_45 hv, sr_54_46 hv, sr_54_47 hv, s_has (sk_1 hv), t_houses hv, t_isHouse hv, t_lies, e5, hn2, nI_shl, Nat.one_mul, le_sub1, h0, bI_t h2]
      exact ⟨fun _ => Inv_up hI, fun _ => Inv_up hI⟩
    · simp (disch := first | omega | (simp only [IvS_I, IvS_J, IvS_r]; assumption)) only [List.map_cons, List.map_nil, Value.int.injEq, gSc_r, gSc_I, n10, n01, Nat.lt_irrefl, Nat.not_lt_zero, ne_eq, Nat.add_zero, Nat.one_ne_zero, Nat.zero_ne_one, Nat.reduceEqDiff, bI_T, bI_F, bI_0, bI_1, bI_01, not_and_self, true_and, and_true, not_true_eq_false, not_false_eq_true, false_imp_iff, true_imp_iff, imp_self, gPv_n, gPv_i, gPv_r, gPv_0, Option.toList_some, Option.toList_none, List.singleton_append, List.cons_append, List.nil_append, List.length_nil, List.length_cons, Nat.zero_le, Nat.reduceAdd, Nat.reduceLeDiff, or_true, true_or, false_or, or_false, and_self, and_false, false_and, implies_true, Option.some.injEq, exists_eq_left', nL, c_140, e_140_0, e_140_1, e_140_4, e_140_5, e_140_8, e_140_11, e_140_12, e_140_15, e_140_16, e_140_19, e_140_22, e_140_23, c_257, e_257_0, e_257_1, e_257_2, e_257_3, e_257_4, e_257_7, e_257_8, e_257_9, e_257_10, e_257_13, e_257_16, e_257_17, e_257_18, e_257_21, e_257_24, e_257_25, sk_0 hv, sr_0_0 hv, sr_0_1 hv, sr_0_2 hv, sr_0_4 hv, sr_0_7 hv, sr_0_9 hv, sr_0_10 hv, sr_0_11 hv, sr_0_12 hv, sr_0_13 hv, sr_0_14 hv, sk_1 hv, sr_1_0 hv, sr_1_1 hv, sr_1_2 hv, sr_1_3 hv, sr_1_4 hv, sr_1_7 hv, sr_1_9 hv, sr_1_14 hv, sr_1_15 hv, sr_1_16 hv, sk_54 hv, sr_54_2 hv, sr_54_3 hv, sr_54_4 hv, sr_54_5 hv, sr_54_7 hv, sr_54_8 hv, sr_54_9 hv, sr_54_12 hv, sr_54_13 hv, sr_54_14 hv, sr_54_22 hv, sr_54_25 hv, sr_54_26 hv, sr_54_27 hv, sr_54_34 hv, sr_54_35 hv, sr_54_36 hv, sr_54_37 hv, sr_54_38 hv, sr_54_40 hv, sr_54_43 hv, sr_54_44 hv, sr_54_45 hv, sr_54_46 hv, sr_54_47 hv, s_has (sk_1 hv), t_houses hv, t_lies, e5, hn2, nI_shl, Nat.one_mul, h0, bI_f h2]
      exact Inv_up hI
end
