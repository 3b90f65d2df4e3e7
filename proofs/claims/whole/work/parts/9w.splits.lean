/-! the model splits a text -/
section
variable {B q : Nat} {σ : gS} {T : Nat → Nat} {d : Nat} {Q : Option Value → gS → Prop}
/-- words and text -/
def TxM (B q : Nat) (T : Nat → Nat) (σ : gS) : Prop := IvS B σ ∧ (∀ j, j < 68 → gI σ (B + 59) j = nI (wdL.getD j 0)) ∧ q ≤ 400 ∧ ∀ j, j < q → gI σ (B + 60) j = sb (T j) ∧ T j < 256
theorem TxM_S {P : Nat → Prop} {τ : gS} (h : TxM B q T σ) (hS : Sm P σ τ) (h1 : ¬ P (B + 59)) (h2 : ¬ P (B + 60)) : TxM B q T τ := ⟨fr_IvS hS.1 hS.2.1 hS.2.2.1 h.1, by rw [hS.2.2.2.2.2.2.1 _ h1]; exact h.2.1, h.2.2.1, by rw [hS.2.2.2.2.2.2.1 _ h2]; exact h.2.2.2⟩
theorem t_wo1 {p e w : Nat} (X : TxM B q T σ) (hw : w < 15) (K : ∀ x6 x7, wp d pr_198 Q 39 [some (.ref (B + 54)), some (.int (nI p)), some (.int (nI e)), some (.int (nI (w + 1))), some (.int (nI (wO w))), some (.int (nI (wL w))), x6, x7] [] σ) : ∀ m j x6 x7, j + m = wL w → wp d pr_198 Q 18 [some (.ref (B + 54)), some (.int (nI p)), some (.int (nI e)), some (.int (nI (w + 1))), some (.int (nI (wO w))), some (.int (nI j)), x6, x7] [] σ := by
  obtain ⟨hv, hW, hq, hT⟩ := X
  obtain ⟨o1, o2, o3, o4, o5⟩ := w_ok w hw
  have e27 : ∀ {d : Nat} {Q : Option Value → gS → Prop} {x0 x1 x2 x3 x4 x5 x6 x7 : Option Value} {j : Int32} {s : List Value}, wp d pr_198 Q 27 [x0, x1, x2, x3, x4, x5, x6, x7] (.int j :: .ref (B + 59) :: s) σ ↔ (¬ j < 0 ∧ j.toNatClampNeg < gN σ (B + 59)) ∧ wp d pr_198 Q 28 [x0, x1, x2, x3, x4, x5, x6, x7] (.int (gI σ (B + 59) j.toNatClampNeg) :: s) σ := e_198_27 (Or.inl (sk_59 hv))
  intro m
  induction m with
  | zero =>
    intro j x6 x7 hj
    have ej : j = wL w := by omega
    subst ej
    have r := hW (wO w + wL w) o1
    rw [o4] at r
    simp (disch := omega) only [e_198_18, e_198_19, e_198_22, e_198_24, e_198_26, e_198_28, e_198_30, e27, n10, n01, Nat.lt_irrefl, Nat.not_lt_zero, ne_eq, Nat.add_zero, Nat.one_ne_zero, Nat.zero_ne_one, Nat.reduceEqDiff, bI_T, bI_F, bI_0, bI_1, bI_01, not_and_self, true_and, and_true, not_true_eq_false, not_false_eq_true, false_imp_iff, true_imp_iff, imp_self, gPv_n, gPv_i, gPv_r, gPv_0, Option.toList_some, Option.toList_none, List.singleton_append, List.cons_append, List.nil_append, List.length_nil, List.length_cons, Nat.zero_le, Nat.reduceAdd, Nat.reduceLeDiff, or_true, true_or, false_or, or_false, and_self, and_false, false_and, implies_true, Option.some.injEq, exists_eq_left', nL, nI_add, nI_mul, nI_clamp, nI_ltI, nI_leI, nI_eq, nI_pos, nI_pos', Nat.reduceAdd, Nat.reduceMul, Nat.reducePow, sk_54 hv, sr_54_2 hv, sr_54_3 hv, sr_54_4 hv, sr_54_5 hv, sr_54_7 hv, sr_54_8 hv, sr_54_9 hv, sr_54_12 hv, sr_54_13 hv, sr_54_14 hv, sr_54_22 hv, sr_54_25 hv, sr_54_26 hv, sr_54_27 hv, sr_54_34 hv, sr_54_35 hv, sr_54_36 hv, sr_54_37 hv, sr_54_38 hv, sr_54_40 hv, sr_54_43 hv, sr_54_44 hv, sr_54_45 hv, sr_54_46 hv, sr_54_47 hv, sk_59 hv, sn_59 hv, o1, r]
    exact K _ _
  | succ m ih =>
    intro j x6 x7 hj
    have r := hW (wO w + j) (by omega)
    have z1 : wO w + j < 68 := by omega
    have n1 := o5 j (by omega)
    have n2 := wd_lt (wO w + j) (by omega)
    rw [e_198_18]
    simp (disch := omega) only [e_198_19, e_198_22, e_198_24, e_198_26, e_198_28, e_198_30, e_198_33, e_198_36, e27, n10, n01, Nat.lt_irrefl, Nat.not_lt_zero, ne_eq, Nat.add_zero, Nat.one_ne_zero, Nat.zero_ne_one, Nat.reduceEqDiff, bI_T, bI_F, bI_0, bI_1, bI_01, not_and_self, true_and, and_true, not_true_eq_false, not_false_eq_true, false_imp_iff, true_imp_iff, imp_self, gPv_n, gPv_i, gPv_r, gPv_0, Option.toList_some, Option.toList_none, List.singleton_append, List.cons_append, List.nil_append, List.length_nil, List.length_cons, Nat.zero_le, Nat.reduceAdd, Nat.reduceLeDiff, or_true, true_or, false_or, or_false, and_self, and_false, false_and, implies_true, Option.some.injEq, exists_eq_left', nL, nI_add, nI_mul, nI_clamp, nI_ltI, nI_leI, nI_eq, nI_pos, nI_pos', Nat.reduceAdd, Nat.reduceMul, Nat.reducePow, sk_54 hv, sr_54_2 hv, sr_54_3 hv, sr_54_4 hv, sr_54_5 hv, sr_54_7 hv, sr_54_8 hv, sr_54_9 hv, sr_54_12 hv, sr_54_13 hv, sr_54_14 hv, sr_54_22 hv, sr_54_25 hv, sr_54_26 hv, sr_54_27 hv, sr_54_34 hv, sr_54_35 hv, sr_54_36 hv, sr_54_37 hv, sr_54_38 hv, sr_54_40 hv, sr_54_43 hv, sr_54_44 hv, sr_54_45 hv, sr_54_46 hv, sr_54_47 hv, sk_59 hv, sn_59 hv, z1, r, n1]
    exact ih (j + 1) _ _ (by omega)
theorem t_wo2 {p e w : Nat} (X : TxM B q T σ) (hw : w < 15) (he : e ≤ q) (hpe : p < e) (hl : e - p = wL w) (K : ∀ x7, wp d pr_198 Q 104 [some (.ref (B + 54)), some (.int (nI p)), some (.int (nI e)), some (.int (nI (w + 1))), some (.int (nI (wO w))), some (.int (nI (wL w))), some (.int (bI (eqB T w p e = true))), x7] [] σ) : ∀ m j, j + m = wL w → (∀ i, i < j → T (p + i) = wdL.getD (wO w + i) 0) → wp d pr_198 Q 57 [some (.ref (B + 54)), some (.int (nI p)), some (.int (nI e)), some (.int (nI (w + 1))), some (.int (nI (wO w))), some (.int (nI (wL w))), some (.int (nI 1)), some (.int (nI j))] [] σ := by
  obtain ⟨hv, hW, hq, hT⟩ := X
  obtain ⟨o1, o2, o3, o4, o5⟩ := w_ok w hw
  have e78 : ∀ {d : Nat} {Q : Option Value → gS → Prop} {x0 x1 x2 x3 x4 x5 x6 x7 : Option Value} {j : Int32} {s : List Value}, wp d pr_198 Q 78 [x0, x1, x2, x3, x4, x5, x6, x7] (.int j :: .ref (B + 59) :: s) σ ↔ (¬ j < 0 ∧ j.toNatClampNeg < gN σ (B + 59)) ∧ wp d pr_198 Q 79 [x0, x1, x2, x3, x4, x5, x6, x7] (.int (gI σ (B + 59) j.toNatClampNeg) :: s) σ := e_198_78 (Or.inl (sk_59 hv))
  have e87 : ∀ {d : Nat} {Q : Option Value → gS → Prop} {x0 x1 x2 x3 x4 x5 x6 x7 : Option Value} {j : Int32} {s : List Value}, wp d pr_198 Q 87 [x0, x1, x2, x3, x4, x5, x6, x7] (.int j :: .ref (B + 60) :: s) σ ↔ (¬ j < 0 ∧ j.toNatClampNeg < gN σ (B + 60)) ∧ wp d pr_198 Q 88 [x0, x1, x2, x3, x4, x5, x6, x7] (.int (gI σ (B + 60) j.toNatClampNeg) :: s) σ := e_198_87 (Or.inl (sk_60 hv))
  intro m
  induction m with
  | zero =>
    intro j hj hR
    have ej : wL w ≤ j := by omega
    have eb : eqB T w p e = true := by
      rw [eqB, decide_eq_true_eq]
      exact ⟨hl, fun i hi => hR i (by omega)⟩
    rw [eb] at K
    simp only [bI_T] at K
    simp (disch := omega) only [e_198_57, e_198_59, e_198_61, n10, n01, Nat.lt_irrefl, Nat.not_lt_zero, ne_eq, Nat.add_zero, Nat.one_ne_zero, Nat.zero_ne_one, Nat.reduceEqDiff, bI_T, bI_F, bI_0, bI_1, bI_01, not_and_self, true_and, and_true, not_true_eq_false, not_false_eq_true, false_imp_iff, true_imp_iff, imp_self, gPv_n, gPv_i, gPv_r, gPv_0, Option.toList_some, Option.toList_none, List.singleton_append, List.cons_append, List.nil_append, List.length_nil, List.length_cons, Nat.zero_le, Nat.reduceAdd, Nat.reduceLeDiff, or_true, true_or, false_or, or_false, and_self, and_false, false_and, implies_true, Option.some.injEq, exists_eq_left', nL, nI_add, nI_mul, nI_clamp, nI_ltI, nI_leI, nI_eq, nI_pos, nI_pos', Nat.reduceAdd, Nat.reduceMul, Nat.reducePow, ej]
    exact K _
  | succ m ih =>
    intro j hj hR
    have z : ¬ wL w ≤ j := by omega
    have r := hW (wO w + j) (by omega)
    have z1 : wO w + j < 68 := by omega
    have n2 := wd_lt (wO w + j) (by omega)
    obtain ⟨t1, t2⟩ := hT (p + j) (by omega)
    have z2 : p + j < 400 := by omega
    rw [e_198_57]
    by_cases c : wdL.getD (wO w + j) 0 = T (p + j)
    · have c' : nI (wdL.getD (wO w + j) 0) = sb (T (p + j)) := (sb_eq n2 t2).mpr c
      simp (disch := omega) only [e_198_59, e_198_61, e_198_64, e_198_66, e_198_69, e_198_70, e_198_73, e_198_75, e_198_77, e_198_79, e_198_80, e_198_83, e_198_84, e_198_86, e_198_88, e_198_91, e_198_92, e_198_95, e_198_96, e_198_98, e_198_101, e78, e87, n10, n01, Nat.lt_irrefl, Nat.not_lt_zero, ne_eq, Nat.add_zero, Nat.one_ne_zero, Nat.zero_ne_one, Nat.reduceEqDiff, bI_T, bI_F, bI_0, bI_1, bI_01, not_and_self, true_and, and_true, not_true_eq_false, not_false_eq_true, false_imp_iff, true_imp_iff, imp_self, gPv_n, gPv_i, gPv_r, gPv_0, Option.toList_some, Option.toList_none, List.singleton_append, List.cons_append, List.nil_append, List.length_nil, List.length_cons, Nat.zero_le, Nat.reduceAdd, Nat.reduceLeDiff, or_true, true_or, false_or, or_false, and_self, and_false, false_and, implies_true, Option.some.injEq, exists_eq_left', nL, nI_add, nI_mul, nI_clamp, nI_ltI, nI_leI, nI_eq, nI_pos, nI_pos', Nat.reduceAdd, Nat.reduceMul, Nat.reducePow, sk_54 hv, sr_54_2 hv, sr_54_3 hv, sr_54_4 hv, sr_54_5 hv, sr_54_7 hv, sr_54_8 hv, sr_54_9 hv, sr_54_12 hv, sr_54_13 hv, sr_54_14 hv, sr_54_22 hv, sr_54_25 hv, sr_54_26 hv, sr_54_27 hv, sr_54_34 hv, sr_54_35 hv, sr_54_36 hv, sr_54_37 hv, sr_54_38 hv, sr_54_40 hv, sr_54_43 hv, sr_54_44 hv, sr_54_45 hv, sr_54_46 hv, sr_54_47 hv, sk_59 hv, sn_59 hv, sk_60 hv, sn_60 hv, z, z1, z2, r, t1, c']
      exact ih (j + 1) (by omega) (fun i hi => by
        by_cases g : i = j
        · rw [g]; exact c.symm
        · exact hR i (by omega))
    · have c' : ¬ nI (wdL.getD (wO w + j) 0) = sb (T (p + j)) := fun z => c ((sb_eq n2 t2).mp z)
      have eb : eqB T w p e = false := by
        rw [eqB, decide_eq_false_iff_not]
        rintro ⟨_, g⟩
        exact c (g j (by omega)).symm
      rw [eb] at K
      simp only [Bool.false_eq_true, bI_F] at K
      simp (disch := omega) only [e_198_59, e_198_61, e_198_64, e_198_66, e_198_69, e_198_70, e_198_73, e_198_75, e_198_77, e_198_79, e_198_80, e_198_83, e_198_84, e_198_86, e_198_88, e_198_91, e_198_92, e_198_95, e_198_96, e_198_98, e_198_101, e78, e87, n10, n01, Nat.lt_irrefl, Nat.not_lt_zero, ne_eq, Nat.add_zero, Nat.one_ne_zero, Nat.zero_ne_one, Nat.reduceEqDiff, bI_T, bI_F, bI_0, bI_1, bI_01, not_and_self, true_and, and_true, not_true_eq_false, not_false_eq_true, false_imp_iff, true_imp_iff, imp_self, gPv_n, gPv_i, gPv_r, gPv_0, Option.toList_some, Option.toList_none, List.singleton_append, List.cons_append, List.nil_append, List.length_nil, List.length_cons, Nat.zero_le, Nat.reduceAdd, Nat.reduceLeDiff, or_true, true_or, false_or, or_false, and_self, and_false, false_and, implies_true, Option.some.injEq, exists_eq_left', nL, nI_add, nI_mul, nI_clamp, nI_ltI, nI_leI, nI_eq, nI_pos, nI_pos', Nat.reduceAdd, Nat.reduceMul, Nat.reducePow, sk_54 hv, sr_54_2 hv, sr_54_3 hv, sr_54_4 hv, sr_54_5 hv, sr_54_7 hv, sr_54_8 hv, sr_54_9 hv, sr_54_12 hv, sr_54_13 hv, sr_54_14 hv, sr_54_22 hv, sr_54_25 hv, sr_54_26 hv, sr_54_27 hv, sr_54_34 hv, sr_54_35 hv, sr_54_36 hv, sr_54_37 hv, sr_54_38 hv, sr_54_40 hv, sr_54_43 hv, sr_54_44 hv, sr_54_45 hv, sr_54_46 hv, sr_54_47 hv, sk_59 hv, sn_59 hv, sk_60 hv, sn_60 hv, z, z1, z2, r, t1, c']
      rw [e_198_57]
      by_cases c2 : wL w ≤ j + 1
      · simp (disch := omega) only [e_198_59, e_198_61, n10, n01, Nat.lt_irrefl, Nat.not_lt_zero, ne_eq, Nat.add_zero, Nat.one_ne_zero, Nat.zero_ne_one, Nat.reduceEqDiff, bI_T, bI_F, bI_0, bI_1, bI_01, not_and_self, true_and, and_true, not_true_eq_false, not_false_eq_true, false_imp_iff, true_imp_iff, imp_self, gPv_n, gPv_i, gPv_r, gPv_0, Option.toList_some, Option.toList_none, List.singleton_append, List.cons_append, List.nil_append, List.length_nil, List.length_cons, Nat.zero_le, Nat.reduceAdd, Nat.reduceLeDiff, or_true, true_or, false_or, or_false, and_self, and_false, false_and, implies_true, Option.some.injEq, exists_eq_left', nL, nI_add, nI_mul, nI_clamp, nI_ltI, nI_leI, nI_eq, nI_pos, nI_pos', Nat.reduceAdd, Nat.reduceMul, Nat.reducePow, c2]
        exact K _
      · simp (disch := omega) only [e_198_59, e_198_61, e_198_64, e_198_66, n10, n01, Nat.lt_irrefl, Nat.not_lt_zero, ne_eq, Nat.add_zero, Nat.one_ne_zero, Nat.zero_ne_one, Nat.reduceEqDiff, bI_T, bI_F, bI_0, bI_1, bI_01, not_and_self, true_and, and_true, not_true_eq_false, not_false_eq_true, false_imp_iff, true_imp_iff, imp_self, gPv_n, gPv_i, gPv_r, gPv_0, Option.toList_some, Option.toList_none, List.singleton_append, List.cons_append, List.nil_append, List.length_nil, List.length_cons, Nat.zero_le, Nat.reduceAdd, Nat.reduceLeDiff, or_true, true_or, false_or, or_false, and_self, and_false, false_and, implies_true, Option.some.injEq, exists_eq_left', nL, nI_add, nI_mul, nI_clamp, nI_ltI, nI_leI, nI_eq, nI_pos, nI_pos', Nat.reduceAdd, Nat.reduceMul, Nat.reducePow, c2]
        exact K _
theorem t_wo3 {p e : Nat} (X : TxM B q T σ) (he : e ≤ q) (hpe : p < e) (K : Q (some (.int (nI (wx T p e)))) σ) : ∀ m w x5 x6 x7, w + m = 15 → (∀ i, i < w → eqB T i p e = false) → wp d pr_198 Q 5 [some (.ref (B + 54)), some (.int (nI p)), some (.int (nI e)), some (.int (nI (w + 1))), some (.int (nI (wO w))), x5, x6, x7] [] σ := by
  obtain ⟨hv, hW, hq, hT⟩ := id X
  have k59 := sk_59 hv
  intro m
  induction m with
  | zero =>
    intro w x5 x6 x7 hw hR
    have e15 : w = 15 := by omega
    subst e15
    have o15 : wO 15 = 68 := by decide
    have w0 : wx T p e = 0 := by
      rw [wx, fo_0 (fun j _ hj => hR j (by omega))]
    rw [w0] at K
    simp (disch := omega) only [e_198_5, e_198_7, e_198_8, e_198_11, e_198_12, e_198_126, e_198_127, n10, n01, Nat.lt_irrefl, Nat.not_lt_zero, ne_eq, Nat.add_zero, Nat.one_ne_zero, Nat.zero_ne_one, Nat.reduceEqDiff, bI_T, bI_F, bI_0, bI_1, bI_01, not_and_self, true_and, and_true, not_true_eq_false, not_false_eq_true, false_imp_iff, true_imp_iff, imp_self, gPv_n, gPv_i, gPv_r, gPv_0, Option.toList_some, Option.toList_none, List.singleton_append, List.cons_append, List.nil_append, List.length_nil, List.length_cons, Nat.zero_le, Nat.reduceAdd, Nat.reduceLeDiff, or_true, true_or, false_or, or_false, and_self, and_false, false_and, implies_true, Option.some.injEq, exists_eq_left', nL, nI_add, nI_mul, nI_clamp, nI_ltI, nI_leI, nI_eq, nI_pos, nI_pos', Nat.reduceAdd, Nat.reduceMul, Nat.reducePow, sk_54 hv, sr_54_2 hv, sr_54_3 hv, sr_54_4 hv, sr_54_5 hv, sr_54_7 hv, sr_54_8 hv, sr_54_9 hv, sr_54_12 hv, sr_54_13 hv, sr_54_14 hv, sr_54_22 hv, sr_54_25 hv, sr_54_26 hv, sr_54_27 hv, sr_54_34 hv, sr_54_35 hv, sr_54_36 hv, sr_54_37 hv, sr_54_38 hv, sr_54_40 hv, sr_54_43 hv, sr_54_44 hv, sr_54_45 hv, sr_54_46 hv, sr_54_47 hv, sk_59 hv, sn_59 hv, nI_of_len, o15, Nat.le_refl]
    exact K
  | succ m ih =>
    intro w x5 x6 x7 hw hR
    have hw15 : w < 15 := by omega
    obtain ⟨o1, o2, o3, o4, o5⟩ := w_ok w hw15
    have z : ¬ 68 ≤ wO w := by omega
    have fin : ∀ x7, wp d pr_198 Q 104 [some (.ref (B + 54)), some (.int (nI p)), some (.int (nI e)), some (.int (nI (w + 1))), some (.int (nI (wO w))), some (.int (nI (wL w))), some (.int (bI (eqB T w p e = true))), x7] [] σ := by
      intro x7
      cases c : eqB T w p e
      · have e2 : wO w + (wL w + 1) = wO (w + 1) := by omega
        simp (disch := omega) only [e_198_104, e_198_106, e_198_109, e_198_110, e_198_111, e_198_113, e_198_115, e_198_116, e_198_117, e_198_118, e_198_120, e_198_123, n10, n01, Nat.lt_irrefl, Nat.not_lt_zero, ne_eq, Nat.add_zero, Nat.one_ne_zero, Nat.zero_ne_one, Nat.reduceEqDiff, bI_T, bI_F, bI_0, bI_1, bI_01, not_and_self, true_and, and_true, not_true_eq_false, not_false_eq_true, false_imp_iff, true_imp_iff, imp_self, gPv_n, gPv_i, gPv_r, gPv_0, Option.toList_some, Option.toList_none, List.singleton_append, List.cons_append, List.nil_append, List.length_nil, List.length_cons, Nat.zero_le, Nat.reduceAdd, Nat.reduceLeDiff, or_true, true_or, false_or, or_false, and_self, and_false, false_and, implies_true, Option.some.injEq, exists_eq_left', nL, nI_add, nI_mul, nI_clamp, nI_ltI, nI_leI, nI_eq, nI_pos, nI_pos', Nat.reduceAdd, Nat.reduceMul, Nat.reducePow, Bool.false_eq_true, e2]
        exact ih (w + 1) _ _ _ (by omega) (fun i hi => by
          by_cases g : i = w
          · rw [g]; exact c
          · exact hR i (by omega))
      · rw [(wx_w hw15).mpr c] at K
        simp (disch := omega) only [e_198_104, e_198_106, e_198_109, e_198_110, n10, n01, Nat.lt_irrefl, Nat.not_lt_zero, ne_eq, Nat.add_zero, Nat.one_ne_zero, Nat.zero_ne_one, Nat.reduceEqDiff, bI_T, bI_F, bI_0, bI_1, bI_01, not_and_self, true_and, and_true, not_true_eq_false, not_false_eq_true, false_imp_iff, true_imp_iff, imp_self, gPv_n, gPv_i, gPv_r, gPv_0, Option.toList_some, Option.toList_none, List.singleton_append, List.cons_append, List.nil_append, List.length_nil, List.length_cons, Nat.zero_le, Nat.reduceAdd, Nat.reduceLeDiff, or_true, true_or, false_or, or_false, and_self, and_false, false_and, implies_true, Option.some.injEq, exists_eq_left', nL, nI_add, nI_mul, nI_clamp, nI_ltI, nI_leI, nI_eq, nI_pos, nI_pos', Nat.reduceAdd, Nat.reduceMul, Nat.reducePow]
        exact K
    rw [e_198_5]
    simp (disch := omega) only [e_198_7, e_198_8, e_198_11, e_198_12, e_198_15, e_198_16, n10, n01, Nat.lt_irrefl, Nat.not_lt_zero, ne_eq, Nat.add_zero, Nat.one_ne_zero, Nat.zero_ne_one, Nat.reduceEqDiff, bI_T, bI_F, bI_0, bI_1, bI_01, not_and_self, true_and, and_true, not_true_eq_false, not_false_eq_true, false_imp_iff, true_imp_iff, imp_self, gPv_n, gPv_i, gPv_r, gPv_0, Option.toList_some, Option.toList_none, List.singleton_append, List.cons_append, List.nil_append, List.length_nil, List.length_cons, Nat.zero_le, Nat.reduceAdd, Nat.reduceLeDiff, or_true, true_or, false_or, or_false, and_self, and_false, false_and, implies_true, Option.some.injEq, exists_eq_left', nL, nI_add, nI_mul, nI_clamp, nI_ltI, nI_leI, nI_eq, nI_pos, nI_pos', Nat.reduceAdd, Nat.reduceMul, Nat.reducePow, sk_54 hv, sr_54_2 hv, sr_54_3 hv, sr_54_4 hv, sr_54_5 hv, sr_54_7 hv, sr_54_8 hv, sr_54_9 hv, sr_54_12 hv, sr_54_13 hv, sr_54_14 hv, sr_54_22 hv, sr_54_25 hv, sr_54_26 hv, sr_54_27 hv, sr_54_34 hv, sr_54_35 hv, sr_54_36 hv, sr_54_37 hv, sr_54_38 hv, sr_54_40 hv, sr_54_43 hv, sr_54_44 hv, sr_54_45 hv, sr_54_46 hv, sr_54_47 hv, sk_59 hv, sn_59 hv, nI_of_len, z]
    refine t_wo1 X hw15 ?_ (wL w) 0 _ _ (by omega)
    intro x6 x7
    by_cases c : wL w = e - p
    · simp (disch := omega) only [e_198_39, e_198_41, e_198_42, e_198_43, e_198_44, e_198_47, e_198_48, e_198_51, e_198_52, e_198_54, e_198_55, n10, n01, Nat.lt_irrefl, Nat.not_lt_zero, ne_eq, Nat.add_zero, Nat.one_ne_zero, Nat.zero_ne_one, Nat.reduceEqDiff, bI_T, bI_F, bI_0, bI_1, bI_01, not_and_self, true_and, and_true, not_true_eq_false, not_false_eq_true, false_imp_iff, true_imp_iff, imp_self, gPv_n, gPv_i, gPv_r, gPv_0, Option.toList_some, Option.toList_none, List.singleton_append, List.cons_append, List.nil_append, List.length_nil, List.length_cons, Nat.zero_le, Nat.reduceAdd, Nat.reduceLeDiff, or_true, true_or, false_or, or_false, and_self, and_false, false_and, implies_true, Option.some.injEq, exists_eq_left', nL, nI_add, nI_mul, nI_clamp, nI_ltI, nI_leI, nI_eq, nI_pos, nI_pos', Nat.reduceAdd, Nat.reduceMul, Nat.reducePow, nI_sub, c]
      have := t_wo2 (d := d) (Q := Q) X hw15 he hpe c.symm fin (wL w) 0 (by omega) (fun i hi => absurd hi (by omega))
      rw [c] at this
      exact this
    · have eb : eqB T w p e = false := by
        rw [eqB, decide_eq_false_iff_not]
        rintro ⟨g, _⟩
        exact c g.symm
      rw [eb] at fin
      simp only [Bool.false_eq_true, bI_F] at fin
      by_cases c0 : wL w ≤ 0
      · simp (disch := omega) only [e_198_39, e_198_41, e_198_42, e_198_43, e_198_44, e_198_47, e_198_48, e_198_51, e_198_52, e_198_54, e_198_55, e_198_57, e_198_59, e_198_61, n10, n01, Nat.lt_irrefl, Nat.not_lt_zero, ne_eq, Nat.add_zero, Nat.one_ne_zero, Nat.zero_ne_one, Nat.reduceEqDiff, bI_T, bI_F, bI_0, bI_1, bI_01, not_and_self, true_and, and_true, not_true_eq_false, not_false_eq_true, false_imp_iff, true_imp_iff, imp_self, gPv_n, gPv_i, gPv_r, gPv_0, Option.toList_some, Option.toList_none, List.singleton_append, List.cons_append, List.nil_append, List.length_nil, List.length_cons, Nat.zero_le, Nat.reduceAdd, Nat.reduceLeDiff, or_true, true_or, false_or, or_false, and_self, and_false, false_and, implies_true, Option.some.injEq, exists_eq_left', nL, nI_add, nI_mul, nI_clamp, nI_ltI, nI_leI, nI_eq, nI_pos, nI_pos', Nat.reduceAdd, Nat.reduceMul, Nat.reducePow, nI_sub, c, c0]
        exact fin _
      · simp (disch := omega) only [e_198_39, e_198_41, e_198_42, e_198_43, e_198_44, e_198_47, e_198_48, e_198_51, e_198_52, e_198_54, e_198_55, e_198_57, e_198_59, e_198_61, e_198_64, e_198_66, n10, n01, Nat.lt_irrefl, Nat.not_lt_zero, ne_eq, Nat.add_zero, Nat.one_ne_zero, Nat.zero_ne_one, Nat.reduceEqDiff, bI_T, bI_F, bI_0, bI_1, bI_01, not_and_self, true_and, and_true, not_true_eq_false, not_false_eq_true, false_imp_iff, true_imp_iff, imp_self, gPv_n, gPv_i, gPv_r, gPv_0, Option.toList_some, Option.toList_none, List.singleton_append, List.cons_append, List.nil_append, List.length_nil, List.length_cons, Nat.zero_le, Nat.reduceAdd, Nat.reduceLeDiff, or_true, true_or, false_or, or_false, and_self, and_false, false_and, implies_true, Option.some.injEq, exists_eq_left', nL, nI_add, nI_mul, nI_clamp, nI_ltI, nI_leI, nI_eq, nI_pos, nI_pos', Nat.reduceAdd, Nat.reduceMul, Nat.reducePow, nI_sub, c, c0]
        exact fin _
theorem t_wordOf {p e : Nat} (X : TxM B q T σ) (he : e ≤ q) (hpe : p < e) (K : Q (some (.int (nI (wx T p e)))) σ) : wc (d + 1) 198 [.ref (B + 54), .int (nI p), .int (nI e)] σ Q := by
  simp (disch := omega) only [c_198, e_198_0, e_198_1, e_198_2, e_198_3, n10, n01, Nat.lt_irrefl, Nat.not_lt_zero, ne_eq, Nat.add_zero, Nat.one_ne_zero, Nat.zero_ne_one, Nat.reduceEqDiff, bI_T, bI_F, bI_0, bI_1, bI_01, not_and_self, true_and, and_true, not_true_eq_false, not_false_eq_true, false_imp_iff, true_imp_iff, imp_self, gPv_n, gPv_i, gPv_r, gPv_0, Option.toList_some, Option.toList_none, List.singleton_append, List.cons_append, List.nil_append, List.length_nil, List.length_cons, Nat.zero_le, Nat.reduceAdd, Nat.reduceLeDiff, or_true, true_or, false_or, or_false, and_self, and_false, false_and, implies_true, Option.some.injEq, exists_eq_left', nL]
  exact t_wo3 (d := d) X he hpe K 15 0 _ _ _ (by omega) (fun i hi => absurd hi (by omega))
end
