/-! doors: the model -/
abbrev D1 (A : Nat → Int32) (p : Nat) : Nat → Nat := dE (opn A (A 249)) (wdn A (A 249)) (p / 12) (p % 12)
abbrev D2 (A : Nat → Int32) (p q : Nat) : Nat → Nat := dE (D1 A p) (wdn A (A 249)) (q / 12) (q % 12)
def o1 (A : Nat → Int32) (p : Nat) : Bool := prB A p && wsB A (D1 A p)
def o2 (A : Nat → Int32) (r : Nat) : Bool := decide (r / 144 < r % 144) && (prB A (r / 144) && prB A (r % 144)) && wsB A (D2 A (r / 144) (r % 144))
def f1 (r j : Nat) : Nat := if j = 0 then r / 12 else r % 12
def f2 (r j : Nat) : Nat := if j < 2 then f1 (r / 144) j else f1 (r % 144) (j - 2)
/-- what is found behind place p -/
def DX (C : Nat → Bool) (n : Nat) (f : Nat → Nat → Nat) (p : Nat) (nd wy : Int32) (pk : Nat → Int32) : Prop := wy = nI (cn C p 0) ∧ match fo C p 0 with
  | none => nd = -nI 1
  | some r => nd = nI n ∧ ∀ j, j < 2 * n → pk j = nI (f r j)
def DrR (A : Nat → Int32) (nd wy : Int32) (pk : Nat → Int32) : Prop := if wsB A (opn A (A 249)) = true then nd = nI 0 ∧ wy = nI 1 else if cn (o1 A) 144 0 ≠ 0 then DX (o1 A) 1 f1 144 nd wy pk else DX (o2 A) 2 f2 20736 nd wy pk
theorem DX_0 {C : Nat → Bool} {n : Nat} {f : Nat → Nat → Nat} {p : Nat} {nd wy : Int32} {pk : Nat → Int32} (h : DX C n f p nd wy pk) (c : C p = false) : DX C n f (p + 1) nd wy pk := by
  have e : fo C (p + 1) 0 = fo C p 0 := by rw [fo_s, c]; simp
  have e2 : cn C (p + 1) 0 = cn C p 0 := by rw [cn_s, c]; simp
  simp only [DX, e, e2]
  exact h
theorem DX_sk {C : Nat → Bool} {n : Nat} {f : Nat → Nat → Nat} {a b : Nat} {nd wy : Int32} {pk : Nat → Int32} (h : DX C n f a nd wy pk) (hab : a ≤ b) (hc : ∀ j, a ≤ j → j < b → C j = false) : DX C n f b nd wy pk := by
  obtain ⟨e1, e2⟩ := cn_sk hab hc
  simp only [DX, e1, e2]
  exact h
section
variable {B : Nat} {own : Nat → Nat} {σ : gS} {A : Nat → Int32} {d v : Nat} {Q : Option Value → gS → Prop} {E : Nat → Nat}
theorem t_nx1 {a b h : Nat} {dy : Int32} (X : MX B σ A) (ha : a < hn A) (hb : b < hn A) (hab : a ≠ b) (q30 : gI σ (B + 54) 30 = nI a) (q31 : gI σ (B + 54) 31 = nI b) (hM : MVx A dy (gI σ (B + 66)) (gI σ (B + 67)) (gI σ (B + 68))) (hh : h < hn A) : wc (d + 2) 237 [.ref (B + 54), .int (nI h)] σ Q ↔ wp (d + 1) pr_237 Q 49 [some (.ref (B + 54)), some (.int (nI h)), some (.int (nI (dE (opn A dy) (wdn A dy) a b h)))] [] σ := by
  have hv := X.1
  have h12 := hn_le X.2.2.1
  obtain ⟨m1, m2⟩ := hM
  have e := m1 h hh
  have z : h < 12 := by omega
  have hba : b ≠ a := fun z => hab z.symm
  have na1 : ¬ nI a = -nI 1 := fun z => ng_ne 1 a (by omega) (by omega) (by omega) z.symm
  have wab := (m2 a b ha hb hab).2
  have wba := (m2 b a hb ha hba).2
  by_cases c : h = a
  · subst c
    have e2 : nI (h + b) - nI h = nI b := by rw [nI_sub (by omega), Nat.add_sub_cancel_left]
    simp (disch := omega) only [c_237, e_237_0, e_237_1, e_237_4, e_237_5, e_237_6, e_237_7, e_237_8, e_237_11, e_237_12, e_237_15, e_237_16, e_237_17, e_237_20, e_237_23, e_237_24, e_237_25, e_237_28, e_237_31, e_237_32, e_237_33, e_237_34, e_237_35, e_237_38, e_237_39, e_237_42, e_237_43, e_237_44, e_237_45, e_237_48, n10, n01, Nat.lt_irrefl, Nat.not_lt_zero, ne_eq, Nat.add_zero, Nat.one_ne_zero, Nat.zero_ne_one, Nat.reduceEqDiff, bI_T, bI_F, bI_0, bI_1, bI_01, not_and_self, true_and, and_true, not_true_eq_false, not_false_eq_true, false_imp_iff, true_imp_iff, imp_self, gPv_n, gPv_i, gPv_r, gPv_0, Option.toList_some, Option.toList_none, List.singleton_append, List.cons_append, List.nil_append, List.length_nil, List.length_cons, Nat.zero_le, Nat.reduceAdd, Nat.reduceLeDiff, or_true, true_or, false_or, or_false, and_self, and_false, false_and, implies_true, Option.some.injEq, exists_eq_left', nL, nI_add, nI_mul, nI_clamp, nI_ltI, nI_leI, nI_eq, nI_pos, nI_pos', Nat.reduceAdd, Nat.reduceMul, Nat.reducePow, sk_54 hv, sr_54_2 hv, sr_54_3 hv, sr_54_4 hv, sr_54_5 hv, sr_54_7 hv, sr_54_8 hv, sr_54_9 hv, sr_54_12 hv, sr_54_13 hv, sr_54_14 hv, sr_54_22 hv, sr_54_25 hv, sr_54_26 hv, sr_54_27 hv, sr_54_34 hv, sr_54_35 hv, sr_54_36 hv, sr_54_37 hv, sr_54_38 hv, sr_54_40 hv, sr_54_43 hv, sr_54_44 hv, sr_54_45 hv, sr_54_46 hv, sr_54_47 hv, sk_66 hv, sn_66 hv, sk_67 hv, sn_67 hv, sk_68 hv, sn_68 hv, e, z, q30, q31, e2, na1]
    simp (disch := omega) only [t_withOr hv h12 ha hb wab, e_237_48, n10, n01, Nat.lt_irrefl, Nat.not_lt_zero, ne_eq, Nat.add_zero, Nat.one_ne_zero, Nat.zero_ne_one, Nat.reduceEqDiff, bI_T, bI_F, bI_0, bI_1, bI_01, not_and_self, true_and, and_true, not_true_eq_false, not_false_eq_true, false_imp_iff, true_imp_iff, imp_self, gPv_n, gPv_i, gPv_r, gPv_0, Option.toList_some, Option.toList_none, List.singleton_append, List.cons_append, List.nil_append, List.length_nil, List.length_cons, Nat.zero_le, Nat.reduceAdd, Nat.reduceLeDiff, or_true, true_or, false_or, or_false, and_self, and_false, false_and, implies_true, Option.some.injEq, exists_eq_left', nL, nI_add, nI_mul, nI_clamp, nI_ltI, nI_leI, nI_eq, nI_pos, nI_pos', Nat.reduceAdd, Nat.reduceMul, Nat.reducePow, dE, if_true]
  · by_cases c2 : h = b
    · subst c2
      have e2 : nI (a + h) - nI h = nI a := by rw [nI_sub (by omega), Nat.add_sub_cancel]
      simp (disch := omega) only [c_237, e_237_0, e_237_1, e_237_4, e_237_5, e_237_6, e_237_7, e_237_8, e_237_11, e_237_12, e_237_15, e_237_16, e_237_17, e_237_20, e_237_23, e_237_24, e_237_25, e_237_28, e_237_31, e_237_32, e_237_33, e_237_34, e_237_35, e_237_38, e_237_39, e_237_42, e_237_43, e_237_44, e_237_45, e_237_48, n10, n01, Nat.lt_irrefl, Nat.not_lt_zero, ne_eq, Nat.add_zero, Nat.one_ne_zero, Nat.zero_ne_one, Nat.reduceEqDiff, bI_T, bI_F, bI_0, bI_1, bI_01, not_and_self, true_and, and_true, not_true_eq_false, not_false_eq_true, false_imp_iff, true_imp_iff, imp_self, gPv_n, gPv_i, gPv_r, gPv_0, Option.toList_some, Option.toList_none, List.singleton_append, List.cons_append, List.nil_append, List.length_nil, List.length_cons, Nat.zero_le, Nat.reduceAdd, Nat.reduceLeDiff, or_true, true_or, false_or, or_false, and_self, and_false, false_and, implies_true, Option.some.injEq, exists_eq_left', nL, nI_add, nI_mul, nI_clamp, nI_ltI, nI_leI, nI_eq, nI_pos, nI_pos', Nat.reduceAdd, Nat.reduceMul, Nat.reducePow, sk_54 hv, sr_54_2 hv, sr_54_3 hv, sr_54_4 hv, sr_54_5 hv, sr_54_7 hv, sr_54_8 hv, sr_54_9 hv, sr_54_12 hv, sr_54_13 hv, sr_54_14 hv, sr_54_22 hv, sr_54_25 hv, sr_54_26 hv, sr_54_27 hv, sr_54_34 hv, sr_54_35 hv, sr_54_36 hv, sr_54_37 hv, sr_54_38 hv, sr_54_40 hv, sr_54_43 hv, sr_54_44 hv, sr_54_45 hv, sr_54_46 hv, sr_54_47 hv, sk_66 hv, sn_66 hv, sk_67 hv, sn_67 hv, sk_68 hv, sn_68 hv, e, z, q30, q31, e2, c, na1]
      simp (disch := omega) only [t_withOr hv h12 hb ha wba, e_237_48, n10, n01, Nat.lt_irrefl, Nat.not_lt_zero, ne_eq, Nat.add_zero, Nat.one_ne_zero, Nat.zero_ne_one, Nat.reduceEqDiff, bI_T, bI_F, bI_0, bI_1, bI_01, not_and_self, true_and, and_true, not_true_eq_false, not_false_eq_true, false_imp_iff, true_imp_iff, imp_self, gPv_n, gPv_i, gPv_r, gPv_0, Option.toList_some, Option.toList_none, List.singleton_append, List.cons_append, List.nil_append, List.length_nil, List.length_cons, Nat.zero_le, Nat.reduceAdd, Nat.reduceLeDiff, or_true, true_or, false_or, or_false, and_self, and_false, false_and, implies_true, Option.some.injEq, exists_eq_left', nL, nI_add, nI_mul, nI_clamp, nI_ltI, nI_leI, nI_eq, nI_pos, nI_pos', Nat.reduceAdd, Nat.reduceMul, Nat.reducePow, dE, if_true, if_neg c]
    · simp (disch := omega) only [c_237, e_237_0, e_237_1, e_237_4, e_237_5, e_237_6, e_237_7, e_237_8, e_237_11, e_237_12, e_237_15, e_237_16, e_237_17, e_237_20, e_237_23, e_237_24, e_237_25, e_237_28, e_237_31, e_237_32, e_237_33, e_237_34, e_237_35, e_237_38, e_237_39, e_237_42, e_237_43, e_237_44, e_237_45, e_237_48, n10, n01, Nat.lt_irrefl, Nat.not_lt_zero, ne_eq, Nat.add_zero, Nat.one_ne_zero, Nat.zero_ne_one, Nat.reduceEqDiff, bI_T, bI_F, bI_0, bI_1, bI_01, not_and_self, true_and, and_true, not_true_eq_false, not_false_eq_true, false_imp_iff, true_imp_iff, imp_self, gPv_n, gPv_i, gPv_r, gPv_0, Option.toList_some, Option.toList_none, List.singleton_append, List.cons_append, List.nil_append, List.length_nil, List.length_cons, Nat.zero_le, Nat.reduceAdd, Nat.reduceLeDiff, or_true, true_or, false_or, or_false, and_self, and_false, false_and, implies_true, Option.some.injEq, exists_eq_left', nL, nI_add, nI_mul, nI_clamp, nI_ltI, nI_leI, nI_eq, nI_pos, nI_pos', Nat.reduceAdd, Nat.reduceMul, Nat.reducePow, sk_54 hv, sr_54_2 hv, sr_54_3 hv, sr_54_4 hv, sr_54_5 hv, sr_54_7 hv, sr_54_8 hv, sr_54_9 hv, sr_54_12 hv, sr_54_13 hv, sr_54_14 hv, sr_54_22 hv, sr_54_25 hv, sr_54_26 hv, sr_54_27 hv, sr_54_34 hv, sr_54_35 hv, sr_54_36 hv, sr_54_37 hv, sr_54_38 hv, sr_54_40 hv, sr_54_43 hv, sr_54_44 hv, sr_54_45 hv, sr_54_46 hv, sr_54_47 hv, sk_66 hv, sn_66 hv, sk_67 hv, sn_67 hv, sk_68 hv, sn_68 hv, e, z, q30, q31, c, c2, na1, dE, if_false]
theorem t_nx2 {a b h : Nat} {dy : Int32} {F : Nat → Nat} (X : MX B σ A) (ha : a < hn A) (hb : b < hn A) (hab : a ≠ b) (q32 : gI σ (B + 54) 32 = nI a) (q33 : gI σ (B + 54) 33 = nI b) (hM : MVx A dy (gI σ (B + 66)) (gI σ (B + 67)) (gI σ (B + 68))) (hh : h < hn A) : wp (d + 1) pr_237 Q 49 [some (.ref (B + 54)), some (.int (nI h)), some (.int (nI (F h)))] [] σ ↔ Q (some (.int (nI (dE F (wdn A dy) a b h)))) σ := by
  have hv := X.1
  have h12 := hn_le X.2.2.1
  obtain ⟨m1, m2⟩ := hM
  have hba : b ≠ a := fun z => hab z.symm
  have na1 : ¬ nI a = -nI 1 := fun z => ng_ne 1 a (by omega) (by omega) (by omega) z.symm
  have wab := (m2 a b ha hb hab).2
  have wba := (m2 b a hb ha hba).2
  by_cases c : h = a
  · subst c
    have e2 : nI (h + b) - nI h = nI b := by rw [nI_sub (by omega), Nat.add_sub_cancel_left]
    simp (disch := omega) only [e_237_48, e_237_49, e_237_50, e_237_53, e_237_54, e_237_57, e_237_58, e_237_59, e_237_62, e_237_65, e_237_66, e_237_67, e_237_70, e_237_73, e_237_74, e_237_75, e_237_76, e_237_77, e_237_80, e_237_81, e_237_84, e_237_85, e_237_86, e_237_87, e_237_90, e_237_91, e_237_92, n10, n01, Nat.lt_irrefl, Nat.not_lt_zero, ne_eq, Nat.add_zero, Nat.one_ne_zero, Nat.zero_ne_one, Nat.reduceEqDiff, bI_T, bI_F, bI_0, bI_1, bI_01, not_and_self, true_and, and_true, not_true_eq_false, not_false_eq_true, false_imp_iff, true_imp_iff, imp_self, gPv_n, gPv_i, gPv_r, gPv_0, Option.toList_some, Option.toList_none, List.singleton_append, List.cons_append, List.nil_append, List.length_nil, List.length_cons, Nat.zero_le, Nat.reduceAdd, Nat.reduceLeDiff, or_true, true_or, false_or, or_false, and_self, and_false, false_and, implies_true, Option.some.injEq, exists_eq_left', nL, nI_add, nI_mul, nI_clamp, nI_ltI, nI_leI, nI_eq, nI_pos, nI_pos', Nat.reduceAdd, Nat.reduceMul, Nat.reducePow, sk_54 hv, sr_54_2 hv, sr_54_3 hv, sr_54_4 hv, sr_54_5 hv, sr_54_7 hv, sr_54_8 hv, sr_54_9 hv, sr_54_12 hv, sr_54_13 hv, sr_54_14 hv, sr_54_22 hv, sr_54_25 hv, sr_54_26 hv, sr_54_27 hv, sr_54_34 hv, sr_54_35 hv, sr_54_36 hv, sr_54_37 hv, sr_54_38 hv, sr_54_40 hv, sr_54_43 hv, sr_54_44 hv, sr_54_45 hv, sr_54_46 hv, sr_54_47 hv, sk_66 hv, sn_66 hv, sk_67 hv, sn_67 hv, sk_68 hv, sn_68 hv, q32, q33, e2, na1]
    simp (disch := omega) only [t_withOr hv h12 ha hb wab, e_237_90, e_237_91, e_237_92, n10, n01, Nat.lt_irrefl, Nat.not_lt_zero, ne_eq, Nat.add_zero, Nat.one_ne_zero, Nat.zero_ne_one, Nat.reduceEqDiff, bI_T, bI_F, bI_0, bI_1, bI_01, not_and_self, true_and, and_true, not_true_eq_false, not_false_eq_true, false_imp_iff, true_imp_iff, imp_self, gPv_n, gPv_i, gPv_r, gPv_0, Option.toList_some, Option.toList_none, List.singleton_append, List.cons_append, List.nil_append, List.length_nil, List.length_cons, Nat.zero_le, Nat.reduceAdd, Nat.reduceLeDiff, or_true, true_or, false_or, or_false, and_self, and_false, false_and, implies_true, Option.some.injEq, exists_eq_left', nL, nI_add, nI_mul, nI_clamp, nI_ltI, nI_leI, nI_eq, nI_pos, nI_pos', Nat.reduceAdd, Nat.reduceMul, Nat.reducePow, dE, if_true]
  · by_cases c2 : h = b
    · subst c2
      have e2 : nI (a + h) - nI h = nI a := by rw [nI_sub (by omega), Nat.add_sub_cancel]
      simp (disch := omega) only [e_237_48, e_237_49, e_237_50, e_237_53, e_237_54, e_237_57, e_237_58, e_237_59, e_237_62, e_237_65, e_237_66, e_237_67, e_237_70, e_237_73, e_237_74, e_237_75, e_237_76, e_237_77, e_237_80, e_237_81, e_237_84, e_237_85, e_237_86, e_237_87, e_237_90, e_237_91, e_237_92, n10, n01, Nat.lt_irrefl, Nat.not_lt_zero, ne_eq, Nat.add_zero, Nat.one_ne_zero, Nat.zero_ne_one, Nat.reduceEqDiff, bI_T, bI_F, bI_0, bI_1, bI_01, not_and_self, true_and, and_true, not_true_eq_false, not_false_eq_true, false_imp_iff, true_imp_iff, imp_self, gPv_n, gPv_i, gPv_r, gPv_0, Option.toList_some, Option.toList_none, List.singleton_append, List.cons_append, List.nil_append, List.length_nil, List.length_cons, Nat.zero_le, Nat.reduceAdd, Nat.reduceLeDiff, or_true, true_or, false_or, or_false, and_self, and_false, false_and, implies_true, Option.some.injEq, exists_eq_left', nL, nI_add, nI_mul, nI_clamp, nI_ltI, nI_leI, nI_eq, nI_pos, nI_pos', Nat.reduceAdd, Nat.reduceMul, Nat.reducePow, sk_54 hv, sr_54_2 hv, sr_54_3 hv, sr_54_4 hv, sr_54_5 hv, sr_54_7 hv, sr_54_8 hv, sr_54_9 hv, sr_54_12 hv, sr_54_13 hv, sr_54_14 hv, sr_54_22 hv, sr_54_25 hv, sr_54_26 hv, sr_54_27 hv, sr_54_34 hv, sr_54_35 hv, sr_54_36 hv, sr_54_37 hv, sr_54_38 hv, sr_54_40 hv, sr_54_43 hv, sr_54_44 hv, sr_54_45 hv, sr_54_46 hv, sr_54_47 hv, sk_66 hv, sn_66 hv, sk_67 hv, sn_67 hv, sk_68 hv, sn_68 hv, q32, q33, e2, c, na1]
      simp (disch := omega) only [t_withOr hv h12 hb ha wba, e_237_90, e_237_91, e_237_92, n10, n01, Nat.lt_irrefl, Nat.not_lt_zero, ne_eq, Nat.add_zero, Nat.one_ne_zero, Nat.zero_ne_one, Nat.reduceEqDiff, bI_T, bI_F, bI_0, bI_1, bI_01, not_and_self, true_and, and_true, not_true_eq_false, not_false_eq_true, false_imp_iff, true_imp_iff, imp_self, gPv_n, gPv_i, gPv_r, gPv_0, Option.toList_some, Option.toList_none, List.singleton_append, List.cons_append, List.nil_append, List.length_nil, List.length_cons, Nat.zero_le, Nat.reduceAdd, Nat.reduceLeDiff, or_true, true_or, false_or, or_false, and_self, and_false, false_and, implies_true, Option.some.injEq, exists_eq_left', nL, nI_add, nI_mul, nI_clamp, nI_ltI, nI_leI, nI_eq, nI_pos, nI_pos', Nat.reduceAdd, Nat.reduceMul, Nat.reducePow, dE, if_true, if_neg c]
    · simp (disch := omega) only [e_237_48, e_237_49, e_237_50, e_237_53, e_237_54, e_237_57, e_237_58, e_237_59, e_237_62, e_237_65, e_237_66, e_237_67, e_237_70, e_237_73, e_237_74, e_237_75, e_237_76, e_237_77, e_237_80, e_237_81, e_237_84, e_237_85, e_237_86, e_237_87, e_237_90, e_237_91, e_237_92, n10, n01, Nat.lt_irrefl, Nat.not_lt_zero, ne_eq, Nat.add_zero, Nat.one_ne_zero, Nat.zero_ne_one, Nat.reduceEqDiff, bI_T, bI_F, bI_0, bI_1, bI_01, not_and_self, true_and, and_true, not_true_eq_false, not_false_eq_true, false_imp_iff, true_imp_iff, imp_self, gPv_n, gPv_i, gPv_r, gPv_0, Option.toList_some, Option.toList_none, List.singleton_append, List.cons_append, List.nil_append, List.length_nil, List.length_cons, Nat.zero_le, Nat.reduceAdd, Nat.reduceLeDiff, or_true, true_or, false_or, or_false, and_self, and_false, false_and, implies_true, Option.some.injEq, exists_eq_left', nL, nI_add, nI_mul, nI_clamp, nI_ltI, nI_leI, nI_eq, nI_pos, nI_pos', Nat.reduceAdd, Nat.reduceMul, Nat.reducePow, sk_54 hv, sr_54_2 hv, sr_54_3 hv, sr_54_4 hv, sr_54_5 hv, sr_54_7 hv, sr_54_8 hv, sr_54_9 hv, sr_54_12 hv, sr_54_13 hv, sr_54_14 hv, sr_54_22 hv, sr_54_25 hv, sr_54_26 hv, sr_54_27 hv, sr_54_34 hv, sr_54_35 hv, sr_54_36 hv, sr_54_37 hv, sr_54_38 hv, sr_54_40 hv, sr_54_43 hv, sr_54_44 hv, sr_54_45 hv, sr_54_46 hv, sr_54_47 hv, sk_66 hv, sn_66 hv, sk_67 hv, sn_67 hv, sk_68 hv, sn_68 hv, q32, q33, c, c2, na1, dE, if_false]
theorem t_found {C : Nat → Bool} {n p : Nat} {f : Nat → Nat → Nat} (X : MX B σ A) (hp : Wp A) (hN : NX B σ (hn A) E) (hE : EdG A E) (hn2 : n ≤ 2) (hp2 : p < 20736) (hX : DX C n f p (gI σ (B + 54) 41) (gI σ (B + 54) 42) (gI σ (B + 74))) (hC : C p = wsB A E) (hf : ∀ j, j < 2 * n → gI σ (B + 54) (30 + j) = nI (f p j)) (K : ∀ τ, Sm (fun a => a = B + 54 ∨ a = B + 74) σ τ → (∀ j, j ≠ 41 → j ≠ 42 → gI τ (B + 54) j = gI σ (B + 54) j) → DX C n f (p + 1) (gI τ (B + 54) 41) (gI τ (B + 54) 42) (gI τ (B + 74)) → Q none τ) : wc (d + 7) 252 [.ref (B + 54), .int (nI n)] σ Q := by
  have hv := X.1
  have cl := cn_le C p 0
  obtain ⟨x1, x2⟩ := id hX
  cases w : wsB A E
  · rw [w] at hC
    simp (disch := omega) only [c_252, e_252_0, e_252_1, e_252_4, e_252_7, n10, n01, Nat.lt_irrefl, Nat.not_lt_zero, ne_eq, Nat.add_zero, Nat.one_ne_zero, Nat.zero_ne_one, Nat.reduceEqDiff, bI_T, bI_F, bI_0, bI_1, bI_01, not_and_self, true_and, and_true, not_true_eq_false, not_false_eq_true, false_imp_iff, true_imp_iff, imp_self, gPv_n, gPv_i, gPv_r, gPv_0, Option.toList_some, Option.toList_none, List.singleton_append, List.cons_append, List.nil_append, List.length_nil, List.length_cons, Nat.zero_le, Nat.reduceAdd, Nat.reduceLeDiff, or_true, true_or, false_or, or_false, and_self, and_false, false_and, implies_true, Option.some.injEq, exists_eq_left', nL, nI_eq, sk_54 hv, sr_54_2 hv, sr_54_3 hv, sr_54_4 hv, sr_54_5 hv, sr_54_7 hv, sr_54_8 hv, sr_54_9 hv, sr_54_12 hv, sr_54_13 hv, sr_54_14 hv, sr_54_22 hv, sr_54_25 hv, sr_54_26 hv, sr_54_27 hv, sr_54_34 hv, sr_54_35 hv, sr_54_36 hv, sr_54_37 hv, sr_54_38 hv, sr_54_40 hv, sr_54_43 hv, sr_54_44 hv, sr_54_45 hv, sr_54_46 hv, sr_54_47 hv, t_isWished X hp hN hE, w, Bool.false_eq_true]
    exact K σ (Sm_refl _ _) (fun _ _ _ => rfl) (DX_0 hX hC)
  · rw [w] at hC
    by_cases c0 : cn C p 0 = 0
    · have f0 := (cn_fo' p 0).mp c0
      have x1' : gI σ (B + 54) 42 = nI 0 := by rw [x1, c0]
      simp (disch := omega) only [c_252, e_252_0, e_252_1, e_252_4, e_252_7, e_252_8, e_252_9, e_252_12, e_252_15, e_252_16, e_252_17, e_252_20, e_252_21, e_252_24, e_252_25, e_252_26, e_252_29, e_252_30, e_252_31, e_252_34, e_252_35, e_252_36, e_252_39, e_252_40, e_252_41, e_252_44, e_252_45, e_252_46, e_252_49, e_252_50, e_252_51, e_252_54, e_252_55, e_252_56, e_252_59, e_252_60, e_252_61, e_252_61n, e_252_62, e_252_65, e_252_66, e_252_67, e_252_70, n10, n01, Nat.lt_irrefl, Nat.not_lt_zero, ne_eq, Nat.add_zero, Nat.one_ne_zero, Nat.zero_ne_one, Nat.reduceEqDiff, bI_T, bI_F, bI_0, bI_1, bI_01, not_and_self, true_and, and_true, not_true_eq_false, not_false_eq_true, false_imp_iff, true_imp_iff, imp_self, gPv_n, gPv_i, gPv_r, gPv_0, Option.toList_some, Option.toList_none, List.singleton_append, List.cons_append, List.nil_append, List.length_nil, List.length_cons, Nat.zero_le, Nat.reduceAdd, Nat.reduceLeDiff, or_true, true_or, false_or, or_false, and_self, and_false, false_and, implies_true, Option.some.injEq, exists_eq_left', nL, nI_add, nI_mul, nI_clamp, nI_ltI, nI_leI, nI_eq, nI_pos, nI_pos', Nat.reduceAdd, Nat.reduceMul, Nat.reducePow, sk_54 hv, sr_54_2 hv, sr_54_3 hv, sr_54_4 hv, sr_54_5 hv, sr_54_7 hv, sr_54_8 hv, sr_54_9 hv, sr_54_12 hv, sr_54_13 hv, sr_54_14 hv, sr_54_22 hv, sr_54_25 hv, sr_54_26 hv, sr_54_27 hv, sr_54_34 hv, sr_54_35 hv, sr_54_36 hv, sr_54_37 hv, sr_54_38 hv, sr_54_40 hv, sr_54_43 hv, sr_54_44 hv, sr_54_45 hv, sr_54_46 hv, sr_54_47 hv, sk_74 hv, sn_74 hv, n_K_I, n_K_J, n_K_R, n_K_r, n_N_I, n_N_J, n_N_R, n_N_r, n_R_I, n_R_J, n_R_r, n_J_I, n_J_R, n_J_r, n_I_J, n_I_R, n_n_I, n_n_J, n_n_R, n_n_r, n_w_I, n_w_J, n_w_R, n_w_r, n_T_I, n_T_J, n_T_R, n_T_r, rI_ne, rI_nk, rI_eq, rr_ne, rr_eq, n_J_J, n_R_R, Nat.add_left_cancel_iff, Nat.add_right_cancel_iff, Nat.add_eq_left, Nat.left_eq_add, Nat.reduceEqDiff, Nat.reduceAdd, Nat.zero_ne_one, Nat.one_ne_zero, false_and, and_false, true_and, and_true, and_self, if_false, if_true, ↓reduceIte, t_isWished X hp hN hE, w, x1']
      refine ⟨by omega, by omega, by omega, by omega, ?_⟩
      refine K _ (Sm_I (Sm_I (Sm_I (Sm_I (Sm_I (Sm_I (Sm_refl _ _) (Or.inl rfl)) (Or.inr rfl)) (Or.inr rfl)) (Or.inr rfl)) (Or.inr rfl)) (Or.inl rfl)) ?_ ⟨?_, ?_⟩
      · intro j j1 j2
        rw [rI_nk (by omega), rI_ne (by omega), rI_ne (by omega), rI_ne (by omega), rI_ne (by omega), rI_nk (by omega)]
      · rw [rI_eq, cn_s, hC, c0]
        rfl
      · rw [fo_s, f0, hC]
        refine ⟨?_, ?_⟩
        · rw [rI_nk (by omega), rI_ne (by omega), rI_ne (by omega), rI_ne (by omega), rI_ne (by omega), rI_eq]
        · intro j hj
          have hj' := hf j hj
          have j4 : j = 0 ∨ j = 1 ∨ j = 2 ∨ j = 3 := by omega
          rcases j4 with rfl | rfl | rfl | rfl
          · rw [rI_ne (by omega), rI_nk (by omega), rI_nk (by omega), rI_nk (by omega), rI_eq]
            exact hj'
          · rw [rI_ne (by omega), rI_nk (by omega), rI_nk (by omega), rI_eq]
            exact hj'
          · rw [rI_ne (by omega), rI_nk (by omega), rI_eq]
            exact hj'
          · rw [rI_ne (by omega), rI_eq]
            exact hj'
    · obtain ⟨q, hq⟩ : ∃ q, fo C p 0 = some q := by
        cases z : fo C p 0 with
        | none => exact absurd ((cn_fo' p 0).mpr z) c0
        | some q => exact ⟨q, rfl⟩
      simp (disch := omega) only [c_252, e_252_0, e_252_1, e_252_4, e_252_7, e_252_8, e_252_9, e_252_12, e_252_15, e_252_16, e_252_17, e_252_20, e_252_21, e_252_24, e_252_25, e_252_26, e_252_29, e_252_30, e_252_31, e_252_34, e_252_35, e_252_36, e_252_39, e_252_40, e_252_41, e_252_44, e_252_45, e_252_46, e_252_49, e_252_50, e_252_51, e_252_54, e_252_55, e_252_56, e_252_59, e_252_60, e_252_61, e_252_61n, e_252_62, e_252_65, e_252_66, e_252_67, e_252_70, n10, n01, Nat.lt_irrefl, Nat.not_lt_zero, ne_eq, Nat.add_zero, Nat.one_ne_zero, Nat.zero_ne_one, Nat.reduceEqDiff, bI_T, bI_F, bI_0, bI_1, bI_01, not_and_self, true_and, and_true, not_true_eq_false, not_false_eq_true, false_imp_iff, true_imp_iff, imp_self, gPv_n, gPv_i, gPv_r, gPv_0, Option.toList_some, Option.toList_none, List.singleton_append, List.cons_append, List.nil_append, List.length_nil, List.length_cons, Nat.zero_le, Nat.reduceAdd, Nat.reduceLeDiff, or_true, true_or, false_or, or_false, and_self, and_false, false_and, implies_true, Option.some.injEq, exists_eq_left', nL, nI_add, nI_mul, nI_clamp, nI_ltI, nI_leI, nI_eq, nI_pos, nI_pos', Nat.reduceAdd, Nat.reduceMul, Nat.reducePow, sk_54 hv, sr_54_2 hv, sr_54_3 hv, sr_54_4 hv, sr_54_5 hv, sr_54_7 hv, sr_54_8 hv, sr_54_9 hv, sr_54_12 hv, sr_54_13 hv, sr_54_14 hv, sr_54_22 hv, sr_54_25 hv, sr_54_26 hv, sr_54_27 hv, sr_54_34 hv, sr_54_35 hv, sr_54_36 hv, sr_54_37 hv, sr_54_38 hv, sr_54_40 hv, sr_54_43 hv, sr_54_44 hv, sr_54_45 hv, sr_54_46 hv, sr_54_47 hv, sk_74 hv, sn_74 hv, n_K_I, n_K_J, n_K_R, n_K_r, n_N_I, n_N_J, n_N_R, n_N_r, n_R_I, n_R_J, n_R_r, n_J_I, n_J_R, n_J_r, n_I_J, n_I_R, n_n_I, n_n_J, n_n_R, n_n_r, n_w_I, n_w_J, n_w_R, n_w_r, n_T_I, n_T_J, n_T_R, n_T_r, rI_ne, rI_nk, rI_eq, rr_ne, rr_eq, n_J_J, n_R_R, Nat.add_left_cancel_iff, Nat.add_right_cancel_iff, Nat.add_eq_left, Nat.left_eq_add, Nat.reduceEqDiff, Nat.reduceAdd, Nat.zero_ne_one, Nat.one_ne_zero, false_and, and_false, true_and, and_true, and_self, if_false, if_true, ↓reduceIte, t_isWished X hp hN hE, w, x1, c0]
      refine K _ (Sm_I (Sm_refl _ _) (Or.inl rfl)) ?_ ⟨?_, ?_⟩
      · intro j j1 j2
        rw [rI_nk (by omega)]
      · rw [rI_eq, cn_s, hC]
        rfl
      · rw [fo_s, hq, rI_nk (by omega), rI_ne (by omega)]
        rw [hq] at x2
        exact x2
abbrev DmT (B : Nat) (σ τ : gS) : Prop := Sm (fun a => a = B + 54 ∨ a = B + 74) σ τ ∧ ∀ j, j ≠ 30 → j ≠ 31 → j ≠ 32 → j ≠ 33 → j ≠ 41 → j ≠ 42 → gI τ (B + 54) j = gI σ (B + 54) j
theorem DmT_I {τ : gS} {j : Nat} {x : Int32} (h : DmT B σ τ) (hj : j = 30 ∨ j = 31 ∨ j = 32 ∨ j = 33 ∨ j = 41 ∨ j = 42) : DmT B σ (sI τ (B + 54) j x) := ⟨Sm_I h.1 (Or.inl rfl), fun i a b c d e f => by rw [rI_nk (by omega)]; exact h.2 i a b c d e f⟩
theorem DmT_f {τ τ' : gS} (h : DmT B σ τ) (hS : Sm (fun a => a = B + 54 ∨ a = B + 74) τ τ') (he : ∀ j, j ≠ 41 → j ≠ 42 → gI τ' (B + 54) j = gI τ (B + 54) j) : DmT B σ τ' := ⟨Sm_trans h.1 hS, fun i a b c d e f => by rw [he i e f]; exact h.2 i a b c d e f⟩
abbrev DmX (B : Nat) (C : Nat → Bool) (n : Nat) (f : Nat → Nat → Nat) (p : Nat) (τ : gS) : Prop := DX C n f p (gI τ (B + 54) 41) (gI τ (B + 54) 42) (gI τ (B + 74))
theorem DmX_I {τ : gS} {C : Nat → Bool} {n p j : Nat} {f : Nat → Nat → Nat} {x : Int32} (h : DmX B C n f p τ) (hj : j ≠ 41 ∧ j ≠ 42) : DmX B C n f p (sI τ (B + 54) j x) := by
  simp only [DmX]
  rw [rI_nk (by omega), rI_nk (by omega), rI_ne (by omega)]
  exact h
theorem pr_lt {p : Nat} (c : prB A p = true) : p / 12 < p % 12 ∧ p % 12 < hn A := by
  simp only [prB, Bool.and_eq_true, decide_eq_true_iff] at c
  exact c.1
/-- one door: the loop -/
theorem t_dr1 {σ0 : gS} (X0 : MX B σ0 A) (hp : Wp A) (hq : QM B A v σ0 σ) (K : ∀ τ' x3, DmT B σ τ' → gI τ' (B + 54) 32 = -nI 1 → DmX B (o1 A) 1 f1 144 τ' → wp (d + 8) pr_254 Q 144 [some (.ref (B + 54)), some (.int (nI 1)), some (.int (nI 144)), x3] [] τ') : ∀ m p τ (x3 : Option Value), p + m = 144 → DmT B σ τ → gI τ (B + 54) 32 = -nI 1 → DmX B (o1 A) 1 f1 p τ → wp (d + 8) pr_254 Q 35 [some (.ref (B + 54)), some (.int (nI 1)), some (.int (nI p)), x3] [] τ := by
  have X := QM_X X0 hq
  have wh := X.2.2.1
  have h12 := hn_le wh
  have q6 := hq.2.2.2.2.2
  intro m
  induction m with
  | zero =>
    intro p τ x3 hpm hF h32 hD
    have e : p = 144 := by omega
    subst e
    simp (disch := omega) only [e_254_35, e_254_36, e_254_39, n10, n01, Nat.lt_irrefl, Nat.not_lt_zero, ne_eq, Nat.add_zero, Nat.one_ne_zero, Nat.zero_ne_one, Nat.reduceEqDiff, bI_T, bI_F, bI_0, bI_1, bI_01, not_and_self, true_and, and_true, not_true_eq_false, not_false_eq_true, false_imp_iff, true_imp_iff, imp_self, gPv_n, gPv_i, gPv_r, gPv_0, Option.toList_some, Option.toList_none, List.singleton_append, List.cons_append, List.nil_append, List.length_nil, List.length_cons, Nat.zero_le, Nat.reduceAdd, Nat.reduceLeDiff, or_true, true_or, false_or, or_false, and_self, and_false, false_and, implies_true, Option.some.injEq, exists_eq_left', nL, nI_add, nI_mul, nI_clamp, nI_ltI, nI_leI, nI_eq, nI_pos, nI_pos', Nat.reduceAdd, Nat.reduceMul, Nat.reducePow, Nat.le_refl]
    exact K τ x3 hF h32 hD
  | succ m ih =>
    intro p τ x3 hpm hF h32 hD
    have z : ¬ 144 ≤ p := by omega
    have XT : MX B τ A := MX_S X hF.1 (by omega)
    have hvT := XT.1
    rw [e_254_35]
    cases c : prB A p
    · have cp : o1 A p = false := by rw [o1, c, Bool.false_and]
      simp (disch := omega) only [e_254_36, e_254_39, e_254_42, e_254_43, e_254_44, e_254_47, e_254_50, e_254_138, e_254_141, n10, n01, Nat.lt_irrefl, Nat.not_lt_zero, ne_eq, Nat.add_zero, Nat.one_ne_zero, Nat.zero_ne_one, Nat.reduceEqDiff, bI_T, bI_F, bI_0, bI_1, bI_01, not_and_self, true_and, and_true, not_true_eq_false, not_false_eq_true, false_imp_iff, true_imp_iff, imp_self, gPv_n, gPv_i, gPv_r, gPv_0, Option.toList_some, Option.toList_none, List.singleton_append, List.cons_append, List.nil_append, List.length_nil, List.length_cons, Nat.zero_le, Nat.reduceAdd, Nat.reduceLeDiff, or_true, true_or, false_or, or_false, and_self, and_false, false_and, implies_true, Option.some.injEq, exists_eq_left', nL, nI_add, nI_mul, nI_clamp, nI_ltI, nI_leI, nI_eq, nI_pos, nI_pos', Nat.reduceAdd, Nat.reduceMul, Nat.reducePow, sk_54 hvT, sr_54_2 hvT, sr_54_3 hvT, sr_54_4 hvT, sr_54_5 hvT, sr_54_7 hvT, sr_54_8 hvT, sr_54_9 hvT, sr_54_12 hvT, sr_54_13 hvT, sr_54_14 hvT, sr_54_22 hvT, sr_54_25 hvT, sr_54_26 hvT, sr_54_27 hvT, sr_54_34 hvT, sr_54_35 hvT, sr_54_36 hvT, sr_54_37 hvT, sr_54_38 hvT, sr_54_40 hvT, sr_54_43 hvT, sr_54_44 hvT, sr_54_45 hvT, sr_54_46 hvT, sr_54_47 hvT, z, t_isPair XT, c, Bool.false_eq_true]
      exact ih (p + 1) τ x3 (by omega) hF h32 (DX_0 hD cp)
    · obtain ⟨r1, r2⟩ := pr_lt c
      have cp : o1 A p = wsB A (D1 A p) := by rw [o1, c, Bool.true_and]
      simp (disch := omega) only [e_254_36, e_254_39, e_254_42, e_254_43, e_254_44, e_254_47, e_254_50, e_254_53, e_254_54, e_254_55, e_254_57, e_254_58, e_254_61, e_254_62, e_254_63, e_254_65, e_254_66, e_254_69, e_254_70, e_254_71, e_254_74, e_254_75, e_254_76, n10, n01, Nat.lt_irrefl, Nat.not_lt_zero, ne_eq, Nat.add_zero, Nat.one_ne_zero, Nat.zero_ne_one, Nat.reduceEqDiff, bI_T, bI_F, bI_0, bI_1, bI_01, not_and_self, true_and, and_true, not_true_eq_false, not_false_eq_true, false_imp_iff, true_imp_iff, imp_self, gPv_n, gPv_i, gPv_r, gPv_0, Option.toList_some, Option.toList_none, List.singleton_append, List.cons_append, List.nil_append, List.length_nil, List.length_cons, Nat.zero_le, Nat.reduceAdd, Nat.reduceLeDiff, or_true, true_or, false_or, or_false, and_self, and_false, false_and, implies_true, Option.some.injEq, exists_eq_left', nL, nI_add, nI_mul, nI_clamp, nI_ltI, nI_leI, nI_eq, nI_pos, nI_pos', Nat.reduceAdd, Nat.reduceMul, Nat.reducePow, sk_54 hvT, sr_54_2 hvT, sr_54_3 hvT, sr_54_4 hvT, sr_54_5 hvT, sr_54_7 hvT, sr_54_8 hvT, sr_54_9 hvT, sr_54_12 hvT, sr_54_13 hvT, sr_54_14 hvT, sr_54_22 hvT, sr_54_25 hvT, sr_54_26 hvT, sr_54_27 hvT, sr_54_34 hvT, sr_54_35 hvT, sr_54_36 hvT, sr_54_37 hvT, sr_54_38 hvT, sr_54_40 hvT, sr_54_43 hvT, sr_54_44 hvT, sr_54_45 hvT, sr_54_46 hvT, sr_54_47 hvT, z, t_isPair XT, c, nI_div, nI_rem, n_K_I, n_K_J, n_K_R, n_K_r, n_N_I, n_N_J, n_N_R, n_N_r, n_R_I, n_R_J, n_R_r, n_J_I, n_J_R, n_J_r, n_I_J, n_I_R, n_n_I, n_n_J, n_n_R, n_n_r, n_w_I, n_w_J, n_w_R, n_w_r, n_T_I, n_T_J, n_T_R, n_T_r, rI_ne, rI_nk, rI_eq, rr_ne, rr_eq, n_J_J, n_R_R, Nat.add_left_cancel_iff, Nat.add_right_cancel_iff, Nat.add_eq_left, Nat.left_eq_add, Nat.reduceEqDiff, Nat.reduceAdd, Nat.zero_ne_one, Nat.one_ne_zero, false_and, and_false, true_and, and_true, and_self, if_false, if_true, ↓reduceIte]
      have hF1 : DmT B σ (sI (sI τ (B + 54) 30 (nI (p / 12))) (B + 54) 31 (nI (p % 12))) := DmT_I (DmT_I hF (by omega)) (by omega)
      have X1 : MX B (sI (sI τ (B + 54) 30 (nI (p / 12))) (B + 54) 31 (nI (p % 12))) A := MX_S X hF1.1 (by omega)
      have e : ∀ a, a ≠ B + 54 → a ≠ B + 74 → gI (sI (sI τ (B + 54) 30 (nI (p / 12))) (B + 54) 31 (nI (p % 12))) a = gI σ a := fun a x y => hF1.1.2.2.2.2.2.2.1 a (by omega)
      have hN : NX B (sI (sI τ (B + 54) 30 (nI (p / 12))) (B + 54) 31 (nI (p % 12))) (hn A) (D1 A p) := by
        refine NX_d1 X1 (by omega) r2 (by omega) ?_ ?_ ?_ (by rw [e _ (by omega) (by omega), e _ (by omega) (by omega), e _ (by omega) (by omega)]; exact q6)
        · rw [rI_nk (by omega), rI_eq]
        · rw [rI_eq]
        · rw [rI_nk (by omega), rI_nk (by omega)]
          exact h32
      refine t_found (d := d + 1) (C := o1 A) (n := 1) (p := p) (f := f1) X1 hp hN (EdG_d (EdG_o wh) (EdG_w wh) (by omega) r2) (by omega) (by omega) (DmX_I (DmX_I hD (by omega)) (by omega)) cp ?_ ?_
      · intro j hj
        have j2 : j = 0 ∨ j = 1 := by omega
        rcases j2 with rfl | rfl
        · rw [rI_nk (by omega), rI_eq]
          rfl
        · rw [rI_eq]
          rfl
      · intro τ2 g1 g2 g3
        have hv2 : IvS B τ2 := fr_IvS g1.1 g1.2.1 g1.2.2.1 X1.1
        have hF2 := DmT_f hF1 g1 g2
        have fin := ih (p + 1) (sI τ2 (B + 54) 32 (-nI 1)) (some (.int (nI (p + 1)))) (by omega) (DmT_I hF2 (by omega)) rI_eq (DmX_I g3 (by omega))
        by_cases z2 : 144 ≤ p + 1
        · simp (disch := omega) only [e_254_79, e_254_80, e_254_81, e_254_82, e_254_83, e_254_84, e_254_87, e_254_133, e_254_134, e_254_135, e_254_138, e_254_141, n10, n01, Nat.lt_irrefl, Nat.not_lt_zero, ne_eq, Nat.add_zero, Nat.one_ne_zero, Nat.zero_ne_one, Nat.reduceEqDiff, bI_T, bI_F, bI_0, bI_1, bI_01, not_and_self, true_and, and_true, not_true_eq_false, not_false_eq_true, false_imp_iff, true_imp_iff, imp_self, gPv_n, gPv_i, gPv_r, gPv_0, Option.toList_some, Option.toList_none, List.singleton_append, List.cons_append, List.nil_append, List.length_nil, List.length_cons, Nat.zero_le, Nat.reduceAdd, Nat.reduceLeDiff, or_true, true_or, false_or, or_false, and_self, and_false, false_and, implies_true, Option.some.injEq, exists_eq_left', nL, nI_add, nI_mul, nI_clamp, nI_ltI, nI_leI, nI_eq, nI_pos, nI_pos', Nat.reduceAdd, Nat.reduceMul, Nat.reducePow, sk_54 hv2, sr_54_2 hv2, sr_54_3 hv2, sr_54_4 hv2, sr_54_5 hv2, sr_54_7 hv2, sr_54_8 hv2, sr_54_9 hv2, sr_54_12 hv2, sr_54_13 hv2, sr_54_14 hv2, sr_54_22 hv2, sr_54_25 hv2, sr_54_26 hv2, sr_54_27 hv2, sr_54_34 hv2, sr_54_35 hv2, sr_54_36 hv2, sr_54_37 hv2, sr_54_38 hv2, sr_54_40 hv2, sr_54_43 hv2, sr_54_44 hv2, sr_54_45 hv2, sr_54_46 hv2, sr_54_47 hv2, z2]
          exact fin
        · simp (disch := omega) only [e_254_79, e_254_80, e_254_81, e_254_82, e_254_83, e_254_84, e_254_87, e_254_90, e_254_91, e_254_92, e_254_133, e_254_134, e_254_135, e_254_138, e_254_141, n10, n01, Nat.lt_irrefl, Nat.not_lt_zero, ne_eq, Nat.add_zero, Nat.one_ne_zero, Nat.zero_ne_one, Nat.reduceEqDiff, bI_T, bI_F, bI_0, bI_1, bI_01, not_and_self, true_and, and_true, not_true_eq_false, not_false_eq_true, false_imp_iff, true_imp_iff, imp_self, gPv_n, gPv_i, gPv_r, gPv_0, Option.toList_some, Option.toList_none, List.singleton_append, List.cons_append, List.nil_append, List.length_nil, List.length_cons, Nat.zero_le, Nat.reduceAdd, Nat.reduceLeDiff, or_true, true_or, false_or, or_false, and_self, and_false, false_and, implies_true, Option.some.injEq, exists_eq_left', nL, nI_add, nI_mul, nI_clamp, nI_ltI, nI_leI, nI_eq, nI_pos, nI_pos', Nat.reduceAdd, Nat.reduceMul, Nat.reducePow, sk_54 hv2, sr_54_2 hv2, sr_54_3 hv2, sr_54_4 hv2, sr_54_5 hv2, sr_54_7 hv2, sr_54_8 hv2, sr_54_9 hv2, sr_54_12 hv2, sr_54_13 hv2, sr_54_14 hv2, sr_54_22 hv2, sr_54_25 hv2, sr_54_26 hv2, sr_54_27 hv2, sr_54_34 hv2, sr_54_35 hv2, sr_54_36 hv2, sr_54_37 hv2, sr_54_38 hv2, sr_54_40 hv2, sr_54_43 hv2, sr_54_44 hv2, sr_54_45 hv2, sr_54_46 hv2, sr_54_47 hv2, z2, Nat.reduceEqDiff]
          exact fin
end
