/-! where a house can be -/
def anyB (C : Nat → Bool) : Nat → Nat → Bool
  | 0, _ => false
  | m + 1, i => C i || anyB C m (i + 1)
theorem anyB_iff {C : Nat → Bool} : ∀ {m i : Nat}, anyB C m i = true ↔ ∃ j, i ≤ j ∧ j < i + m ∧ C j = true := by
  intro m
  induction m with
  | zero =>
    intro i
    simp only [anyB, Bool.false_eq_true, false_iff]
    rintro ⟨j, h1, h2, _⟩
    omega
  | succ m ih =>
    intro i
    simp only [anyB, Bool.or_eq_true, ih]
    constructor
    · rintro (h | ⟨j, h1, h2, h3⟩)
      · exact ⟨i, by omega, by omega, h⟩
      · exact ⟨j, by omega, by omega, h3⟩
    · rintro ⟨j, h1, h2, h3⟩
      by_cases hj : j = i
      · subst hj; exact Or.inl h3
      · exact Or.inr ⟨j, by omega, by omega, h3⟩
theorem ff_m1 {C : Nat → Bool} : ∀ {m i : Nat}, i + m < 2147483648 → (ff C m i = -nI 1 ↔ anyB C m i = false) := by
  intro m
  induction m with
  | zero => intro i _; simp [ff, anyB]
  | succ m ih =>
    intro i hi
    simp only [ff, anyB]
    by_cases c : C i = true
    · simp only [c, if_true, Bool.true_or, Bool.true_eq_false, iff_false]
      intro h
      exact ng_ne 1 i (by omega) (by omega) (by omega) h.symm
    · have c' : C i = false := by simpa using c
      simp only [c', Bool.false_eq_true, if_false, Bool.false_or]
      exact ih (by omega)
/-- a house of w and d squares from l, t lies over another's squares -/
def ovB (A : Nat → Int32) (l t w e h : Nat) : Bool := decide (mtA A l t w e h = 3)
abbrev okH (p0 p1 p2 p3 p4 : Int32) : Prop := ((nI 1 ≤ p2 ∧ p2 ≤ nI 3) ∧ (nI 1 ≤ p3 ∧ p3 ≤ nI 3)) ∧ (nI 0 ≤ p4 ∧ p4 ≤ nI 9) ∧ (nI 0 ≤ p0 ∧ p0 ≤ nI 8 - p2) ∧ (nI 0 ≤ p1 ∧ p1 ≤ nI 8 - p3)
theorem in_13 {p : Int32} (h : nI 1 ≤ p ∧ p ≤ nI 3) : ∃ w : Nat, p = nI w ∧ 1 ≤ w ∧ w ≤ 3 := by
  have h0 : nI 0 ≤ p := by
    have := h.1
    rw [Int32.le_iff_toInt_le, nI_toInt (by omega)] at this
    rw [Int32.le_iff_toInt_le, nI_toInt (by omega)]
    omega
  obtain ⟨w, h1, rfl⟩ := in_nI (by omega) ⟨h0, h.2⟩
  exact ⟨w, rfl, by have := h.1; rw [nI_leI (by omega) (by omega)] at this; exact this, h1⟩
theorem okH_n {p0 p1 p2 p3 p4 : Int32} (h : okH p0 p1 p2 p3 p4) : ∃ l t w e r : Nat, p0 = nI l ∧ p1 = nI t ∧ p2 = nI w ∧ p3 = nI e ∧ p4 = nI r ∧ 1 ≤ w ∧ w ≤ 3 ∧ 1 ≤ e ∧ e ≤ 3 ∧ l + w ≤ 8 ∧ t + e ≤ 8 ∧ r ≤ 9 := by
  obtain ⟨⟨h1, h2⟩, h3, h4, h5⟩ := h
  obtain ⟨w, rfl, w1, w2⟩ := in_13 h1
  obtain ⟨e, rfl, e1, e2⟩ := in_13 h2
  obtain ⟨r, r1, rfl⟩ := in_nI (by omega) h3
  rw [nI_sub (by omega)] at h4 h5
  obtain ⟨l, l1, rfl⟩ := in_nI (by omega) h4
  obtain ⟨t, l2, rfl⟩ := in_nI (by omega) h5
  exact ⟨l, t, w, e, r, rfl, rfl, rfl, rfl, rfl, w1, w2, e1, e2, by omega, by omega, r1⟩
theorem s_whyB {d : Nat} {Q : Option Value → gS → Prop} {B : Nat} {σ : gS} {p0 p1 p2 p3 p4 : Int32} (h : ¬ okH p0 p1 p2 p3 p4) : wc (d + 2) 105 [.ref (B + 1), .int p0, .int p1, .int p2, .int p3, .int p4] σ Q ↔ Q (some (.int (-nI 1))) σ := by
  by_cases c1 : nI 1 ≤ p2 ∧ p2 ≤ nI 3
  · by_cases c2 : nI 1 ≤ p3 ∧ p3 ≤ nI 3
    · by_cases c3 : nI 0 ≤ p4 ∧ p4 ≤ nI 9
      · by_cases c4 : nI 0 ≤ p0 ∧ p0 ≤ nI 8 - p2
        · by_cases c5 : nI 0 ≤ p1 ∧ p1 ≤ nI 8 - p3
          · exact absurd ⟨⟨c1, c2⟩, c3, c4, c5⟩ h
          · simp only [c_105, e_105_0, e_105_1, e_105_2, e_105_3, e_105_6, e_105_9, e_105_11, e_105_12, e_105_13, e_105_16, e_105_19, e_105_20, e_105_23, e_105_24, e_105_26, e_105_28, e_105_31, e_105_33, e_105_34, e_105_36, e_105_39, e_105_42, e_105_43, e_105_44, e_105_45, e_105_46, e_105_48, e_105_49, e_105_50, e_105_53, e_105_56, e_105_57, e_105_58, e_105_60, e_105_62, e_105_63, e_105_66, e_105_69, e_105_70, n10, n01, Nat.lt_irrefl, Nat.not_lt_zero, ne_eq, Nat.add_zero, Nat.one_ne_zero, Nat.zero_ne_one, Nat.reduceEqDiff, bI_T, bI_F, bI_0, bI_1, bI_01, not_and_self, true_and, and_true, not_true_eq_false, not_false_eq_true, false_imp_iff, true_imp_iff, imp_self, gPv_n, gPv_i, gPv_r, gPv_0, Option.toList_some, Option.toList_none, List.singleton_append, List.cons_append, List.nil_append, List.length_nil, List.length_cons, Nat.zero_le, Nat.reduceAdd, Nat.reduceLeDiff, or_true, true_or, false_or, or_false, and_self, and_false, false_and, implies_true, Option.some.injEq, exists_eq_left', nL, s_within, c1, c2, c3, c4, c5]
        · simp only [c_105, e_105_0, e_105_1, e_105_2, e_105_3, e_105_6, e_105_9, e_105_11, e_105_12, e_105_13, e_105_16, e_105_19, e_105_20, e_105_23, e_105_24, e_105_26, e_105_28, e_105_31, e_105_33, e_105_34, e_105_36, e_105_39, e_105_42, e_105_43, e_105_44, e_105_45, e_105_46, e_105_48, e_105_49, e_105_50, e_105_53, e_105_56, e_105_57, e_105_58, e_105_60, e_105_62, e_105_63, e_105_66, e_105_69, e_105_70, n10, n01, Nat.lt_irrefl, Nat.not_lt_zero, ne_eq, Nat.add_zero, Nat.one_ne_zero, Nat.zero_ne_one, Nat.reduceEqDiff, bI_T, bI_F, bI_0, bI_1, bI_01, not_and_self, true_and, and_true, not_true_eq_false, not_false_eq_true, false_imp_iff, true_imp_iff, imp_self, gPv_n, gPv_i, gPv_r, gPv_0, Option.toList_some, Option.toList_none, List.singleton_append, List.cons_append, List.nil_append, List.length_nil, List.length_cons, Nat.zero_le, Nat.reduceAdd, Nat.reduceLeDiff, or_true, true_or, false_or, or_false, and_self, and_false, false_and, implies_true, Option.some.injEq, exists_eq_left', nL, s_within, c1, c2, c3, c4]
      · simp only [c_105, e_105_0, e_105_1, e_105_2, e_105_3, e_105_6, e_105_9, e_105_11, e_105_12, e_105_13, e_105_16, e_105_19, e_105_20, e_105_23, e_105_24, e_105_26, e_105_28, e_105_31, e_105_33, e_105_34, e_105_36, e_105_39, e_105_42, e_105_43, e_105_44, e_105_45, e_105_46, e_105_48, e_105_49, e_105_50, e_105_53, e_105_56, e_105_57, e_105_58, e_105_60, e_105_62, e_105_63, e_105_66, e_105_69, e_105_70, n10, n01, Nat.lt_irrefl, Nat.not_lt_zero, ne_eq, Nat.add_zero, Nat.one_ne_zero, Nat.zero_ne_one, Nat.reduceEqDiff, bI_T, bI_F, bI_0, bI_1, bI_01, not_and_self, true_and, and_true, not_true_eq_false, not_false_eq_true, false_imp_iff, true_imp_iff, imp_self, gPv_n, gPv_i, gPv_r, gPv_0, Option.toList_some, Option.toList_none, List.singleton_append, List.cons_append, List.nil_append, List.length_nil, List.length_cons, Nat.zero_le, Nat.reduceAdd, Nat.reduceLeDiff, or_true, true_or, false_or, or_false, and_self, and_false, false_and, implies_true, Option.some.injEq, exists_eq_left', nL, s_within, c1, c2, c3]
    · simp only [c_105, e_105_0, e_105_1, e_105_2, e_105_3, e_105_6, e_105_9, e_105_11, e_105_12, e_105_13, e_105_16, e_105_19, e_105_20, e_105_23, e_105_24, e_105_26, e_105_28, e_105_31, e_105_33, e_105_34, e_105_36, e_105_39, e_105_42, e_105_43, e_105_44, e_105_45, e_105_46, e_105_48, e_105_49, e_105_50, e_105_53, e_105_56, e_105_57, e_105_58, e_105_60, e_105_62, e_105_63, e_105_66, e_105_69, e_105_70, n10, n01, Nat.lt_irrefl, Nat.not_lt_zero, ne_eq, Nat.add_zero, Nat.one_ne_zero, Nat.zero_ne_one, Nat.reduceEqDiff, bI_T, bI_F, bI_0, bI_1, bI_01, not_and_self, true_and, and_true, not_true_eq_false, not_false_eq_true, false_imp_iff, true_imp_iff, imp_self, gPv_n, gPv_i, gPv_r, gPv_0, Option.toList_some, Option.toList_none, List.singleton_append, List.cons_append, List.nil_append, List.length_nil, List.length_cons, Nat.zero_le, Nat.reduceAdd, Nat.reduceLeDiff, or_true, true_or, false_or, or_false, and_self, and_false, false_and, implies_true, Option.some.injEq, exists_eq_left', nL, s_within, c1, c2]
  · simp only [c_105, e_105_0, e_105_1, e_105_2, e_105_3, e_105_6, e_105_9, e_105_11, e_105_12, e_105_13, e_105_16, e_105_19, e_105_20, e_105_23, e_105_24, e_105_26, e_105_28, e_105_31, e_105_33, e_105_34, e_105_36, e_105_39, e_105_42, e_105_43, e_105_44, e_105_45, e_105_46, e_105_48, e_105_49, e_105_50, e_105_53, e_105_56, e_105_57, e_105_58, e_105_60, e_105_62, e_105_63, e_105_66, e_105_69, e_105_70, n10, n01, Nat.lt_irrefl, Nat.not_lt_zero, ne_eq, Nat.add_zero, Nat.one_ne_zero, Nat.zero_ne_one, Nat.reduceEqDiff, bI_T, bI_F, bI_0, bI_1, bI_01, not_and_self, true_and, and_true, not_true_eq_false, not_false_eq_true, false_imp_iff, true_imp_iff, imp_self, gPv_n, gPv_i, gPv_r, gPv_0, Option.toList_some, Option.toList_none, List.singleton_append, List.cons_append, List.nil_append, List.length_nil, List.length_cons, Nat.zero_le, Nat.reduceAdd, Nat.reduceLeDiff, or_true, true_or, false_or, or_false, and_self, and_false, false_and, implies_true, Option.some.injEq, exists_eq_left', nL, s_within, c1]
theorem s_whyL {d : Nat} {Q : Option Value → gS → Prop} {B l t w e r : Nat} {σ : gS} {A : Nat → Int32} {x6 : Option Value} (h6 : gPv x6 = true) (hv : IvS B σ) (wh : Wh A) (g : Th (B + 1) σ A) (hw : w ≤ 3) (he : e ≤ 3) (hl : l + w ≤ 8) (ht : t + e ≤ 8) : ∀ m i : Nat, i + m = hn A → (wp (d + 2) pr_105 Q 74 [some (.ref (B + 1)), some (.int (nI l)), some (.int (nI t)), some (.int (nI w)), some (.int (nI e)), some (.int (nI r)), x6, some (.int (nI i))] [] σ ↔ Q (some (.int (if anyB (ovB A l t w e) m i = true then -nI 3 else if hn A < 12 then nI 0 else -nI 5))) σ) := by
  have h12 := hn_le wh
  intro m
  induction m with
  | zero =>
    intro i hi
    have z : hn A ≤ i := by omega
    simp (disch := omega) only [e_105_74, e_105_76, e_105_77, e_105_80, e_105_83, e_105_84, e_105_85, e_105_86, e_105_87, e_105_89, e_105_91, e_105_94, e_105_95, e_105_98, e_105_100, e_105_101, e_105_104, e_105_107, e_105_108, e_105_111, e_105_113, e_105_116, e_105_117, e_105_120, e_105_122, n10, n01, Nat.lt_irrefl, Nat.not_lt_zero, ne_eq, Nat.add_zero, Nat.one_ne_zero, Nat.zero_ne_one, Nat.reduceEqDiff, bI_T, bI_F, bI_0, bI_1, bI_01, not_and_self, true_and, and_true, not_true_eq_false, not_false_eq_true, false_imp_iff, true_imp_iff, imp_self, gPv_n, gPv_i, gPv_r, gPv_0, Option.toList_some, Option.toList_none, List.singleton_append, List.cons_append, List.nil_append, List.length_nil, List.length_cons, Nat.zero_le, Nat.reduceAdd, Nat.reduceLeDiff, or_true, true_or, false_or, or_false, and_self, and_false, false_and, implies_true, Option.some.injEq, exists_eq_left', nL, nI_add, nI_mul, nI_clamp, nI_ltI, nI_leI, nI_eq, nI_pos, nI_pos', Nat.reduceAdd, Nat.reduceMul, Nat.reducePow, sk_1 hv, sr_1_0 hv, sr_1_1 hv, sr_1_2 hv, sr_1_3 hv, sr_1_4 hv, sr_1_7 hv, sr_1_9 hv, sr_1_14 hv, sr_1_15 hv, sr_1_16 hv, g.1, hn_eq wh, z, anyB, Bool.false_eq_true, if_false]
    by_cases c : hn A < 12
    · simp only [c, Nat.not_le.mpr c, n10, n01, Nat.lt_irrefl, Nat.not_lt_zero, ne_eq, Nat.add_zero, Nat.one_ne_zero, Nat.zero_ne_one, Nat.reduceEqDiff, bI_T, bI_F, bI_0, bI_1, bI_01, not_and_self, true_and, and_true, not_true_eq_false, not_false_eq_true, false_imp_iff, true_imp_iff, imp_self, gPv_n, gPv_i, gPv_r, gPv_0, Option.toList_some, Option.toList_none, List.singleton_append, List.cons_append, List.nil_append, List.length_nil, List.length_cons, Nat.zero_le, Nat.reduceAdd, Nat.reduceLeDiff, or_true, true_or, false_or, or_false, and_self, and_false, false_and, implies_true, Option.some.injEq, exists_eq_left', if_true]
    · simp only [c, Nat.not_lt.mp c, n10, n01, Nat.lt_irrefl, Nat.not_lt_zero, ne_eq, Nat.add_zero, Nat.one_ne_zero, Nat.zero_ne_one, Nat.reduceEqDiff, bI_T, bI_F, bI_0, bI_1, bI_01, not_and_self, true_and, and_true, not_true_eq_false, not_false_eq_true, false_imp_iff, true_imp_iff, imp_self, gPv_n, gPv_i, gPv_r, gPv_0, Option.toList_some, Option.toList_none, List.singleton_append, List.cons_append, List.nil_append, List.length_nil, List.length_cons, Nat.zero_le, Nat.reduceAdd, Nat.reduceLeDiff, or_true, true_or, false_or, or_false, and_self, and_false, false_and, implies_true, Option.some.injEq, exists_eq_left', if_false]
  | succ m ih =>
    intro i hi
    have z : ¬ hn A ≤ i := by omega
    have z3 : mtA A l t w e i < 2147483648 := Nat.lt_of_le_of_lt mt_le (by omega)
    rw [e_105_74]
    simp (disch := omega) only [e_105_76, e_105_77, e_105_80, e_105_83, e_105_84, e_105_85, e_105_86, e_105_87, e_105_89, e_105_91, e_105_94, e_105_95, e_105_98, e_105_100, e_105_101, e_105_104, n10, n01, Nat.lt_irrefl, Nat.not_lt_zero, ne_eq, Nat.add_zero, Nat.one_ne_zero, Nat.zero_ne_one, Nat.reduceEqDiff, bI_T, bI_F, bI_0, bI_1, bI_01, not_and_self, true_and, and_true, not_true_eq_false, not_false_eq_true, false_imp_iff, true_imp_iff, imp_self, gPv_n, gPv_i, gPv_r, gPv_0, Option.toList_some, Option.toList_none, List.singleton_append, List.cons_append, List.nil_append, List.length_nil, List.length_cons, Nat.zero_le, Nat.reduceAdd, Nat.reduceLeDiff, or_true, true_or, false_or, or_false, and_self, and_false, false_and, implies_true, Option.some.injEq, exists_eq_left', nL, nI_add, nI_mul, nI_clamp, nI_ltI, nI_leI, nI_eq, nI_pos, nI_pos', Nat.reduceAdd, Nat.reduceMul, Nat.reducePow, sk_1 hv, sr_1_0 hv, sr_1_1 hv, sr_1_2 hv, sr_1_3 hv, sr_1_4 hv, sr_1_7 hv, sr_1_9 hv, sr_1_14 hv, sr_1_15 hv, sr_1_16 hv, g.1, hn_eq wh, z, h6, s_meeting hv wh g (show i < hn A by omega)]
    by_cases c : mtA A l t w e i = 3
    · simp only [anyB, ovB, c, n10, n01, Nat.lt_irrefl, Nat.not_lt_zero, ne_eq, Nat.add_zero, Nat.one_ne_zero, Nat.zero_ne_one, Nat.reduceEqDiff, bI_T, bI_F, bI_0, bI_1, bI_01, not_and_self, true_and, and_true, not_true_eq_false, not_false_eq_true, false_imp_iff, true_imp_iff, imp_self, gPv_n, gPv_i, gPv_r, gPv_0, Option.toList_some, Option.toList_none, List.singleton_append, List.cons_append, List.nil_append, List.length_nil, List.length_cons, Nat.zero_le, Nat.reduceAdd, Nat.reduceLeDiff, or_true, true_or, false_or, or_false, and_self, and_false, false_and, implies_true, Option.some.injEq, exists_eq_left', decide_true, Bool.true_or, if_true]
    · simp only [anyB, ovB, c, n10, n01, Nat.lt_irrefl, Nat.not_lt_zero, ne_eq, Nat.add_zero, Nat.one_ne_zero, Nat.zero_ne_one, Nat.reduceEqDiff, bI_T, bI_F, bI_0, bI_1, bI_01, not_and_self, true_and, and_true, not_true_eq_false, not_false_eq_true, false_imp_iff, true_imp_iff, imp_self, gPv_n, gPv_i, gPv_r, gPv_0, Option.toList_some, Option.toList_none, List.singleton_append, List.cons_append, List.nil_append, List.length_nil, List.length_cons, Nat.zero_le, Nat.reduceAdd, Nat.reduceLeDiff, or_true, true_or, false_or, or_false, and_self, and_false, false_and, implies_true, Option.some.injEq, exists_eq_left', decide_false, Bool.false_or]
      exact ih (i + 1) (by omega)
theorem s_why {d : Nat} {Q : Option Value → gS → Prop} {B l t w e r : Nat} {σ : gS} {A : Nat → Int32} (hv : IvS B σ) (wh : Wh A) (g : Th (B + 1) σ A) (hw1 : 1 ≤ w) (hw : w ≤ 3) (he1 : 1 ≤ e) (he : e ≤ 3) (hl : l + w ≤ 8) (ht : t + e ≤ 8) (hr : r ≤ 9) : wc (d + 3) 105 [.ref (B + 1), .int (nI l), .int (nI t), .int (nI w), .int (nI e), .int (nI r)] σ Q ↔ Q (some (.int (if anyB (ovB A l t w e) (hn A) 0 = true then -nI 3 else if hn A < 12 then nI 0 else -nI 5))) σ := by
  have z1 : nI 8 - nI w = nI (8 - w) := nI_sub (by omega)
  have z2 : nI 8 - nI e = nI (8 - e) := nI_sub (by omega)
  have z3 : l ≤ 8 - w := by omega
  have z4 : t ≤ 8 - e := by omega
  simp (disch := omega) only [c_105, e_105_0, e_105_1, e_105_2, e_105_3, e_105_6, e_105_9, e_105_11, e_105_12, e_105_13, e_105_16, e_105_19, e_105_20, e_105_23, e_105_24, e_105_26, e_105_28, e_105_31, e_105_33, e_105_34, e_105_36, e_105_39, e_105_42, e_105_43, e_105_44, e_105_45, e_105_46, e_105_48, e_105_49, e_105_50, e_105_53, e_105_56, e_105_57, e_105_58, e_105_60, e_105_62, e_105_63, e_105_66, e_105_69, e_105_70, e_105_71, e_105_72, n10, n01, Nat.lt_irrefl, Nat.not_lt_zero, ne_eq, Nat.add_zero, Nat.one_ne_zero, Nat.zero_ne_one, Nat.reduceEqDiff, bI_T, bI_F, bI_0, bI_1, bI_01, not_and_self, true_and, and_true, not_true_eq_false, not_false_eq_true, false_imp_iff, true_imp_iff, imp_self, gPv_n, gPv_i, gPv_r, gPv_0, Option.toList_some, Option.toList_none, List.singleton_append, List.cons_append, List.nil_append, List.length_nil, List.length_cons, Nat.zero_le, Nat.reduceAdd, Nat.reduceLeDiff, or_true, true_or, false_or, or_false, and_self, and_false, false_and, implies_true, Option.some.injEq, exists_eq_left', nL, nI_add, nI_mul, nI_clamp, nI_ltI, nI_leI, nI_eq, nI_pos, nI_pos', Nat.reduceAdd, Nat.reduceMul, Nat.reducePow, s_within, z1, z2, z3, z4, hw1, hw, he1, he, hr]
  exact s_whyL (gPv_i _) hv wh g hw he hl ht _ 0 (by omega)
/-- the row with a house more -/
def addH (A : Nat → Int32) (l t w e r : Nat) : Nat → Int32 := up (up (up (up (up (up (up A (6 * hn A) (nI l)) (6 * hn A + 1) (nI t)) (6 * hn A + 2) (nI w)) (6 * hn A + 3) (nI e)) (6 * hn A + 4) (nI r)) (6 * hn A + 5) (nI 1)) 250 (nI (hn A + 1))
/-- the class's store with a house more -/
def bld (σ : gS) (B n l t w e r s : Nat) : gS := sI (sI (sI (sI (sI (sI (sI (sI (sI σ (B + 2) n (nI l)) (B + 3) n (nI t)) (B + 4) n (nI w)) (B + 5) n (nI e)) (B + 6) n (nI r)) (B + 7) n (nI 0)) (B + 1) 6 (nI s)) (B + 1) 5 (nI (n + 1))) (B + 1) 17 (gI σ (B + 1) 17 + nI 1)
theorem s_build {d : Nat} {Q : Option Value → gS → Prop} {B l t w e r : Nat} {σ : gS} {A : Nat → Int32} (hv : IvS B σ) (wh : Wh A) (g : Th (B + 1) σ A) (hn12 : hn A < 12) : wc (d + 1) 106 [.ref (B + 1), .int (nI l), .int (nI t), .int (nI w), .int (nI e), .int (nI r)] σ Q ↔ Q (some (.int (nI (hn A)))) (bld σ B (hn A) l t w e r (mkN (St A) (hn A) ||| 2 ^ hn A)) := by
  have z : ¬ 12 ≤ hn A := by omega
  simp (disch := omega) only [c_106, e_106_0, e_106_1, e_106_4, e_106_6, e_106_8, e_106_10, e_106_13, e_106_14, e_106_15, e_106_16, e_106_19, e_106_21, e_106_22, e_106_23, e_106_24, e_106_27, e_106_29, e_106_30, e_106_31, e_106_32, e_106_35, e_106_37, e_106_38, e_106_39, e_106_40, e_106_43, e_106_45, e_106_47, e_106_48, e_106_49, e_106_52, e_106_54, e_106_56, e_106_57, e_106_58, e_106_61, e_106_63, e_106_64, e_106_65, e_106_66, e_106_66n, e_106_67, e_106_70, e_106_71, e_106_73, e_106_74, e_106_75, e_106_78, e_106_79, e_106_79n, e_106_80, e_106_83, e_106_84, e_106_85, e_106_88, e_106_89, e_106_89n, e_106_90, e_106_93, e_106_94, e_106_95, e_106_98, e_106_100, n10, n01, Nat.lt_irrefl, Nat.not_lt_zero, ne_eq, Nat.add_zero, Nat.one_ne_zero, Nat.zero_ne_one, Nat.reduceEqDiff, bI_T, bI_F, bI_0, bI_1, bI_01, not_and_self, true_and, and_true, not_true_eq_false, not_false_eq_true, false_imp_iff, true_imp_iff, imp_self, gPv_n, gPv_i, gPv_r, gPv_0, Option.toList_some, Option.toList_none, List.singleton_append, List.cons_append, List.nil_append, List.length_nil, List.length_cons, Nat.zero_le, Nat.reduceAdd, Nat.reduceLeDiff, or_true, true_or, false_or, or_false, and_self, and_false, false_and, implies_true, Option.some.injEq, exists_eq_left', n_K_I, n_K_J, n_K_R, n_K_r, n_N_I, n_N_J, n_N_R, n_N_r, n_R_I, n_R_J, n_R_r, n_J_I, n_J_R, n_J_r, n_I_J, n_I_R, n_n_I, n_n_J, n_n_R, n_n_r, n_w_I, n_w_J, n_w_R, n_w_r, n_T_I, n_T_J, n_T_R, n_T_r, rI_ne, rI_nk, rI_eq, rr_ne, rr_eq, n_J_J, n_R_R, Nat.add_left_cancel_iff, Nat.add_right_cancel_iff, Nat.add_eq_left, Nat.left_eq_add, Nat.reduceEqDiff, Nat.reduceAdd, Nat.zero_ne_one, Nat.one_ne_zero, false_and, and_false, true_and, and_true, and_self, if_false, if_true, ↓reduceIte, nL, nI_add, nI_mul, nI_clamp, nI_ltI, nI_leI, nI_eq, nI_pos, nI_pos', Nat.reduceAdd, Nat.reduceMul, Nat.reducePow, sk_1 hv, sr_1_0 hv, sr_1_1 hv, sr_1_2 hv, sr_1_3 hv, sr_1_4 hv, sr_1_7 hv, sr_1_9 hv, sr_1_14 hv, sr_1_15 hv, sr_1_16 hv, sk_2 hv, sn_2 hv, sk_3 hv, sn_3 hv, sk_4 hv, sn_4 hv, sk_5 hv, sn_5 hv, sk_6 hv, sn_6 hv, sk_7 hv, sn_7 hv, g.1, g.2.1, hn_eq wh, z, hn12, nI_shl, nI_or, Nat.one_mul]
  rfl
theorem sI_r1 {σ : gS} {a k : Nat} {v : Int32} : sI σ a k v = sIr σ a (up (gI σ a) k v) := by
  have : gU (gI σ) a k v = gUr (gI σ) a (up (gI σ a) k v) := by
    funext b j
    simp only [gU, gUr, up]
    by_cases h : b = a
    · subst h
      by_cases h2 : j = k
      · simp [h2]
      · simp [h2]
    · simp [h]
  simp only [sI, sIr, this]
theorem sI_r2 {σ : gS} {a k : Nat} {v : Int32} {f : Nat → Int32} : sI (sIr σ a f) a k v = sIr σ a (up f k v) := by
  have : gU (gUr (gI σ) a f) a k v = gUr (gI σ) a (up f k v) := by
    funext b j
    simp only [gU, gUr, up]
    by_cases h : b = a
    · subst h
      by_cases h2 : j = k
      · simp [h2]
      · simp [h2]
    · simp [h]
  show (gK σ, gN σ, gU (gUr (gI σ) a f) a k v, gJ σ, gR σ, gn σ, gw σ, gT σ) = _
  rw [this]
  rfl
theorem t_adds0 {d : Nat} {Q : Option Value → gS → Prop} {B l t w e r : Nat} {σ : gS} {A : Nat → Int32} (hv : IvS B σ) (hA : gI σ (B + 56) = A) (wh : Wh A) (hn12 : hn A < 12) : wc (d + 2) 180 [.ref (B + 54), .int (nI l), .int (nI t), .int (nI w), .int (nI e), .int (nI r)] σ Q ↔ Q (some (.int (nI (hn A)))) (sI (sI (sI (sI (sI (sI (sI σ (B + 56) (6 * hn A) (nI l)) (B + 56) (6 * hn A + 1) (nI t)) (B + 56) (6 * hn A + 2) (nI w)) (B + 56) (6 * hn A + 3) (nI e)) (B + 56) (6 * hn A + 4) (nI r)) (B + 56) (6 * hn A + 5) (nI 1)) (B + 56) 250 (nI (hn A + 1))) := by
  have z0 : 6 * hn A < 5062 := by omega
  have z1 : 6 * hn A + 1 < 5062 := by omega
  have z2 : 6 * hn A + 2 < 5062 := by omega
  have z3 : 6 * hn A + 3 < 5062 := by omega
  have z4 : 6 * hn A + 4 < 5062 := by omega
  have z5 : 6 * hn A + 5 < 5062 := by omega
  simp (disch := first | omega | (simp only [IvS_I]; assumption)) only [c_180, e_180_0, e_180_1, e_180_4, e_180_6, e_180_8, e_180_10, e_180_11, e_180_13, e_180_14, e_180_17, e_180_19, e_180_20, e_180_21, e_180_22, e_180_25, e_180_27, e_180_28, e_180_29, e_180_30, e_180_31, e_180_32, e_180_35, e_180_37, e_180_38, e_180_39, e_180_40, e_180_41, e_180_42, e_180_45, e_180_47, e_180_48, e_180_49, e_180_51, e_180_52, e_180_53, e_180_56, e_180_58, e_180_59, e_180_60, e_180_62, e_180_63, e_180_64, e_180_67, e_180_69, e_180_70, e_180_71, e_180_72, e_180_73, e_180_74, e_180_77, e_180_80, e_180_81, e_180_82, e_180_83, e_180_84, e_180_85, e_180_87, n10, n01, Nat.lt_irrefl, Nat.not_lt_zero, ne_eq, Nat.add_zero, Nat.one_ne_zero, Nat.zero_ne_one, Nat.reduceEqDiff, bI_T, bI_F, bI_0, bI_1, bI_01, not_and_self, true_and, and_true, not_true_eq_false, not_false_eq_true, false_imp_iff, true_imp_iff, imp_self, gPv_n, gPv_i, gPv_r, gPv_0, Option.toList_some, Option.toList_none, List.singleton_append, List.cons_append, List.nil_append, List.length_nil, List.length_cons, Nat.zero_le, Nat.reduceAdd, Nat.reduceLeDiff, or_true, true_or, false_or, or_false, and_self, and_false, false_and, implies_true, Option.some.injEq, exists_eq_left', n_K_I, n_K_J, n_K_R, n_K_r, n_N_I, n_N_J, n_N_R, n_N_r, n_R_I, n_R_J, n_R_r, n_J_I, n_J_R, n_J_r, n_I_J, n_I_R, n_n_I, n_n_J, n_n_R, n_n_r, n_w_I, n_w_J, n_w_R, n_w_r, n_T_I, n_T_J, n_T_R, n_T_r, rI_ne, rI_nk, rI_eq, rr_ne, rr_eq, n_J_J, n_R_R, Nat.add_left_cancel_iff, Nat.add_right_cancel_iff, Nat.add_eq_left, Nat.left_eq_add, Nat.reduceEqDiff, Nat.reduceAdd, Nat.zero_ne_one, Nat.one_ne_zero, false_and, and_false, true_and, and_true, and_self, if_false, if_true, ↓reduceIte, nL, nI_add, nI_mul, nI_clamp, nI_ltI, nI_leI, nI_eq, nI_pos, nI_pos', Nat.reduceAdd, Nat.reduceMul, Nat.reducePow, sk_54 hv, sr_54_2 hv, sr_54_3 hv, sr_54_4 hv, sr_54_5 hv, sr_54_7 hv, sr_54_8 hv, sr_54_9 hv, sr_54_12 hv, sr_54_13 hv, sr_54_14 hv, sr_54_22 hv, sr_54_25 hv, sr_54_26 hv, sr_54_27 hv, sr_54_34 hv, sr_54_35 hv, sr_54_36 hv, sr_54_37 hv, sr_54_38 hv, sr_54_40 hv, sr_54_43 hv, sr_54_44 hv, sr_54_45 hv, sr_54_46 hv, sr_54_47 hv, sk_56 hv, sn_56 hv, t_houses, hA, hn_eq wh, z0, z1, z2, z3, z4, z5, Nat.reduceLT]
theorem t_adds {d : Nat} {Q : Option Value → gS → Prop} {B l t w e r : Nat} {σ : gS} {A : Nat → Int32} (hv : IvS B σ) (hA : gI σ (B + 56) = A) (wh : Wh A) (hn12 : hn A < 12) : wc (d + 2) 180 [.ref (B + 54), .int (nI l), .int (nI t), .int (nI w), .int (nI e), .int (nI r)] σ Q ↔ Q (some (.int (nI (hn A)))) (sIr σ (B + 56) (addH A l t w e r)) := by
  rw [t_adds0 hv hA wh hn12, sI_r1 (σ := σ), sI_r2, sI_r2, sI_r2, sI_r2, sI_r2, sI_r2, hA]
  rfl
/-- a house lies on the k-th square of those from x, y, w wide -/
def hB (A : Nat → Int32) (x y w k : Nat) : Bool := anyB (lyB A (nI (x + k % w)) (nI (y + k / w))) (hn A) 0
theorem nI_rem {k w : Nat} : nI k - nI (k / w * w) = nI (k % w) := by
  rw [nI_sub (Nat.div_mul_le_self k w)]
  congr 1
  have := Nat.div_add_mod k w
  rw [Nat.mul_comm] at this
  omega
theorem t_isF {d : Nat} {Q : Option Value → gS → Prop} {B x y w e : Nat} {σ : gS} (hv : IvS B σ) (wh : Wh (gI σ (B + 56))) (hx : x < 1000) (hy : y < 1000) (hw1 : 1 ≤ w) (hw : w ≤ 3) (he : e ≤ 3) : ∀ m k : Nat, k + m = w * e → (wp (d + 3) pr_179 Q 3 [some (.ref (B + 54)), some (.int (nI x)), some (.int (nI y)), some (.int (nI w)), some (.int (nI e)), some (.int (nI k))] [] σ ↔ Q (some (.int (bI (anyB (hB (gI σ (B + 56)) x y w) m k = false)))) σ) := by
  have h12 := hn_le wh
  have hwe : w * e ≤ 9 := Nat.mul_le_mul hw he
  intro m
  induction m with
  | zero =>
    intro k hk
    have z : w * e ≤ k := by omega
    simp (disch := omega) only [e_179_3, e_179_5, e_179_6, e_179_8, e_179_9, e_179_12, e_179_13, e_179_14, e_179_16, e_179_17, e_179_18, e_179_19, e_179_20, e_179_22, e_179_23, e_179_24, e_179_25, e_179_28, e_179_29, e_179_32, e_179_33, e_179_34, e_179_37, e_179_40, e_179_41, n10, n01, Nat.lt_irrefl, Nat.not_lt_zero, ne_eq, Nat.add_zero, Nat.one_ne_zero, Nat.zero_ne_one, Nat.reduceEqDiff, bI_T, bI_F, bI_0, bI_1, bI_01, not_and_self, true_and, and_true, not_true_eq_false, not_false_eq_true, false_imp_iff, true_imp_iff, imp_self, gPv_n, gPv_i, gPv_r, gPv_0, Option.toList_some, Option.toList_none, List.singleton_append, List.cons_append, List.nil_append, List.length_nil, List.length_cons, Nat.zero_le, Nat.reduceAdd, Nat.reduceLeDiff, or_true, true_or, false_or, or_false, and_self, and_false, false_and, implies_true, Option.some.injEq, exists_eq_left', nL, nI_add, nI_mul, nI_clamp, nI_ltI, nI_leI, nI_eq, nI_pos, nI_pos', Nat.reduceAdd, Nat.reduceMul, Nat.reducePow, z, anyB]
  | succ m ih =>
    intro k hk
    have z : ¬ w * e ≤ k := by omega
    have z2 : ¬ w = 0 := by omega
    rw [e_179_3]
    simp (disch := omega) only [e_179_5, e_179_6, e_179_8, e_179_9, e_179_12, e_179_13, e_179_14, e_179_16, e_179_17, e_179_18, e_179_19, e_179_20, e_179_22, e_179_23, e_179_24, e_179_25, e_179_28, e_179_29, e_179_32, e_179_33, e_179_34, e_179_37, e_179_40, e_179_41, n10, n01, Nat.lt_irrefl, Nat.not_lt_zero, ne_eq, Nat.add_zero, Nat.one_ne_zero, Nat.zero_ne_one, Nat.reduceEqDiff, bI_T, bI_F, bI_0, bI_1, bI_01, not_and_self, true_and, and_true, not_true_eq_false, not_false_eq_true, false_imp_iff, true_imp_iff, imp_self, gPv_n, gPv_i, gPv_r, gPv_0, Option.toList_some, Option.toList_none, List.singleton_append, List.cons_append, List.nil_append, List.length_nil, List.length_cons, Nat.zero_le, Nat.reduceAdd, Nat.reduceLeDiff, or_true, true_or, false_or, or_false, and_self, and_false, false_and, implies_true, Option.some.injEq, exists_eq_left', nL, nI_add, nI_mul, nI_clamp, nI_ltI, nI_leI, nI_eq, nI_pos, nI_pos', Nat.reduceAdd, Nat.reduceMul, Nat.reducePow, z, z2, nI_rem, nI_div, sk_54 hv, sr_54_2 hv, sr_54_3 hv, sr_54_4 hv, sr_54_5 hv, sr_54_7 hv, sr_54_8 hv, sr_54_9 hv, sr_54_12 hv, sr_54_13 hv, sr_54_14 hv, sr_54_22 hv, sr_54_25 hv, sr_54_26 hv, sr_54_27 hv, sr_54_34 hv, sr_54_35 hv, sr_54_36 hv, sr_54_37 hv, sr_54_38 hv, sr_54_40 hv, sr_54_43 hv, sr_54_44 hv, sr_54_45 hv, sr_54_46 hv, sr_54_47 hv, t_houseAt hv wh, ff_m1]
    by_cases c : hB (gI σ (B + 56)) x y w k = true
    · have c' : anyB (lyB (gI σ (B + 56)) (nI (x + k % w)) (nI (y + k / w))) (hn (gI σ (B + 56))) 0 = true := c
      simp only [c', anyB, c, n10, n01, Nat.lt_irrefl, Nat.not_lt_zero, ne_eq, Nat.add_zero, Nat.one_ne_zero, Nat.zero_ne_one, Nat.reduceEqDiff, bI_T, bI_F, bI_0, bI_1, bI_01, not_and_self, true_and, and_true, not_true_eq_false, not_false_eq_true, false_imp_iff, true_imp_iff, imp_self, gPv_n, gPv_i, gPv_r, gPv_0, Option.toList_some, Option.toList_none, List.singleton_append, List.cons_append, List.nil_append, List.length_nil, List.length_cons, Nat.zero_le, Nat.reduceAdd, Nat.reduceLeDiff, or_true, true_or, false_or, or_false, and_self, and_false, false_and, implies_true, Option.some.injEq, exists_eq_left', Bool.true_or, Bool.true_eq_false]
    · have c : hB (gI σ (B + 56)) x y w k = false := by simpa using c
      have c' : anyB (lyB (gI σ (B + 56)) (nI (x + k % w)) (nI (y + k / w))) (hn (gI σ (B + 56))) 0 = false := c
      simp only [c', anyB, c, n10, n01, Nat.lt_irrefl, Nat.not_lt_zero, ne_eq, Nat.add_zero, Nat.one_ne_zero, Nat.zero_ne_one, Nat.reduceEqDiff, bI_T, bI_F, bI_0, bI_1, bI_01, not_and_self, true_and, and_true, not_true_eq_false, not_false_eq_true, false_imp_iff, true_imp_iff, imp_self, gPv_n, gPv_i, gPv_r, gPv_0, Option.toList_some, Option.toList_none, List.singleton_append, List.cons_append, List.nil_append, List.length_nil, List.length_cons, Nat.zero_le, Nat.reduceAdd, Nat.reduceLeDiff, or_true, true_or, false_or, or_false, and_self, and_false, false_and, implies_true, Option.some.injEq, exists_eq_left', Bool.false_or]
      exact ih (k + 1) (by omega)
theorem hB_ov {A : Nat → Int32} {x y w e : Nat} (wh : Wh A) (hx : x + w ≤ 8) (hy : y + e ≤ 8) (hw1 : 1 ≤ w) (he1 : 1 ≤ e) : anyB (hB A x y w) (w * e) 0 = anyB (ovB A x y w e) (hn A) 0 := by
  have h12 := hn_le wh
  rw [Bool.eq_iff_iff, anyB_iff, anyB_iff]
  constructor
  · rintro ⟨k, _, hk, h1⟩
    obtain ⟨h, _, hh, h2⟩ := anyB_iff.mp h1
    have hh' : h < hn A := by omega
    obtain ⟨_, c⟩ := Wh_n wh hh'
    have k1 : k % w < w := Nat.mod_lt _ (by omega)
    have k2 : k / w < e := by
      rw [Nat.div_lt_iff_lt_mul (by omega), Nat.mul_comm]
      omega
    refine ⟨h, by omega, hh, ?_⟩
    simp only [ovB, decide_eq_true_eq]
    rw [mtA, mt3_iff hw1 he1 (by omega) (by omega)]
    simp only [lyB, lyS, decide_eq_true_eq] at h2
    generalize k % w = a at k1 h2
    generalize k / w = b at k2 h2
    simp (disch := omega) only [nI_leI, nI_ltI] at h2
    simp only [ovl]
    omega
  · rintro ⟨h, _, hh, h1⟩
    have hh' : h < hn A := by omega
    obtain ⟨_, c⟩ := Wh_n wh hh'
    simp only [ovB, decide_eq_true_eq] at h1
    rw [mtA, mt3_iff hw1 he1 (by omega) (by omega)] at h1
    simp only [ovl] at h1
    generalize hX : an A (6 * h) = X at *
    generalize hY : an A (6 * h + 1) = Y at *
    generalize hW : an A (6 * h + 2) = W at *
    generalize hD : an A (6 * h + 3) = D at *
    have m1 : max x X - x < w := by omega
    have m2 : max y Y - y < e := by omega
    have e1 : ((max y Y - y) * w + (max x X - x)) % w = max x X - x := by
      rw [Nat.add_comm, Nat.add_mul_mod_self_right, Nat.mod_eq_of_lt m1]
    have e2 : ((max y Y - y) * w + (max x X - x)) / w = max y Y - y := by
      rw [Nat.add_comm, Nat.add_mul_div_right _ _ (by omega), Nat.div_eq_of_lt m1, Nat.zero_add]
    have e3 : (max y Y - y) * w + (max x X - x) < w * e := by
      have : (max y Y - y + 1) * w ≤ e * w := Nat.mul_le_mul_right w (by omega)
      rw [Nat.add_mul, Nat.one_mul] at this
      rw [Nat.mul_comm w e]
      omega
    refine ⟨(max y Y - y) * w + (max x X - x), by omega, by omega, ?_⟩
    refine anyB_iff.mpr ⟨h, by omega, hh, ?_⟩
    simp only [lyB, lyS, decide_eq_true_eq, e1, e2, hX, hY, hW, hD]
    simp (disch := omega) only [nI_leI, nI_ltI]
    omega
theorem t_isFree {d : Nat} {Q : Option Value → gS → Prop} {B x y w e : Nat} {σ : gS} (hv : IvS B σ) (wh : Wh (gI σ (B + 56))) (hx : x + w ≤ 8) (hy : y + e ≤ 8) (hw1 : 1 ≤ w) (hw : w ≤ 3) (he1 : 1 ≤ e) (he : e ≤ 3) : wc (d + 4) 179 [.ref (B + 54), .int (nI x), .int (nI y), .int (nI w), .int (nI e)] σ Q ↔ Q (some (.int (bI (anyB (ovB (gI σ (B + 56)) x y w e) (hn (gI σ (B + 56))) 0 = false)))) σ := by
  simp only [c_179, e_179_0, e_179_1, n10, n01, Nat.lt_irrefl, Nat.not_lt_zero, ne_eq, Nat.add_zero, Nat.one_ne_zero, Nat.zero_ne_one, Nat.reduceEqDiff, bI_T, bI_F, bI_0, bI_1, bI_01, not_and_self, true_and, and_true, not_true_eq_false, not_false_eq_true, false_imp_iff, true_imp_iff, imp_self, gPv_n, gPv_i, gPv_r, gPv_0, Option.toList_some, Option.toList_none, List.singleton_append, List.cons_append, List.nil_append, List.length_nil, List.length_cons, Nat.zero_le, Nat.reduceAdd, Nat.reduceLeDiff, or_true, true_or, false_or, or_false, and_self, and_false, false_and, implies_true, Option.some.injEq, exists_eq_left', nL]
  rw [← hB_ov wh hx hy hw1 he1]
  exact t_isF hv wh (by omega) (by omega) hw1 hw he _ 0 (by omega)
theorem t_canBe {d : Nat} {Q : Option Value → gS → Prop} {p0 p1 p2 p3 : Int32} {σ : gS} : wc (d + 2) 178 [.int p0, .int p1, .int p2, .int p3] σ Q ↔ Q (some (.int (bI (((nI 1 ≤ p2 ∧ p2 ≤ nI 3) ∧ (nI 1 ≤ p3 ∧ p3 ≤ nI 3)) ∧ (nI 0 ≤ p0 ∧ p0 ≤ nI 8 - p2) ∧ (nI 0 ≤ p1 ∧ p1 ≤ nI 8 - p3))))) σ := by
  by_cases c1 : nI 1 ≤ p2 ∧ p2 ≤ nI 3
  · by_cases c2 : nI 1 ≤ p3 ∧ p3 ≤ nI 3
    · by_cases c4 : nI 0 ≤ p0 ∧ p0 ≤ nI 8 - p2
      · by_cases c5 : nI 0 ≤ p1 ∧ p1 ≤ nI 8 - p3
        · simp only [c_178, e_178_0, e_178_1, e_178_2, e_178_3, e_178_6, e_178_9, e_178_10, e_178_11, e_178_12, e_178_15, e_178_18, e_178_19, e_178_20, e_178_22, e_178_23, e_178_24, e_178_27, e_178_30, e_178_31, e_178_32, e_178_34, e_178_35, e_178_36, e_178_39, e_178_42, e_178_43, e_178_46, e_178_47, n10, n01, Nat.lt_irrefl, Nat.not_lt_zero, ne_eq, Nat.add_zero, Nat.one_ne_zero, Nat.zero_ne_one, Nat.reduceEqDiff, bI_T, bI_F, bI_0, bI_1, bI_01, not_and_self, true_and, and_true, not_true_eq_false, not_false_eq_true, false_imp_iff, true_imp_iff, imp_self, gPv_n, gPv_i, gPv_r, gPv_0, Option.toList_some, Option.toList_none, List.singleton_append, List.cons_append, List.nil_append, List.length_nil, List.length_cons, Nat.zero_le, Nat.reduceAdd, Nat.reduceLeDiff, or_true, true_or, false_or, or_false, and_self, and_false, false_and, implies_true, Option.some.injEq, exists_eq_left', nL, t_lies, c1, c2, c4, c5]
        · simp only [c_178, e_178_0, e_178_1, e_178_2, e_178_3, e_178_6, e_178_9, e_178_10, e_178_11, e_178_12, e_178_15, e_178_18, e_178_19, e_178_20, e_178_22, e_178_23, e_178_24, e_178_27, e_178_30, e_178_31, e_178_32, e_178_34, e_178_35, e_178_36, e_178_39, e_178_42, e_178_43, e_178_46, e_178_47, n10, n01, Nat.lt_irrefl, Nat.not_lt_zero, ne_eq, Nat.add_zero, Nat.one_ne_zero, Nat.zero_ne_one, Nat.reduceEqDiff, bI_T, bI_F, bI_0, bI_1, bI_01, not_and_self, true_and, and_true, not_true_eq_false, not_false_eq_true, false_imp_iff, true_imp_iff, imp_self, gPv_n, gPv_i, gPv_r, gPv_0, Option.toList_some, Option.toList_none, List.singleton_append, List.cons_append, List.nil_append, List.length_nil, List.length_cons, Nat.zero_le, Nat.reduceAdd, Nat.reduceLeDiff, or_true, true_or, false_or, or_false, and_self, and_false, false_and, implies_true, Option.some.injEq, exists_eq_left', nL, t_lies, c1, c2, c4, c5]
      · simp only [c_178, e_178_0, e_178_1, e_178_2, e_178_3, e_178_6, e_178_9, e_178_10, e_178_11, e_178_12, e_178_15, e_178_18, e_178_19, e_178_20, e_178_22, e_178_23, e_178_24, e_178_27, e_178_30, e_178_31, e_178_32, e_178_34, e_178_35, e_178_36, e_178_39, e_178_42, e_178_43, e_178_46, e_178_47, n10, n01, Nat.lt_irrefl, Nat.not_lt_zero, ne_eq, Nat.add_zero, Nat.one_ne_zero, Nat.zero_ne_one, Nat.reduceEqDiff, bI_T, bI_F, bI_0, bI_1, bI_01, not_and_self, true_and, and_true, not_true_eq_false, not_false_eq_true, false_imp_iff, true_imp_iff, imp_self, gPv_n, gPv_i, gPv_r, gPv_0, Option.toList_some, Option.toList_none, List.singleton_append, List.cons_append, List.nil_append, List.length_nil, List.length_cons, Nat.zero_le, Nat.reduceAdd, Nat.reduceLeDiff, or_true, true_or, false_or, or_false, and_self, and_false, false_and, implies_true, Option.some.injEq, exists_eq_left', nL, t_lies, c1, c2, c4]
    · simp only [c_178, e_178_0, e_178_1, e_178_2, e_178_3, e_178_6, e_178_9, e_178_10, e_178_11, e_178_12, e_178_15, e_178_18, e_178_19, e_178_20, e_178_22, e_178_23, e_178_24, e_178_27, e_178_30, e_178_31, e_178_32, e_178_34, e_178_35, e_178_36, e_178_39, e_178_42, e_178_43, e_178_46, e_178_47, n10, n01, Nat.lt_irrefl, Nat.not_lt_zero, ne_eq, Nat.add_zero, Nat.one_ne_zero, Nat.zero_ne_one, Nat.reduceEqDiff, bI_T, bI_F, bI_0, bI_1, bI_01, not_and_self, true_and, and_true, not_true_eq_false, not_false_eq_true, false_imp_iff, true_imp_iff, imp_self, gPv_n, gPv_i, gPv_r, gPv_0, Option.toList_some, Option.toList_none, List.singleton_append, List.cons_append, List.nil_append, List.length_nil, List.length_cons, Nat.zero_le, Nat.reduceAdd, Nat.reduceLeDiff, or_true, true_or, false_or, or_false, and_self, and_false, false_and, implies_true, Option.some.injEq, exists_eq_left', nL, t_lies, c1, c2]
  · simp only [c_178, e_178_0, e_178_1, e_178_2, e_178_3, e_178_6, e_178_9, e_178_10, e_178_11, e_178_12, e_178_15, e_178_18, e_178_19, e_178_20, e_178_22, e_178_23, e_178_24, e_178_27, e_178_30, e_178_31, e_178_32, e_178_34, e_178_35, e_178_36, e_178_39, e_178_42, e_178_43, e_178_46, e_178_47, n10, n01, Nat.lt_irrefl, Nat.not_lt_zero, ne_eq, Nat.add_zero, Nat.one_ne_zero, Nat.zero_ne_one, Nat.reduceEqDiff, bI_T, bI_F, bI_0, bI_1, bI_01, not_and_self, true_and, and_true, not_true_eq_false, not_false_eq_true, false_imp_iff, true_imp_iff, imp_self, gPv_n, gPv_i, gPv_r, gPv_0, Option.toList_some, Option.toList_none, List.singleton_append, List.cons_append, List.nil_append, List.length_nil, List.length_cons, Nat.zero_le, Nat.reduceAdd, Nat.reduceLeDiff, or_true, true_or, false_or, or_false, and_self, and_false, false_and, implies_true, Option.some.injEq, exists_eq_left', nL, t_lies, c1]
