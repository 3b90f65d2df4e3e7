/-! the model splits a text: all of it -/
section
variable {B q : Nat} {σ : gS} {T : Nat → Nat} {d : Nat} {Q : Option Value → gS → Prop}
abbrev spP (B a : Nat) : Prop := a = B + 54 ∨ a = B + 62 ∨ a = B + 63 ∨ a = B + 64
theorem e_199_17b (hv : IvS B σ) {x0 x1 x2 x3 x4 x5 : Option Value} {j : Int32} {s : List Value} : wp d pr_199 Q 17 [x0, x1, x2, x3, x4, x5] (.int j :: .ref (B + 60) :: s) σ ↔ (¬ j < 0 ∧ j.toNatClampNeg < gN σ (B + 60)) ∧ wp d pr_199 Q 18 [x0, x1, x2, x3, x4, x5] (.int (gI σ (B + 60) j.toNatClampNeg) :: s) σ := e_199_17 (Or.inl (sk_60 hv))
theorem e_199_55b (hv : IvS B σ) {x0 x1 x2 x3 x4 x5 : Option Value} {j : Int32} {s : List Value} : wp d pr_199 Q 55 [x0, x1, x2, x3, x4, x5] (.int j :: .ref (B + 60) :: s) σ ↔ (¬ j < 0 ∧ j.toNatClampNeg < gN σ (B + 60)) ∧ wp d pr_199 Q 56 [x0, x1, x2, x3, x4, x5] (.int (gI σ (B + 60) j.toNatClampNeg) :: s) σ := e_199_55 (Or.inl (sk_60 hv))
theorem e_199_87b (hv : IvS B σ) {x0 x1 x2 x3 x4 x5 : Option Value} {j : Int32} {s : List Value} : wp d pr_199 Q 87 [x0, x1, x2, x3, x4, x5] (.int j :: .ref (B + 60) :: s) σ ↔ (¬ j < 0 ∧ j.toNatClampNeg < gN σ (B + 60)) ∧ wp d pr_199 Q 88 [x0, x1, x2, x3, x4, x5] (.int (gI σ (B + 60) j.toNatClampNeg) :: s) σ := e_199_87 (Or.inl (sk_60 hv))
theorem e_199_235b (hv : IvS B σ) {x0 x1 x2 x3 x4 x5 : Option Value} {j : Int32} {s : List Value} : wp d pr_199 Q 235 [x0, x1, x2, x3, x4, x5] (.int j :: .ref (B + 60) :: s) σ ↔ (¬ j < 0 ∧ j.toNatClampNeg < gN σ (B + 60)) ∧ wp d pr_199 Q 236 [x0, x1, x2, x3, x4, x5] (.int (gI σ (B + 60) j.toNatClampNeg) :: s) σ := e_199_235 (Or.inl (sk_60 hv))
theorem t_x1 {x : Nat} {b : Int32} {x5 : Option Value} (X : TxM B q T σ) {r : Nat} (K : wp (d + 1) pr_199 Q 68 [some (.ref (B + 54)), some (.int (nI q)), some (.int (nI x)), some (.int b), some (.int (nI r)), x5] [] σ) : ∀ m e, e + m = q → r = ex T q 1 m e → wp (d + 1) pr_199 Q 43 [some (.ref (B + 54)), some (.int (nI q)), some (.int (nI x)), some (.int b), some (.int (nI e)), x5] [] σ := by
  obtain ⟨hv, hW, hq, hT⟩ := id X
  intro m
  induction m with
  | zero =>
    intro e he hr
    have z : q ≤ e := by omega
    simp only [ex] at hr
    subst hr
    simp (disch := omega) only [e_199_43, e_199_45, e_199_46, n10, n01, Nat.lt_irrefl, Nat.not_lt_zero, ne_eq, Nat.add_zero, Nat.one_ne_zero, Nat.zero_ne_one, Nat.reduceEqDiff, bI_T, bI_F, bI_0, bI_1, bI_01, not_and_self, true_and, and_true, not_true_eq_false, not_false_eq_true, false_imp_iff, true_imp_iff, imp_self, gPv_n, gPv_i, gPv_r, gPv_0, Option.toList_some, Option.toList_none, List.singleton_append, List.cons_append, List.nil_append, List.length_nil, List.length_cons, Nat.zero_le, Nat.reduceAdd, Nat.reduceLeDiff, or_true, true_or, false_or, or_false, and_self, and_false, false_and, implies_true, Option.some.injEq, exists_eq_left', nL, nI_add, nI_mul, nI_clamp, nI_ltI, nI_leI, nI_eq, nI_pos, nI_pos', Nat.reduceAdd, Nat.reduceMul, Nat.reducePow, z]
    exact K
  | succ m ih =>
    intro e he hr
    have z : ¬ q ≤ e := by omega
    obtain ⟨t1, t2⟩ := hT e (by omega)
    have z1 : e < 400 := by omega
    rw [ex] at hr
    rw [e_199_43]
    by_cases c : kd (T e) = 1
    · rw [if_pos ⟨by omega, c⟩] at hr
      simp (disch := omega) only [e_199_45, e_199_46, e_199_49, e_199_50, e_199_53, e_199_56, e_199_59, e_199_62, e_199_65, e_199_55b hv, n10, n01, Nat.lt_irrefl, Nat.not_lt_zero, ne_eq, Nat.add_zero, Nat.one_ne_zero, Nat.zero_ne_one, Nat.reduceEqDiff, bI_T, bI_F, bI_0, bI_1, bI_01, not_and_self, true_and, and_true, not_true_eq_false, not_false_eq_true, false_imp_iff, true_imp_iff, imp_self, gPv_n, gPv_i, gPv_r, gPv_0, Option.toList_some, Option.toList_none, List.singleton_append, List.cons_append, List.nil_append, List.length_nil, List.length_cons, Nat.zero_le, Nat.reduceAdd, Nat.reduceLeDiff, or_true, true_or, false_or, or_false, and_self, and_false, false_and, implies_true, Option.some.injEq, exists_eq_left', nL, nI_add, nI_mul, nI_clamp, nI_ltI, nI_leI, nI_eq, nI_pos, nI_pos', Nat.reduceAdd, Nat.reduceMul, Nat.reducePow, sk_54 hv, sr_54_2 hv, sr_54_3 hv, sr_54_4 hv, sr_54_5 hv, sr_54_7 hv, sr_54_8 hv, sr_54_9 hv, sr_54_12 hv, sr_54_13 hv, sr_54_14 hv, sr_54_22 hv, sr_54_25 hv, sr_54_26 hv, sr_54_27 hv, sr_54_34 hv, sr_54_35 hv, sr_54_36 hv, sr_54_37 hv, sr_54_38 hv, sr_54_40 hv, sr_54_43 hv, sr_54_44 hv, sr_54_45 hv, sr_54_46 hv, sr_54_47 hv, sk_60 hv, sn_60 hv, z, z1, t1, t_small t2, c]
      exact ih (e + 1) (by omega) hr
    · rw [if_neg (fun z => c z.2)] at hr
      subst hr
      simp (disch := omega) only [e_199_45, e_199_46, e_199_49, e_199_50, e_199_53, e_199_56, e_199_59, e_199_62, e_199_65, e_199_55b hv, n10, n01, Nat.lt_irrefl, Nat.not_lt_zero, ne_eq, Nat.add_zero, Nat.one_ne_zero, Nat.zero_ne_one, Nat.reduceEqDiff, bI_T, bI_F, bI_0, bI_1, bI_01, not_and_self, true_and, and_true, not_true_eq_false, not_false_eq_true, false_imp_iff, true_imp_iff, imp_self, gPv_n, gPv_i, gPv_r, gPv_0, Option.toList_some, Option.toList_none, List.singleton_append, List.cons_append, List.nil_append, List.length_nil, List.length_cons, Nat.zero_le, Nat.reduceAdd, Nat.reduceLeDiff, or_true, true_or, false_or, or_false, and_self, and_false, false_and, implies_true, Option.some.injEq, exists_eq_left', nL, nI_add, nI_mul, nI_clamp, nI_ltI, nI_leI, nI_eq, nI_pos, nI_pos', Nat.reduceAdd, Nat.reduceMul, Nat.reducePow, sk_54 hv, sr_54_2 hv, sr_54_3 hv, sr_54_4 hv, sr_54_5 hv, sr_54_7 hv, sr_54_8 hv, sr_54_9 hv, sr_54_12 hv, sr_54_13 hv, sr_54_14 hv, sr_54_22 hv, sr_54_25 hv, sr_54_26 hv, sr_54_27 hv, sr_54_34 hv, sr_54_35 hv, sr_54_36 hv, sr_54_37 hv, sr_54_38 hv, sr_54_40 hv, sr_54_43 hv, sr_54_44 hv, sr_54_45 hv, sr_54_46 hv, sr_54_47 hv, sk_60 hv, sn_60 hv, z, z1, t1, t_small t2, c]
      exact K
theorem t_x2 {x : Nat} {b : Int32} {x5 : Option Value} (X : TxM B q T σ) {r : Nat} (K : wp (d + 1) pr_199 Q 100 [some (.ref (B + 54)), some (.int (nI q)), some (.int (nI x)), some (.int b), some (.int (nI r)), x5] [] σ) : ∀ m e, e + m = q → r = ex T q 2 m e → wp (d + 1) pr_199 Q 75 [some (.ref (B + 54)), some (.int (nI q)), some (.int (nI x)), some (.int b), some (.int (nI e)), x5] [] σ := by
  obtain ⟨hv, hW, hq, hT⟩ := id X
  intro m
  induction m with
  | zero =>
    intro e he hr
    have z : q ≤ e := by omega
    simp only [ex] at hr
    subst hr
    simp (disch := omega) only [e_199_75, e_199_77, e_199_78, n10, n01, Nat.lt_irrefl, Nat.not_lt_zero, ne_eq, Nat.add_zero, Nat.one_ne_zero, Nat.zero_ne_one, Nat.reduceEqDiff, bI_T, bI_F, bI_0, bI_1, bI_01, not_and_self, true_and, and_true, not_true_eq_false, not_false_eq_true, false_imp_iff, true_imp_iff, imp_self, gPv_n, gPv_i, gPv_r, gPv_0, Option.toList_some, Option.toList_none, List.singleton_append, List.cons_append, List.nil_append, List.length_nil, List.length_cons, Nat.zero_le, Nat.reduceAdd, Nat.reduceLeDiff, or_true, true_or, false_or, or_false, and_self, and_false, false_and, implies_true, Option.some.injEq, exists_eq_left', nL, nI_add, nI_mul, nI_clamp, nI_ltI, nI_leI, nI_eq, nI_pos, nI_pos', Nat.reduceAdd, Nat.reduceMul, Nat.reducePow, z]
    exact K
  | succ m ih =>
    intro e he hr
    have z : ¬ q ≤ e := by omega
    obtain ⟨t1, t2⟩ := hT e (by omega)
    have z1 : e < 400 := by omega
    rw [ex] at hr
    rw [e_199_75]
    by_cases c : kd (T e) = 2
    · rw [if_pos ⟨by omega, c⟩] at hr
      simp (disch := omega) only [e_199_77, e_199_78, e_199_81, e_199_82, e_199_85, e_199_88, e_199_91, e_199_94, e_199_97, e_199_87b hv, n10, n01, Nat.lt_irrefl, Nat.not_lt_zero, ne_eq, Nat.add_zero, Nat.one_ne_zero, Nat.zero_ne_one, Nat.reduceEqDiff, bI_T, bI_F, bI_0, bI_1, bI_01, not_and_self, true_and, and_true, not_true_eq_false, not_false_eq_true, false_imp_iff, true_imp_iff, imp_self, gPv_n, gPv_i, gPv_r, gPv_0, Option.toList_some, Option.toList_none, List.singleton_append, List.cons_append, List.nil_append, List.length_nil, List.length_cons, Nat.zero_le, Nat.reduceAdd, Nat.reduceLeDiff, or_true, true_or, false_or, or_false, and_self, and_false, false_and, implies_true, Option.some.injEq, exists_eq_left', nL, nI_add, nI_mul, nI_clamp, nI_ltI, nI_leI, nI_eq, nI_pos, nI_pos', Nat.reduceAdd, Nat.reduceMul, Nat.reducePow, sk_54 hv, sr_54_2 hv, sr_54_3 hv, sr_54_4 hv, sr_54_5 hv, sr_54_7 hv, sr_54_8 hv, sr_54_9 hv, sr_54_12 hv, sr_54_13 hv, sr_54_14 hv, sr_54_22 hv, sr_54_25 hv, sr_54_26 hv, sr_54_27 hv, sr_54_34 hv, sr_54_35 hv, sr_54_36 hv, sr_54_37 hv, sr_54_38 hv, sr_54_40 hv, sr_54_43 hv, sr_54_44 hv, sr_54_45 hv, sr_54_46 hv, sr_54_47 hv, sk_60 hv, sn_60 hv, z, z1, t1, t_digit t2, c]
      exact ih (e + 1) (by omega) hr
    · rw [if_neg (fun z => c z.2)] at hr
      subst hr
      simp (disch := omega) only [e_199_77, e_199_78, e_199_81, e_199_82, e_199_85, e_199_88, e_199_91, e_199_94, e_199_97, e_199_87b hv, n10, n01, Nat.lt_irrefl, Nat.not_lt_zero, ne_eq, Nat.add_zero, Nat.one_ne_zero, Nat.zero_ne_one, Nat.reduceEqDiff, bI_T, bI_F, bI_0, bI_1, bI_01, not_and_self, true_and, and_true, not_true_eq_false, not_false_eq_true, false_imp_iff, true_imp_iff, imp_self, gPv_n, gPv_i, gPv_r, gPv_0, Option.toList_some, Option.toList_none, List.singleton_append, List.cons_append, List.nil_append, List.length_nil, List.length_cons, Nat.zero_le, Nat.reduceAdd, Nat.reduceLeDiff, or_true, true_or, false_or, or_false, and_self, and_false, false_and, implies_true, Option.some.injEq, exists_eq_left', nL, nI_add, nI_mul, nI_clamp, nI_ltI, nI_leI, nI_eq, nI_pos, nI_pos', Nat.reduceAdd, Nat.reduceMul, Nat.reducePow, sk_54 hv, sr_54_2 hv, sr_54_3 hv, sr_54_4 hv, sr_54_5 hv, sr_54_7 hv, sr_54_8 hv, sr_54_9 hv, sr_54_12 hv, sr_54_13 hv, sr_54_14 hv, sr_54_22 hv, sr_54_25 hv, sr_54_26 hv, sr_54_27 hv, sr_54_34 hv, sr_54_35 hv, sr_54_36 hv, sr_54_37 hv, sr_54_38 hv, sr_54_40 hv, sr_54_43 hv, sr_54_44 hv, sr_54_45 hv, sr_54_46 hv, sr_54_47 hv, sk_60 hv, sn_60 hv, z, z1, t1, t_digit t2, c]
      exact K
/-- the number of a token of digits -/
theorem t_vl {x e t : Nat} {b : Int32} (hb : ∀ d Q σ, wc (d + 1) 197 [.int b] σ Q ↔ Q (some (.int (nI 1))) σ) (X : TxM B q T σ) (he : e ≤ q) (ht : t < 401) (h15 : gI σ (B + 54) 15 = nI t) (hdg : ∀ i, x ≤ i → i < e → kd (T i) = 2) (K : ∀ τ' x5, Sm (fun a => a = B + 63) σ τ' → (∀ j, j ≠ t → gI τ' (B + 63) j = gI σ (B + 63) j) → gI τ' (B + 63) t = nI (vl T (e - x) x 0) → wp (d + 1) pr_199 Q 247 [some (.ref (B + 54)), some (.int (nI q)), some (.int (nI x)), some (.int b), some (.int (nI e)), x5] [] τ') : ∀ m i τ a, i + m = e → x ≤ i → a ≤ 10000300 → Sm (fun a => a = B + 63) σ τ → (∀ j, j ≠ t → gI τ (B + 63) j = gI σ (B + 63) j) → gI τ (B + 63) t = nI a → vl T m i a = vl T (e - x) x 0 → wp (d + 1) pr_199 Q 169 [some (.ref (B + 54)), some (.int (nI q)), some (.int (nI x)), some (.int b), some (.int (nI e)), some (.int (nI i))] [] τ := by
  have q400 := X.2.2.1
  intro m
  induction m with
  | zero =>
    intro i τ a hi hxi ha hS hR h63 hv'
    have z : e ≤ i := by omega
    simp only [vl] at hv'
    simp (disch := omega) only [e_199_169, e_199_171, e_199_173, n10, n01, Nat.lt_irrefl, Nat.not_lt_zero, ne_eq, Nat.add_zero, Nat.one_ne_zero, Nat.zero_ne_one, Nat.reduceEqDiff, bI_T, bI_F, bI_0, bI_1, bI_01, not_and_self, true_and, and_true, not_true_eq_false, not_false_eq_true, false_imp_iff, true_imp_iff, imp_self, gPv_n, gPv_i, gPv_r, gPv_0, Option.toList_some, Option.toList_none, List.singleton_append, List.cons_append, List.nil_append, List.length_nil, List.length_cons, Nat.zero_le, Nat.reduceAdd, Nat.reduceLeDiff, or_true, true_or, false_or, or_false, and_self, and_false, false_and, implies_true, Option.some.injEq, exists_eq_left', nL, nI_add, nI_mul, nI_clamp, nI_ltI, nI_leI, nI_eq, nI_pos, nI_pos', Nat.reduceAdd, Nat.reduceMul, Nat.reducePow, z]
    exact K τ _ hS hR (by rw [h63, hv'])
  | succ m ih =>
    intro i τ a hi hxi ha hS hR h63 hv'
    obtain ⟨hv, hW, hq, hT⟩ := TxM_S X hS (by omega) (by omega)
    have e15 : gI τ (B + 54) 15 = nI t := by rw [hS.2.2.2.2.2.2.1 _ (by omega)]; exact h15
    have z : ¬ e ≤ i := by omega
    obtain ⟨t1, t2⟩ := hT i (by omega)
    have z1 : i < 400 := by omega
    have dg := hdg i hxi (by omega)
    have db : 48 ≤ T i ∧ T i ≤ 57 := by
      rw [kd] at dg
      split at dg
      · omega
      · split at dg <;> omega
    rw [vl] at hv'
    have sbt : sb (T i) = nI (T i) := sb_lt (by omega)
    rw [e_199_169]
    by_cases c : a ≤ 1000000
    · rw [if_neg (by omega)] at hv'
      have e2 : nI (10 * a + T i) - nI 48 = nI (10 * a + (T i - 48)) := by
        rw [nI_sub (by omega)]
        congr 1
        omega
      simp (disch := omega) only [e_199_171, e_199_173, e_199_176, e_199_177, e_199_180, e_199_183, e_199_184, e_199_187, e_199_188, e_199_191, e_199_192, e_199_195, e_199_196, e_199_199, e_199_200, e_199_202, e_199_205, e_199_206, e_199_209, e_199_210, e_199_213, e_199_214, e_199_217, e_199_219, e_199_220, e_199_223, e_199_224, e_199_227, e_199_228, e_199_229, e_199_230, e_199_233, e_199_236, e_199_237, e_199_239, e_199_240, e_199_241, e_199_244, e_199_235b hv, n10, n01, Nat.lt_irrefl, Nat.not_lt_zero, ne_eq, Nat.add_zero, Nat.one_ne_zero, Nat.zero_ne_one, Nat.reduceEqDiff, bI_T, bI_F, bI_0, bI_1, bI_01, not_and_self, true_and, and_true, not_true_eq_false, not_false_eq_true, false_imp_iff, true_imp_iff, imp_self, gPv_n, gPv_i, gPv_r, gPv_0, Option.toList_some, Option.toList_none, List.singleton_append, List.cons_append, List.nil_append, List.length_nil, List.length_cons, Nat.zero_le, Nat.reduceAdd, Nat.reduceLeDiff, or_true, true_or, false_or, or_false, and_self, and_false, false_and, implies_true, Option.some.injEq, exists_eq_left', nL, nI_add, nI_mul, nI_clamp, nI_ltI, nI_leI, nI_eq, nI_pos, nI_pos', Nat.reduceAdd, Nat.reduceMul, Nat.reducePow, sk_54 hv, sr_54_2 hv, sr_54_3 hv, sr_54_4 hv, sr_54_5 hv, sr_54_7 hv, sr_54_8 hv, sr_54_9 hv, sr_54_12 hv, sr_54_13 hv, sr_54_14 hv, sr_54_22 hv, sr_54_25 hv, sr_54_26 hv, sr_54_27 hv, sr_54_34 hv, sr_54_35 hv, sr_54_36 hv, sr_54_37 hv, sr_54_38 hv, sr_54_40 hv, sr_54_43 hv, sr_54_44 hv, sr_54_45 hv, sr_54_46 hv, sr_54_47 hv, sk_60 hv, sn_60 hv, sk_63 hv, sn_63 hv, hb, z, z1, e15, ht, h63, c, t1, sbt, e2]
      refine ih (i + 1) _ (10 * a + (T i - 48)) (by omega) (by omega) (by omega) (Sm_I hS rfl) ?_ (by rw [rI_eq]) hv'
      intro j hj
      rw [rI_nk hj]
      exact hR j hj
    · rw [if_pos (by omega)] at hv'
      simp (disch := omega) only [e_199_171, e_199_173, e_199_176, e_199_177, e_199_180, e_199_183, e_199_184, e_199_187, e_199_188, e_199_191, e_199_192, e_199_195, e_199_196, e_199_199, e_199_200, e_199_202, e_199_205, e_199_206, e_199_209, e_199_210, e_199_213, e_199_214, e_199_217, e_199_219, e_199_220, e_199_223, e_199_224, e_199_227, e_199_228, e_199_229, e_199_230, e_199_233, e_199_236, e_199_237, e_199_239, e_199_240, e_199_241, e_199_244, e_199_235b hv, n10, n01, Nat.lt_irrefl, Nat.not_lt_zero, ne_eq, Nat.add_zero, Nat.one_ne_zero, Nat.zero_ne_one, Nat.reduceEqDiff, bI_T, bI_F, bI_0, bI_1, bI_01, not_and_self, true_and, and_true, not_true_eq_false, not_false_eq_true, false_imp_iff, true_imp_iff, imp_self, gPv_n, gPv_i, gPv_r, gPv_0, Option.toList_some, Option.toList_none, List.singleton_append, List.cons_append, List.nil_append, List.length_nil, List.length_cons, Nat.zero_le, Nat.reduceAdd, Nat.reduceLeDiff, or_true, true_or, false_or, or_false, and_self, and_false, false_and, implies_true, Option.some.injEq, exists_eq_left', nL, nI_add, nI_mul, nI_clamp, nI_ltI, nI_leI, nI_eq, nI_pos, nI_pos', Nat.reduceAdd, Nat.reduceMul, Nat.reducePow, sk_54 hv, sr_54_2 hv, sr_54_3 hv, sr_54_4 hv, sr_54_5 hv, sr_54_7 hv, sr_54_8 hv, sr_54_9 hv, sr_54_12 hv, sr_54_13 hv, sr_54_14 hv, sr_54_22 hv, sr_54_25 hv, sr_54_26 hv, sr_54_27 hv, sr_54_34 hv, sr_54_35 hv, sr_54_36 hv, sr_54_37 hv, sr_54_38 hv, sr_54_40 hv, sr_54_43 hv, sr_54_44 hv, sr_54_45 hv, sr_54_46 hv, sr_54_47 hv, sk_60 hv, sn_60 hv, sk_63 hv, sn_63 hv, hb, z, z1, e15, ht, h63, c]
      refine ih (i + 1) _ a (by omega) (by omega) ha (Sm_I hS rfl) ?_ (by rw [rI_eq]) hv'
      intro j hj
      rw [rI_nk hj]
      exact hR j hj
def SpT (B : Nat) (T : Nat → Nat) (q t : Nat) (τ : gS) : Prop := ∀ i, i < t → gI τ (B + 62) i = nI (cT T q i) ∧ gI τ (B + 63) i = nI (vT T q i) ∧ gI τ (B + 64) i = nI (st T q i)
theorem ex_k {k : Nat} : ∀ m p i, p ≤ i → i < ex T q k m p → kd (T i) = k := by
  intro m
  induction m with
  | zero => intro p i h1 h2; simp only [ex] at h2; omega
  | succ m ih =>
    intro p i h1 h2
    rw [ex] at h2
    by_cases c : p < q ∧ kd (T p) = k
    · rw [if_pos c] at h2
      by_cases g : i = p
      · rw [g]; exact c.2
      · exact ih (p + 1) i (by omega) h2
    · rw [if_neg c] at h2
      omega
theorem en_k {p i : Nat} (hp : p < q) (h3 : kd (T p) ≠ 3) (h1 : p ≤ i) (h2 : i < en T q p) : kd (T i) = kd (T p) := by
  rw [en_x hp h3] at h2
  by_cases g : i = p
  · rw [g]
  · exact ex_k _ _ i (by omega) h2
set_option maxHeartbeats 1000000 in
theorem t_spl1 (X0 : TxM B q T σ) (K : ∀ τ' n, Sm (spP B) σ τ' → (∀ j, j ≠ 15 → gI τ' (B + 54) j = gI σ (B + 54) j) → gI τ' (B + 54) 15 = nI n → (∀ t, t < n → st T q t < q) → st T q n = q → SpT B T q (n + 1) τ' → Q none τ') : ∀ m x t τ x3 x4 x5, q ≤ x + m → x ≤ q → skp T q x = st T q t → (∀ i, i < t → st T q i < q) → Sm (spP B) σ τ → (∀ j, j ≠ 15 → gI τ (B + 54) j = gI σ (B + 54) j) → gI τ (B + 54) 15 = nI t → SpT B T q t τ → wp (d + 2) pr_199 Q 7 [some (.ref (B + 54)), some (.int (nI q)), some (.int (nI x)), x3, x4, x5] [] τ := by
  have q400 := X0.2.2.1
  have done : ∀ x t τ x3 x4 x5, x = q → skp T q x = st T q t → (∀ i, i < t → st T q i < q) → Sm (spP B) σ τ → (∀ j, j ≠ 15 → gI τ (B + 54) j = gI σ (B + 54) j) → gI τ (B + 54) 15 = nI t → SpT B T q t τ → wp (d + 2) pr_199 Q 7 [some (.ref (B + 54)), some (.int (nI q)), some (.int (nI x)), x3, x4, x5] [] τ := by
    intro x t τ x3 x4 x5 hx hs hl hS hf h15 hT
    obtain ⟨hv, hW, hq, _⟩ := TxM_S X0 hS (by simp only [spP]; omega) (by simp only [spP]; omega)
    have sq : st T q t = q := by rw [← hs, hx, skp_q (Nat.le_refl _)]
    have tq := st_ge hl t (Nat.le_refl _)
    have t401 : t < 401 := by omega
    subst hx
    simp (disch := omega) only [e_199_7, e_199_8, e_199_9, e_199_263, e_199_264, e_199_267, e_199_268, e_199_271, e_199_272, e_199_273, e_199_274, e_199_277, e_199_278, e_199_281, e_199_282, e_199_283, e_199_284, e_199_287, e_199_288, e_199_291, e_199_292, e_199_293, n10, n01, Nat.lt_irrefl, Nat.not_lt_zero, ne_eq, Nat.add_zero, Nat.one_ne_zero, Nat.zero_ne_one, Nat.reduceEqDiff, bI_T, bI_F, bI_0, bI_1, bI_01, not_and_self, true_and, and_true, not_true_eq_false, not_false_eq_true, false_imp_iff, true_imp_iff, imp_self, gPv_n, gPv_i, gPv_r, gPv_0, Option.toList_some, Option.toList_none, List.singleton_append, List.cons_append, List.nil_append, List.length_nil, List.length_cons, Nat.zero_le, Nat.reduceAdd, Nat.reduceLeDiff, or_true, true_or, false_or, or_false, and_self, and_false, false_and, implies_true, Option.some.injEq, exists_eq_left', nL, nI_add, nI_mul, nI_clamp, nI_ltI, nI_leI, nI_eq, nI_pos, nI_pos', Nat.reduceAdd, Nat.reduceMul, Nat.reducePow, sk_54 hv, sr_54_2 hv, sr_54_3 hv, sr_54_4 hv, sr_54_5 hv, sr_54_7 hv, sr_54_8 hv, sr_54_9 hv, sr_54_12 hv, sr_54_13 hv, sr_54_14 hv, sr_54_22 hv, sr_54_25 hv, sr_54_26 hv, sr_54_27 hv, sr_54_34 hv, sr_54_35 hv, sr_54_36 hv, sr_54_37 hv, sr_54_38 hv, sr_54_40 hv, sr_54_43 hv, sr_54_44 hv, sr_54_45 hv, sr_54_46 hv, sr_54_47 hv, sk_62 hv, sn_62 hv, sk_63 hv, sn_63 hv, sk_64 hv, sn_64 hv, n_K_I, n_K_J, n_K_R, n_K_r, n_N_I, n_N_J, n_N_R, n_N_r, n_R_I, n_R_J, n_R_r, n_J_I, n_J_R, n_J_r, n_I_J, n_I_R, n_n_I, n_n_J, n_n_R, n_n_r, n_w_I, n_w_J, n_w_R, n_w_r, n_T_I, n_T_J, n_T_R, n_T_r, rI_ne, rI_nk, rI_eq, rr_ne, rr_eq, n_J_J, n_R_R, Nat.add_left_cancel_iff, Nat.add_right_cancel_iff, Nat.add_eq_left, Nat.left_eq_add, Nat.reduceEqDiff, Nat.reduceAdd, Nat.zero_ne_one, Nat.one_ne_zero, false_and, and_false, true_and, and_true, and_self, if_false, if_true, ↓reduceIte, h15, t401, Nat.le_refl]
    refine K _ t (Sm_I (Sm_I (Sm_I hS (Or.inr (Or.inr (Or.inr rfl)))) (Or.inr (Or.inl rfl))) (Or.inr (Or.inr (Or.inl rfl)))) (fun j hj => ?_) ?_ hl sq ?_
    · simp (disch := omega) only [rI_ne]
      exact hf j hj
    · simp (disch := omega) only [rI_ne]
      exact h15
    · intro i hi
      by_cases g : i = t
      · subst g
        have c0 : cT T x i = 0 := by rw [cT, if_neg (by omega)]
        have v0 : vT T x i = 0 := by rw [vT, if_neg (by omega)]
        rw [c0, v0, sq]
        simp (disch := omega) only [rI_ne, rI_eq, and_self]
      · simp (disch := omega) only [rI_ne, rI_nk]
        exact hT i (by omega)
  intro m
  induction m with
  | zero =>
    intro x t τ x3 x4 x5 hm hx hs hl hS hf h15 hT
    exact done x t τ x3 x4 x5 (by omega) hs hl hS hf h15 hT
  | succ m ih =>
    intro x t τ x3 x4 x5 hm hx hs hl hS hf h15 hT
    by_cases xq : x = q
    · exact done x t τ x3 x4 x5 xq hs hl hS hf h15 hT
    have X := TxM_S X0 hS (by simp only [spP]; omega) (by simp only [spP]; omega)
    obtain ⟨hv, hW, hq, hTx⟩ := id X
    have z : ¬ q ≤ x := by omega
    obtain ⟨t1, t2⟩ := hTx x (by omega)
    have z1 : x < 400 := by omega
    rw [e_199_7]
    by_cases c32 : T x = 32
    · have c' := (sb_32 (T x) t2).mpr c32
      simp (disch := omega) only [e_199_8, e_199_9, e_199_12, e_199_13, e_199_16, e_199_18, e_199_19, e_199_20, e_199_22, e_199_25, e_199_28, e_199_17b hv, n10, n01, Nat.lt_irrefl, Nat.not_lt_zero, ne_eq, Nat.add_zero, Nat.one_ne_zero, Nat.zero_ne_one, Nat.reduceEqDiff, bI_T, bI_F, bI_0, bI_1, bI_01, not_and_self, true_and, and_true, not_true_eq_false, not_false_eq_true, false_imp_iff, true_imp_iff, imp_self, gPv_n, gPv_i, gPv_r, gPv_0, Option.toList_some, Option.toList_none, List.singleton_append, List.cons_append, List.nil_append, List.length_nil, List.length_cons, Nat.zero_le, Nat.reduceAdd, Nat.reduceLeDiff, or_true, true_or, false_or, or_false, and_self, and_false, false_and, implies_true, Option.some.injEq, exists_eq_left', nL, nI_add, nI_mul, nI_clamp, nI_ltI, nI_leI, nI_eq, nI_pos, nI_pos', Nat.reduceAdd, Nat.reduceMul, Nat.reducePow, sk_54 hv, sr_54_2 hv, sr_54_3 hv, sr_54_4 hv, sr_54_5 hv, sr_54_7 hv, sr_54_8 hv, sr_54_9 hv, sr_54_12 hv, sr_54_13 hv, sr_54_14 hv, sr_54_22 hv, sr_54_25 hv, sr_54_26 hv, sr_54_27 hv, sr_54_34 hv, sr_54_35 hv, sr_54_36 hv, sr_54_37 hv, sr_54_38 hv, sr_54_40 hv, sr_54_43 hv, sr_54_44 hv, sr_54_45 hv, sr_54_46 hv, sr_54_47 hv, sk_60 hv, sn_60 hv, z, z1, t1, c']
      exact ih (x + 1) t τ _ _ _ (by omega) (by omega) (by rw [← skp_s (by omega) c32]; exact hs) hl hS hf h15 hT
    · have c' : ¬ sb (T x) = nI 32 := fun z => c32 ((sb_32 (T x) t2).mp z)
      have sx : st T q t = x := by rw [← hs, skp_n (fun z => c32 z.2)]
      have tq := st_ge hl t (Nat.le_refl _)
      have t401 : t < 401 := by omega
      obtain ⟨en1, en2⟩ := en_gt (T := T) (q := q) (p := x) (by omega)
      have hl' : ∀ i, i < t + 1 → st T q i < q := fun i hi => by
        by_cases g : i = t
        · rw [g, sx]; omega
        · exact hl i (by omega)
      have snx : skp T q (en T q x) = st T q (t + 1) := by
        show _ = skp T q (en T q (st T q t))
        rw [sx]
      -- the last part: one token more
      have fin : ∀ τ' b x5, Sm (spP B) σ τ' → (∀ j, j ≠ 15 → gI τ' (B + 54) j = gI σ (B + 54) j) → gI τ' (B + 54) 15 = nI t → SpT B T q (t + 1) τ' → wp (d + 2) pr_199 Q 247 [some (.ref (B + 54)), some (.int (nI q)), some (.int (nI x)), some (.int b), some (.int (nI (en T q x))), x5] [] τ' := by
        intro τ' b x5 hS' hf' h15' hT'
        obtain ⟨hv', _⟩ := TxM_S X0 hS' (by simp only [spP]; omega) (by simp only [spP]; omega)
        simp (disch := omega) only [e_199_247, e_199_248, e_199_248n, e_199_249, e_199_252, e_199_253, e_199_254, e_199_257, e_199_259, e_199_260, n10, n01, Nat.lt_irrefl, Nat.not_lt_zero, ne_eq, Nat.add_zero, Nat.one_ne_zero, Nat.zero_ne_one, Nat.reduceEqDiff, bI_T, bI_F, bI_0, bI_1, bI_01, not_and_self, true_and, and_true, not_true_eq_false, not_false_eq_true, false_imp_iff, true_imp_iff, imp_self, gPv_n, gPv_i, gPv_r, gPv_0, Option.toList_some, Option.toList_none, List.singleton_append, List.cons_append, List.nil_append, List.length_nil, List.length_cons, Nat.zero_le, Nat.reduceAdd, Nat.reduceLeDiff, or_true, true_or, false_or, or_false, and_self, and_false, false_and, implies_true, Option.some.injEq, exists_eq_left', nL, nI_add, sk_54 hv', sr_54_2 hv', sr_54_3 hv', sr_54_4 hv', sr_54_5 hv', sr_54_7 hv', sr_54_8 hv', sr_54_9 hv', sr_54_12 hv', sr_54_13 hv', sr_54_14 hv', sr_54_22 hv', sr_54_25 hv', sr_54_26 hv', sr_54_27 hv', sr_54_34 hv', sr_54_35 hv', sr_54_36 hv', sr_54_37 hv', sr_54_38 hv', sr_54_40 hv', sr_54_43 hv', sr_54_44 hv', sr_54_45 hv', sr_54_46 hv', sr_54_47 hv', h15']
        refine ih (en T q x) (t + 1) _ _ _ _ (by omega) en2 snx hl' (Sm_I hS' (Or.inl rfl)) (fun j hj => by rw [rI_nk hj]; exact hf' j hj) (by rw [rI_eq]) ?_
        intro i hi
        simp (disch := omega) only [rI_ne]
        exact hT' i hi
      have cx : cT T q t = cd T q x := by rw [cT, sx, if_pos (by omega)]
      have vx : vT T q t = vP T q x := by rw [vT, sx, if_pos (by omega)]
      by_cases k1 : kd (T x) = 1
      · have k2 : ¬ kd (T x) = 2 := by omega
        have ee := en_x (T := T) (q := q) (p := x) (by omega) (by omega)
        rw [k1] at ee
        have mid : wp (d + 2) pr_199 Q 68 [some (.ref (B + 54)), some (.int (nI q)), some (.int (nI x)), some (.int (sb (T x))), some (.int (nI (en T q x))), x5] [] τ := by
          simp (disch := omega) only [e_199_68, e_199_69, e_199_72, e_199_100, e_199_101, e_199_104, e_199_105, e_199_108, e_199_109, e_199_110, e_199_111, e_199_114, e_199_115, e_199_118, e_199_119, e_199_120, e_199_121, e_199_124, e_199_125, e_199_128, e_199_129, e_199_132, e_199_135, e_199_136, e_199_137, e_199_139, n10, n01, Nat.lt_irrefl, Nat.not_lt_zero, ne_eq, Nat.add_zero, Nat.one_ne_zero, Nat.zero_ne_one, Nat.reduceEqDiff, bI_T, bI_F, bI_0, bI_1, bI_01, not_and_self, true_and, and_true, not_true_eq_false, not_false_eq_true, false_imp_iff, true_imp_iff, imp_self, gPv_n, gPv_i, gPv_r, gPv_0, Option.toList_some, Option.toList_none, List.singleton_append, List.cons_append, List.nil_append, List.length_nil, List.length_cons, Nat.zero_le, Nat.reduceAdd, Nat.reduceLeDiff, or_true, true_or, false_or, or_false, and_self, and_false, false_and, implies_true, Option.some.injEq, exists_eq_left', nL, nI_add, nI_mul, nI_clamp, nI_ltI, nI_leI, nI_eq, nI_pos, nI_pos', Nat.reduceAdd, Nat.reduceMul, Nat.reducePow, sk_54 hv, sr_54_2 hv, sr_54_3 hv, sr_54_4 hv, sr_54_5 hv, sr_54_7 hv, sr_54_8 hv, sr_54_9 hv, sr_54_12 hv, sr_54_13 hv, sr_54_14 hv, sr_54_22 hv, sr_54_25 hv, sr_54_26 hv, sr_54_27 hv, sr_54_34 hv, sr_54_35 hv, sr_54_36 hv, sr_54_37 hv, sr_54_38 hv, sr_54_40 hv, sr_54_43 hv, sr_54_44 hv, sr_54_45 hv, sr_54_46 hv, sr_54_47 hv, sk_62 hv, sn_62 hv, sk_63 hv, sn_63 hv, sk_64 hv, sn_64 hv, n_K_I, n_K_J, n_K_R, n_K_r, n_N_I, n_N_J, n_N_R, n_N_r, n_R_I, n_R_J, n_R_r, n_J_I, n_J_R, n_J_r, n_I_J, n_I_R, n_n_I, n_n_J, n_n_R, n_n_r, n_w_I, n_w_J, n_w_R, n_w_r, n_T_I, n_T_J, n_T_R, n_T_r, rI_ne, rI_nk, rI_eq, rr_ne, rr_eq, n_J_J, n_R_R, Nat.add_left_cancel_iff, Nat.add_right_cancel_iff, Nat.add_eq_left, Nat.left_eq_add, Nat.reduceEqDiff, Nat.reduceAdd, Nat.zero_ne_one, Nat.one_ne_zero, false_and, and_false, true_and, and_true, and_self, if_false, if_true, ↓reduceIte, t_digit t2, t_small t2, k1, k2, h15, t401]
          generalize hτ1 : sI (sI τ (B + 64) t (nI x)) (B + 63) t (nI 0) = τ1
          have S1 : Sm (spP B) σ τ1 := by rw [← hτ1]; exact Sm_I (Sm_I hS (Or.inr (Or.inr (Or.inr rfl)))) (Or.inr (Or.inr (Or.inl rfl)))
          have X1 := TxM_S X0 S1 (by simp only [spP]; omega) (by simp only [spP]; omega)
          have hv1 := X1.1
          have r54 : gI τ1 (B + 54) = gI τ (B + 54) := by rw [← hτ1]; simp (disch := omega) only [rI_ne]
          refine t_wordOf (d := d + 1) X1 en2 en1 ?_
          have z0 : ¬ en T q x ≤ x := by omega
          simp (disch := omega) only [e_199_142, e_199_165, e_199_166, e_199_167, e_199_169, e_199_171, e_199_173, e_199_176, e_199_177, e_199_180, n10, n01, Nat.lt_irrefl, Nat.not_lt_zero, ne_eq, Nat.add_zero, Nat.one_ne_zero, Nat.zero_ne_one, Nat.reduceEqDiff, bI_T, bI_F, bI_0, bI_1, bI_01, not_and_self, true_and, and_true, not_true_eq_false, not_false_eq_true, false_imp_iff, true_imp_iff, imp_self, gPv_n, gPv_i, gPv_r, gPv_0, Option.toList_some, Option.toList_none, List.singleton_append, List.cons_append, List.nil_append, List.length_nil, List.length_cons, Nat.zero_le, Nat.reduceAdd, Nat.reduceLeDiff, or_true, true_or, false_or, or_false, and_self, and_false, false_and, implies_true, Option.some.injEq, exists_eq_left', nL, nI_add, nI_mul, nI_clamp, nI_ltI, nI_leI, nI_eq, nI_pos, nI_pos', Nat.reduceAdd, Nat.reduceMul, Nat.reducePow, sk_62 hv1, sn_62 hv1, t401, t_digit t2, k2, z0]
          refine fin _ _ _ (Sm_I S1 (Or.inr (Or.inl rfl))) (fun j hj => by rw [rI_ne (by omega), r54]; exact hf j hj) (by rw [rI_ne (by omega), r54]; exact h15) ?_
          intro i hi
          by_cases g : i = t
          · subst g
            rw [cx, vx, cd, if_pos k1, vP, if_neg k2, sx, ← hτ1]
            simp (disch := omega) only [rI_ne, rI_eq, and_self]
          · rw [← hτ1]
            simp (disch := omega) only [rI_ne, rI_nk]
            exact hT i (by omega)
        simp (disch := omega) only [e_199_8, e_199_9, e_199_12, e_199_13, e_199_16, e_199_18, e_199_19, e_199_20, e_199_22, e_199_25, e_199_28, e_199_31, e_199_32, e_199_33, e_199_34, e_199_36, e_199_37, e_199_40, e_199_17b hv, n10, n01, Nat.lt_irrefl, Nat.not_lt_zero, ne_eq, Nat.add_zero, Nat.one_ne_zero, Nat.zero_ne_one, Nat.reduceEqDiff, bI_T, bI_F, bI_0, bI_1, bI_01, not_and_self, true_and, and_true, not_true_eq_false, not_false_eq_true, false_imp_iff, true_imp_iff, imp_self, gPv_n, gPv_i, gPv_r, gPv_0, Option.toList_some, Option.toList_none, List.singleton_append, List.cons_append, List.nil_append, List.length_nil, List.length_cons, Nat.zero_le, Nat.reduceAdd, Nat.reduceLeDiff, or_true, true_or, false_or, or_false, and_self, and_false, false_and, implies_true, Option.some.injEq, exists_eq_left', nL, nI_add, nI_mul, nI_clamp, nI_ltI, nI_leI, nI_eq, nI_pos, nI_pos', Nat.reduceAdd, Nat.reduceMul, Nat.reducePow, sk_54 hv, sr_54_2 hv, sr_54_3 hv, sr_54_4 hv, sr_54_5 hv, sr_54_7 hv, sr_54_8 hv, sr_54_9 hv, sr_54_12 hv, sr_54_13 hv, sr_54_14 hv, sr_54_22 hv, sr_54_25 hv, sr_54_26 hv, sr_54_27 hv, sr_54_34 hv, sr_54_35 hv, sr_54_36 hv, sr_54_37 hv, sr_54_38 hv, sr_54_40 hv, sr_54_43 hv, sr_54_44 hv, sr_54_45 hv, sr_54_46 hv, sr_54_47 hv, sk_60 hv, sn_60 hv, z, z1, t1, c', t_small t2, k1]
        exact t_x1 (d := d + 1) X mid (q - (x + 1)) (x + 1) (by omega) ee
      · by_cases k2 : kd (T x) = 2
        · have ee := en_x (T := T) (q := q) (p := x) (by omega) (by omega)
          rw [k2] at ee
          have mid : wp (d + 2) pr_199 Q 100 [some (.ref (B + 54)), some (.int (nI q)), some (.int (nI x)), some (.int (sb (T x))), some (.int (nI (en T q x))), x5] [] τ := by
            simp (disch := omega) only [e_199_100, e_199_101, e_199_104, e_199_105, e_199_108, e_199_109, e_199_110, e_199_111, e_199_114, e_199_115, e_199_118, e_199_119, e_199_120, e_199_121, e_199_124, e_199_125, e_199_128, e_199_129, e_199_132, e_199_145, e_199_146, e_199_149, e_199_152, e_199_154, e_199_165, e_199_166, e_199_167, n10, n01, Nat.lt_irrefl, Nat.not_lt_zero, ne_eq, Nat.add_zero, Nat.one_ne_zero, Nat.zero_ne_one, Nat.reduceEqDiff, bI_T, bI_F, bI_0, bI_1, bI_01, not_and_self, true_and, and_true, not_true_eq_false, not_false_eq_true, false_imp_iff, true_imp_iff, imp_self, gPv_n, gPv_i, gPv_r, gPv_0, Option.toList_some, Option.toList_none, List.singleton_append, List.cons_append, List.nil_append, List.length_nil, List.length_cons, Nat.zero_le, Nat.reduceAdd, Nat.reduceLeDiff, or_true, true_or, false_or, or_false, and_self, and_false, false_and, implies_true, Option.some.injEq, exists_eq_left', nL, nI_add, nI_mul, nI_clamp, nI_ltI, nI_leI, nI_eq, nI_pos, nI_pos', Nat.reduceAdd, Nat.reduceMul, Nat.reducePow, sk_54 hv, sr_54_2 hv, sr_54_3 hv, sr_54_4 hv, sr_54_5 hv, sr_54_7 hv, sr_54_8 hv, sr_54_9 hv, sr_54_12 hv, sr_54_13 hv, sr_54_14 hv, sr_54_22 hv, sr_54_25 hv, sr_54_26 hv, sr_54_27 hv, sr_54_34 hv, sr_54_35 hv, sr_54_36 hv, sr_54_37 hv, sr_54_38 hv, sr_54_40 hv, sr_54_43 hv, sr_54_44 hv, sr_54_45 hv, sr_54_46 hv, sr_54_47 hv, sk_62 hv, sn_62 hv, sk_63 hv, sn_63 hv, sk_64 hv, sn_64 hv, n_K_I, n_K_J, n_K_R, n_K_r, n_N_I, n_N_J, n_N_R, n_N_r, n_R_I, n_R_J, n_R_r, n_J_I, n_J_R, n_J_r, n_I_J, n_I_R, n_n_I, n_n_J, n_n_R, n_n_r, n_w_I, n_w_J, n_w_R, n_w_r, n_T_I, n_T_J, n_T_R, n_T_r, rI_ne, rI_nk, rI_eq, rr_ne, rr_eq, n_J_J, n_R_R, Nat.add_left_cancel_iff, Nat.add_right_cancel_iff, Nat.add_eq_left, Nat.left_eq_add, Nat.reduceEqDiff, Nat.reduceAdd, Nat.zero_ne_one, Nat.one_ne_zero, false_and, and_false, true_and, and_true, and_self, if_false, if_true, ↓reduceIte, t_digit t2, t_small t2, k1, k2, h15, t401]
            generalize hτ1 : sI (sI (sI τ (B + 64) t (nI x)) (B + 63) t (nI 0)) (B + 62) t (nI 50) = τ1
            have S1 : Sm (spP B) σ τ1 := by rw [← hτ1]; exact Sm_I (Sm_I (Sm_I hS (Or.inr (Or.inr (Or.inr rfl)))) (Or.inr (Or.inr (Or.inl rfl)))) (Or.inr (Or.inl rfl))
            have X1 := TxM_S X0 S1 (by simp only [spP]; omega) (by simp only [spP]; omega)
            have r54 : gI τ1 (B + 54) = gI τ (B + 54) := by rw [← hτ1]; simp (disch := omega) only [rI_ne]
            refine t_vl (d := d + 1) (t := t) (fun d Q σ => by rw [t_digit t2, bI_t k2]) X1 en2 t401 (by rw [r54]; exact h15) (fun i h1 h2 => by rw [← k2]; exact en_k (by omega) (by omega) h1 h2) ?_ (en T q x - x) x τ1 0 (by omega) (Nat.le_refl _) (by omega) (Sm_refl _ _) (fun _ _ => rfl) ?_ rfl
            · intro τ2 x5 S2 R2 v2
              have S02 : Sm (spP B) σ τ2 := Sm_trans S1 (Sm_mono S2 (fun a ha => Or.inr (Or.inr (Or.inl ha))))
              have r54' : gI τ2 (B + 54) = gI τ (B + 54) := by rw [S2.2.2.2.2.2.2.1 _ (by omega), r54]
              refine fin τ2 _ _ S02 (fun j hj => by rw [r54']; exact hf j hj) (by rw [r54']; exact h15) ?_
              intro i hi
              have r62 : gI τ2 (B + 62) = gI τ1 (B + 62) := S2.2.2.2.2.2.2.1 _ (by omega)
              have r64 : gI τ2 (B + 64) = gI τ1 (B + 64) := S2.2.2.2.2.2.2.1 _ (by omega)
              rw [r62, r64]
              by_cases g : i = t
              · subst g
                rw [v2, cx, vx, cd, if_neg k1, if_pos k2, vP, if_pos k2, sx, ← hτ1]
                simp (disch := omega) only [rI_ne, rI_eq, and_self]
              · rw [R2 i g, ← hτ1]
                simp (disch := omega) only [rI_ne, rI_nk]
                exact hT i (by omega)
            · rw [← hτ1]
              simp (disch := omega) only [rI_ne, rI_eq]
          simp (disch := omega) only [e_199_8, e_199_9, e_199_12, e_199_13, e_199_16, e_199_18, e_199_19, e_199_20, e_199_22, e_199_25, e_199_28, e_199_31, e_199_32, e_199_33, e_199_34, e_199_36, e_199_37, e_199_40, e_199_68, e_199_69, e_199_72, e_199_17b hv, n10, n01, Nat.lt_irrefl, Nat.not_lt_zero, ne_eq, Nat.add_zero, Nat.one_ne_zero, Nat.zero_ne_one, Nat.reduceEqDiff, bI_T, bI_F, bI_0, bI_1, bI_01, not_and_self, true_and, and_true, not_true_eq_false, not_false_eq_true, false_imp_iff, true_imp_iff, imp_self, gPv_n, gPv_i, gPv_r, gPv_0, Option.toList_some, Option.toList_none, List.singleton_append, List.cons_append, List.nil_append, List.length_nil, List.length_cons, Nat.zero_le, Nat.reduceAdd, Nat.reduceLeDiff, or_true, true_or, false_or, or_false, and_self, and_false, false_and, implies_true, Option.some.injEq, exists_eq_left', nL, nI_add, nI_mul, nI_clamp, nI_ltI, nI_leI, nI_eq, nI_pos, nI_pos', Nat.reduceAdd, Nat.reduceMul, Nat.reducePow, sk_54 hv, sr_54_2 hv, sr_54_3 hv, sr_54_4 hv, sr_54_5 hv, sr_54_7 hv, sr_54_8 hv, sr_54_9 hv, sr_54_12 hv, sr_54_13 hv, sr_54_14 hv, sr_54_22 hv, sr_54_25 hv, sr_54_26 hv, sr_54_27 hv, sr_54_34 hv, sr_54_35 hv, sr_54_36 hv, sr_54_37 hv, sr_54_38 hv, sr_54_40 hv, sr_54_43 hv, sr_54_44 hv, sr_54_45 hv, sr_54_46 hv, sr_54_47 hv, sk_60 hv, sn_60 hv, z, z1, t1, c', t_small t2, t_digit t2, k1, k2]
          exact t_x2 (d := d + 1) X mid (q - (x + 1)) (x + 1) (by omega) ee
        · have k3 : kd (T x) = 3 := by
            rw [kd] at k1 k2 ⊢
            split
            · rename_i h; rw [if_pos h] at k1; omega
            · rename_i h
              rw [if_neg h] at k2
              split
              · rename_i h2; rw [if_pos h2] at k2; omega
              · rfl
          have ee := en_3 (T := T) (q := q) (p := x) (by omega) k3
          rw [ee] at fin
          have z0 : ¬ x + 1 ≤ x := by omega
          simp (disch := omega) only [e_199_8, e_199_9, e_199_12, e_199_13, e_199_16, e_199_18, e_199_19, e_199_20, e_199_22, e_199_25, e_199_28, e_199_31, e_199_32, e_199_33, e_199_34, e_199_36, e_199_37, e_199_40, e_199_68, e_199_69, e_199_72, e_199_100, e_199_101, e_199_104, e_199_105, e_199_108, e_199_109, e_199_110, e_199_111, e_199_114, e_199_115, e_199_118, e_199_119, e_199_120, e_199_121, e_199_124, e_199_125, e_199_128, e_199_129, e_199_132, e_199_145, e_199_146, e_199_149, e_199_157, e_199_159, e_199_160, e_199_163, e_199_164, e_199_165, e_199_166, e_199_167, e_199_169, e_199_171, e_199_173, e_199_176, e_199_177, e_199_180, e_199_17b hv, n10, n01, Nat.lt_irrefl, Nat.not_lt_zero, ne_eq, Nat.add_zero, Nat.one_ne_zero, Nat.zero_ne_one, Nat.reduceEqDiff, bI_T, bI_F, bI_0, bI_1, bI_01, not_and_self, true_and, and_true, not_true_eq_false, not_false_eq_true, false_imp_iff, true_imp_iff, imp_self, gPv_n, gPv_i, gPv_r, gPv_0, Option.toList_some, Option.toList_none, List.singleton_append, List.cons_append, List.nil_append, List.length_nil, List.length_cons, Nat.zero_le, Nat.reduceAdd, Nat.reduceLeDiff, or_true, true_or, false_or, or_false, and_self, and_false, false_and, implies_true, Option.some.injEq, exists_eq_left', nL, nI_add, nI_mul, nI_clamp, nI_ltI, nI_leI, nI_eq, nI_pos, nI_pos', Nat.reduceAdd, Nat.reduceMul, Nat.reducePow, sk_54 hv, sr_54_2 hv, sr_54_3 hv, sr_54_4 hv, sr_54_5 hv, sr_54_7 hv, sr_54_8 hv, sr_54_9 hv, sr_54_12 hv, sr_54_13 hv, sr_54_14 hv, sr_54_22 hv, sr_54_25 hv, sr_54_26 hv, sr_54_27 hv, sr_54_34 hv, sr_54_35 hv, sr_54_36 hv, sr_54_37 hv, sr_54_38 hv, sr_54_40 hv, sr_54_43 hv, sr_54_44 hv, sr_54_45 hv, sr_54_46 hv, sr_54_47 hv, sk_60 hv, sn_60 hv, sk_62 hv, sn_62 hv, sk_63 hv, sn_63 hv, sk_64 hv, sn_64 hv, n_K_I, n_K_J, n_K_R, n_K_r, n_N_I, n_N_J, n_N_R, n_N_r, n_R_I, n_R_J, n_R_r, n_J_I, n_J_R, n_J_r, n_I_J, n_I_R, n_n_I, n_n_J, n_n_R, n_n_r, n_w_I, n_w_J, n_w_R, n_w_r, n_T_I, n_T_J, n_T_R, n_T_r, rI_ne, rI_nk, rI_eq, rr_ne, rr_eq, n_J_J, n_R_R, Nat.add_left_cancel_iff, Nat.add_right_cancel_iff, Nat.add_eq_left, Nat.left_eq_add, Nat.reduceEqDiff, Nat.reduceAdd, Nat.zero_ne_one, Nat.one_ne_zero, false_and, and_false, true_and, and_true, and_self, if_false, if_true, ↓reduceIte, z, z0, z1, t1, c', t_small t2, t_digit t2, k1, k2, h15, t401, sb_255 (T x) t2]
          refine fin _ _ _ (Sm_I (Sm_I (Sm_I hS (Or.inr (Or.inr (Or.inr rfl)))) (Or.inr (Or.inr (Or.inl rfl)))) (Or.inr (Or.inl rfl))) (fun j hj => by simp (disch := omega) only [rI_ne]; exact hf j hj) (by simp (disch := omega) only [rI_ne]; exact h15) ?_
          intro i hi
          by_cases g : i = t
          · subst g
            rw [cx, vx, cd, if_neg k1, if_neg k2, vP, if_neg k2, sx]
            simp (disch := omega) only [rI_ne, rI_eq, and_self]
          · simp (disch := omega) only [rI_ne, rI_nk]
            exact hT i (by omega)
theorem t_splits (X0 : TxM B q T σ) (K : ∀ τ' n, Sm (spP B) σ τ' → (∀ j, j ≠ 15 → gI τ' (B + 54) j = gI σ (B + 54) j) → gI τ' (B + 54) 15 = nI n → (∀ t, t < n → st T q t < q) → st T q n = q → SpT B T q (n + 1) τ' → Q none τ') : wc (d + 3) 199 [.ref (B + 54), .int (nI q)] σ Q := by
  have hv := X0.1
  simp (disch := omega) only [c_199, e_199_0, e_199_1, e_199_2, e_199_5, e_199_6, n10, n01, Nat.lt_irrefl, Nat.not_lt_zero, ne_eq, Nat.add_zero, Nat.one_ne_zero, Nat.zero_ne_one, Nat.reduceEqDiff, bI_T, bI_F, bI_0, bI_1, bI_01, not_and_self, true_and, and_true, not_true_eq_false, not_false_eq_true, false_imp_iff, true_imp_iff, imp_self, gPv_n, gPv_i, gPv_r, gPv_0, Option.toList_some, Option.toList_none, List.singleton_append, List.cons_append, List.nil_append, List.length_nil, List.length_cons, Nat.zero_le, Nat.reduceAdd, Nat.reduceLeDiff, or_true, true_or, false_or, or_false, and_self, and_false, false_and, implies_true, Option.some.injEq, exists_eq_left', nL, sk_54 hv, sr_54_2 hv, sr_54_3 hv, sr_54_4 hv, sr_54_5 hv, sr_54_7 hv, sr_54_8 hv, sr_54_9 hv, sr_54_12 hv, sr_54_13 hv, sr_54_14 hv, sr_54_22 hv, sr_54_25 hv, sr_54_26 hv, sr_54_27 hv, sr_54_34 hv, sr_54_35 hv, sr_54_36 hv, sr_54_37 hv, sr_54_38 hv, sr_54_40 hv, sr_54_43 hv, sr_54_44 hv, sr_54_45 hv, sr_54_46 hv, sr_54_47 hv]
  have S0 : Sm (spP B) σ (sI σ (B + 54) 15 (nI 0)) := Sm_I (Sm_refl _ _) (Or.inl rfl)
  exact t_spl1 (d := d) X0 K q 0 0 _ _ _ _ (by omega) (by omega) rfl (fun i hi => absurd hi (by omega)) S0 (fun j hj => by rw [rI_nk hj]) (by rw [rI_eq]) (fun i hi => absurd hi (by omega))
end
