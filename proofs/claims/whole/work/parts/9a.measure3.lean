/-! the class's measure: all houses -/
section
variable {B : Nat} {own : Nat → Nat} {σ : gS} {A : Nat → Int32} {d : Nat} {Q : Option Value → gS → Prop} {M : Nat → Nat → Nat}
theorem s_ms {r : Nat} {x3 x4 : Option Value} (hv : IvS B σ) (hL : ∀ i j, M i j ≤ 16777216) (K : ∀ τ', Sm (fun a => a = B + 32) σ τ' → (∀ a b, a < 12 → b < 12 → gI τ' (B + 32) (12 * a + b) = nI (fl M 12 a b)) → Q none τ') : ∀ m k τ, k + m = 12 → Sm (fun a => a = B + 32) σ τ → (∀ a b, a < 12 → b < 12 → gI τ (B + 32) (12 * a + b) = nI (fl M k a b)) → wp (d + 2) pr_91 Q 155 [some (.ref (B + 25)), some (.ref r), some (.int (nI k)), x3, x4] [] τ := by
  intro m
  induction m with
  | zero =>
    intro k τ hk hS hI
    have e : k = 12 := by omega
    subst e
    simp (disch := omega) only [e_91_155, e_91_156, e_91_158, e_91_172, n10, n01, Nat.lt_irrefl, Nat.not_lt_zero, ne_eq, Nat.add_zero, Nat.one_ne_zero, Nat.zero_ne_one, Nat.reduceEqDiff, bI_T, bI_F, bI_0, bI_1, bI_01, not_and_self, true_and, and_true, not_true_eq_false, not_false_eq_true, false_imp_iff, true_imp_iff, imp_self, gPv_n, gPv_i, gPv_r, gPv_0, Option.toList_some, Option.toList_none, List.singleton_append, List.cons_append, List.nil_append, List.length_nil, List.length_cons, Nat.zero_le, Nat.reduceAdd, Nat.reduceLeDiff, or_true, true_or, false_or, or_false, and_self, and_false, false_and, implies_true, Option.some.injEq, exists_eq_left', nL, nI_add, nI_mul, nI_clamp, nI_ltI, nI_leI, nI_eq, nI_pos, nI_pos', Nat.reduceAdd, Nat.reduceMul, Nat.reducePow, Nat.le_refl]
    exact K τ hS hI
  | succ m ih =>
    intro k τ hk hS hI
    have hvT : IvS B τ := fr_IvS hS.1 hS.2.1 hS.2.2.1 hv
    have z : ¬ 12 ≤ k := by omega
    rw [e_91_155]
    simp (disch := omega) only [e_91_156, e_91_158, e_91_161, e_91_162, e_91_163, n10, n01, Nat.lt_irrefl, Nat.not_lt_zero, ne_eq, Nat.add_zero, Nat.one_ne_zero, Nat.zero_ne_one, Nat.reduceEqDiff, bI_T, bI_F, bI_0, bI_1, bI_01, not_and_self, true_and, and_true, not_true_eq_false, not_false_eq_true, false_imp_iff, true_imp_iff, imp_self, gPv_n, gPv_i, gPv_r, gPv_0, Option.toList_some, Option.toList_none, List.singleton_append, List.cons_append, List.nil_append, List.length_nil, List.length_cons, Nat.zero_le, Nat.reduceAdd, Nat.reduceLeDiff, or_true, true_or, false_or, or_false, and_self, and_false, false_and, implies_true, Option.some.injEq, exists_eq_left', nL, nI_add, nI_mul, nI_clamp, nI_ltI, nI_leI, nI_eq, nI_pos, nI_pos', Nat.reduceAdd, Nat.reduceMul, Nat.reducePow, sk_25 hvT, sr_25_0 hvT, sr_25_1 hvT, sr_25_2 hvT, sr_25_3 hvT, sr_25_4 hvT, sr_25_5 hvT, z]
    refine s_shortenBy (d := d) hvT hL (by omega) hI ?_
    intro τ' hS' hI'
    simp (disch := omega) only [e_91_166, e_91_169, n10, n01, Nat.lt_irrefl, Nat.not_lt_zero, ne_eq, Nat.add_zero, Nat.one_ne_zero, Nat.zero_ne_one, Nat.reduceEqDiff, bI_T, bI_F, bI_0, bI_1, bI_01, not_and_self, true_and, and_true, not_true_eq_false, not_false_eq_true, false_imp_iff, true_imp_iff, imp_self, gPv_n, gPv_i, gPv_r, gPv_0, Option.toList_some, Option.toList_none, List.singleton_append, List.cons_append, List.nil_append, List.length_nil, List.length_cons, Nat.zero_le, Nat.reduceAdd, Nat.reduceLeDiff, or_true, true_or, false_or, or_false, and_self, and_false, false_and, implies_true, Option.some.injEq, exists_eq_left', nL, nI_add]
    exact ih (k + 1) τ' (by omega) (Sm_trans hS hS') hI'
end
