/-! the class's measure: shortenBy, whole -/
section
variable {B : Nat} {own : Nat → Nat} {σ : gS} {A : Nat → Int32} {d : Nat} {Q : Option Value → gS → Prop} {M : Nat → Nat → Nat}
theorem s_sh2 {k : Nat} (hv : IvS B σ) (hL : ∀ i j, M i j ≤ 16777216) (hk : k < 12) (K : ∀ τ', Sm (fun a => a = B + 32) σ τ' → (∀ a b, a < 12 → b < 12 → gI τ' (B + 32) (12 * a + b) = nI (fl M (k + 1) a b)) → Q none τ') : ∀ m i τ (x3 x4 x5 : Option Value), i + m = 12 → Sm (fun a => a = B + 32) σ τ → ShI B M k i 0 τ → wp (d + 1) pr_92 Q 13 [some (.ref (B + 25)), some (.int (nI k)), some (.int (nI i)), x3, x4, x5] [] τ := by
  intro m
  induction m with
  | zero =>
    intro i τ x3 x4 x5 hi hS hI
    have e : i = 12 := by omega
    subst e
    simp (disch := omega) only [e_92_13, e_92_14, e_92_16, e_92_106, n10, n01, Nat.lt_irrefl, Nat.not_lt_zero, ne_eq, Nat.add_zero, Nat.one_ne_zero, Nat.zero_ne_one, Nat.reduceEqDiff, bI_T, bI_F, bI_0, bI_1, bI_01, not_and_self, true_and, and_true, not_true_eq_false, not_false_eq_true, false_imp_iff, true_imp_iff, imp_self, gPv_n, gPv_i, gPv_r, gPv_0, Option.toList_some, Option.toList_none, List.singleton_append, List.cons_append, List.nil_append, List.length_nil, List.length_cons, Nat.zero_le, Nat.reduceAdd, Nat.reduceLeDiff, or_true, true_or, false_or, or_false, and_self, and_false, false_and, implies_true, Option.some.injEq, exists_eq_left', nL, nI_add, nI_mul, nI_clamp, nI_ltI, nI_leI, nI_eq, nI_pos, nI_pos', Nat.reduceAdd, Nat.reduceMul, Nat.reducePow, Nat.le_refl]
    refine K τ hS ?_
    intro a b ha hb
    rw [hI a b ha hb, if_pos (by omega)]
  | succ m ih =>
    intro i τ x3 x4 x5 hi hS hI
    have hvT : IvS B τ := fr_IvS hS.1 hS.2.1 hS.2.2.1 hv
    have z : ¬ 12 ≤ i := by omega
    have z1 : 12 * i + k < 144 := by omega
    have z1' : i * 12 + k = 12 * i + k := by omega
    have e1 : gI τ (B + 32) (12 * i + k) = nI (fl M k i k) := by
      rw [hI i k (by omega) hk, if_neg (by omega)]
    rw [e_92_13]
    simp (disch := omega) only [e_92_14, e_92_16, e_92_19, e_92_20, e_92_23, e_92_24, e_92_26, e_92_27, e_92_28, e_92_29, e_92_30, e_92_31, e_92_32, n10, n01, Nat.lt_irrefl, Nat.not_lt_zero, ne_eq, Nat.add_zero, Nat.one_ne_zero, Nat.zero_ne_one, Nat.reduceEqDiff, bI_T, bI_F, bI_0, bI_1, bI_01, not_and_self, true_and, and_true, not_true_eq_false, not_false_eq_true, false_imp_iff, true_imp_iff, imp_self, gPv_n, gPv_i, gPv_r, gPv_0, Option.toList_some, Option.toList_none, List.singleton_append, List.cons_append, List.nil_append, List.length_nil, List.length_cons, Nat.zero_le, Nat.reduceAdd, Nat.reduceLeDiff, or_true, true_or, false_or, or_false, and_self, and_false, false_and, implies_true, Option.some.injEq, exists_eq_left', nL, nI_add, nI_mul, nI_clamp, nI_ltI, nI_leI, nI_eq, nI_pos, nI_pos', Nat.reduceAdd, Nat.reduceMul, Nat.reducePow, sk_25 hvT, sr_25_0 hvT, sr_25_1 hvT, sr_25_2 hvT, sr_25_3 hvT, sr_25_4 hvT, sr_25_5 hvT, sk_32 hvT, sn_32 hvT, z, z1, z1', e1]
    refine s_sh1 hv hL hk (by omega) ?_ 12 0 τ _ (by omega) hS hI
    intro τ' x4 x5 hS' hI'
    simp (disch := omega) only [e_92_100, e_92_103, n10, n01, Nat.lt_irrefl, Nat.not_lt_zero, ne_eq, Nat.add_zero, Nat.one_ne_zero, Nat.zero_ne_one, Nat.reduceEqDiff, bI_T, bI_F, bI_0, bI_1, bI_01, not_and_self, true_and, and_true, not_true_eq_false, not_false_eq_true, false_imp_iff, true_imp_iff, imp_self, gPv_n, gPv_i, gPv_r, gPv_0, Option.toList_some, Option.toList_none, List.singleton_append, List.cons_append, List.nil_append, List.length_nil, List.length_cons, Nat.zero_le, Nat.reduceAdd, Nat.reduceLeDiff, or_true, true_or, false_or, or_false, and_self, and_false, false_and, implies_true, Option.some.injEq, exists_eq_left', nL, nI_add]
    exact ih (i + 1) τ' _ _ _ (by omega) hS' (ShI_n hI')
theorem s_shortenBy {k : Nat} (hv : IvS B σ) (hL : ∀ i j, M i j ≤ 16777216) (hk : k < 12) (hM : ∀ a b, a < 12 → b < 12 → gI σ (B + 32) (12 * a + b) = nI (fl M k a b)) (K : ∀ τ', Sm (fun a => a = B + 32) σ τ' → (∀ a b, a < 12 → b < 12 → gI τ' (B + 32) (12 * a + b) = nI (fl M (k + 1) a b)) → Q none τ') : wc (d + 2) 92 [.ref (B + 25), .int (nI k)] σ Q := by
  have k11 : k ≤ 11 := by omega
  simp (disch := omega) only [c_92, e_92_0, e_92_1, e_92_2, e_92_4, e_92_7, e_92_10, e_92_11, e_92_12, n10, n01, Nat.lt_irrefl, Nat.not_lt_zero, ne_eq, Nat.add_zero, Nat.one_ne_zero, Nat.zero_ne_one, Nat.reduceEqDiff, bI_T, bI_F, bI_0, bI_1, bI_01, not_and_self, true_and, and_true, not_true_eq_false, not_false_eq_true, false_imp_iff, true_imp_iff, imp_self, gPv_n, gPv_i, gPv_r, gPv_0, Option.toList_some, Option.toList_none, List.singleton_append, List.cons_append, List.nil_append, List.length_nil, List.length_cons, Nat.zero_le, Nat.reduceAdd, Nat.reduceLeDiff, or_true, true_or, false_or, or_false, and_self, and_false, false_and, implies_true, Option.some.injEq, exists_eq_left', nL, nI_add, nI_mul, nI_clamp, nI_ltI, nI_leI, nI_eq, nI_pos, nI_pos', Nat.reduceAdd, Nat.reduceMul, Nat.reducePow, s_within, k11]
  refine s_sh2 hv hL hk K 12 0 σ _ _ _ (by omega) (Sm_refl _ _) ?_
  intro a b ha hb
  rw [hM a b ha hb, if_neg (by omega)]
end
