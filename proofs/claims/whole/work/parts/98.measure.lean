/-! the class's measure: shortenBy -/
section
variable {B : Nat} {own : Nat → Nat} {σ : gS} {A : Nat → Int32} {d : Nat} {Q : Option Value → gS → Prop} {M : Nat → Nat → Nat}
def ShI (B : Nat) (M : Nat → Nat → Nat) (k i j : Nat) (τ : gS) : Prop := ∀ a b, a < 12 → b < 12 → gI τ (B + 32) (12 * a + b) = nI (if a < i ∨ a = i ∧ b < j then fl M (k + 1) a b else fl M k a b)
theorem ShI_n {k i : Nat} {τ : gS} (h : ShI B M k i 12 τ) : ShI B M k (i + 1) 0 τ := by
  intro a b ha hb
  rw [h a b ha hb]
  by_cases c : a < i ∨ a = i ∧ b < 12
  · rw [if_pos c, if_pos (by omega)]
  · rw [if_neg c, if_neg (by omega)]
theorem ShI_L {k i j : Nat} {τ : gS} (h : ShI B M k i j τ) (hL : ∀ i j, M i j ≤ 16777216) (hi : 16777216 ≤ fl M k i k) : ShI B M k i 12 τ := by
  intro a b ha hb
  rw [h a b ha hb]
  by_cases c : a < i ∨ a = i ∧ b < j
  · rw [if_pos c, if_pos (by omega)]
  · rw [if_neg c]
    by_cases c2 : a < i ∨ a = i ∧ b < 12
    · have e : a = i := by omega
      subst e
      have l1 := fl_le (M := M) (k := k) (i := a) (j := b)
      have l2 := hL a b
      rw [if_pos c2, fl_s, Nat.min_eq_left (by omega)]
    · rw [if_neg c2]
theorem s_sh1 {k i : Nat} (hv : IvS B σ) (hL : ∀ i j, M i j ≤ 16777216) (hk : k < 12) (hi : i < 12) (K : ∀ τ' x4 x5, Sm (fun a => a = B + 32) σ τ' → ShI B M k i 12 τ' → wp (d + 1) pr_92 Q 100 [some (.ref (B + 25)), some (.int (nI k)), some (.int (nI i)), some (.int (nI (fl M k i k))), x4, x5] [] τ') : ∀ m j τ (x5 : Option Value), j + m = 12 → Sm (fun a => a = B + 32) σ τ → ShI B M k i j τ → wp (d + 1) pr_92 Q 34 [some (.ref (B + 25)), some (.int (nI k)), some (.int (nI i)), some (.int (nI (fl M k i k))), some (.int (nI j)), x5] [] τ := by
  have l1 := fl_le (M := M) (k := k) (i := i) (j := k)
  have l2 := hL i k
  intro m
  induction m with
  | zero =>
    intro j τ x5 hj hS hI
    have e : j = 12 := by omega
    subst e
    by_cases c : 16777216 ≤ fl M k i k
    · simp (disch := omega) only [e_92_34, e_92_35, e_92_37, n10, n01, Nat.lt_irrefl, Nat.not_lt_zero, ne_eq, Nat.add_zero, Nat.one_ne_zero, Nat.zero_ne_one, Nat.reduceEqDiff, bI_T, bI_F, bI_0, bI_1, bI_01, not_and_self, true_and, and_true, not_true_eq_false, not_false_eq_true, false_imp_iff, true_imp_iff, imp_self, gPv_n, gPv_i, gPv_r, gPv_0, Option.toList_some, Option.toList_none, List.singleton_append, List.cons_append, List.nil_append, List.length_nil, List.length_cons, Nat.zero_le, Nat.reduceAdd, Nat.reduceLeDiff, or_true, true_or, false_or, or_false, and_self, and_false, false_and, implies_true, Option.some.injEq, exists_eq_left', nL, nI_add, nI_mul, nI_clamp, nI_ltI, nI_leI, nI_eq, nI_pos, nI_pos', Nat.reduceAdd, Nat.reduceMul, Nat.reducePow, c]
      exact K τ _ _ hS hI
    · simp (disch := omega) only [e_92_34, e_92_35, e_92_37, e_92_40, e_92_42, e_92_44, n10, n01, Nat.lt_irrefl, Nat.not_lt_zero, ne_eq, Nat.add_zero, Nat.one_ne_zero, Nat.zero_ne_one, Nat.reduceEqDiff, bI_T, bI_F, bI_0, bI_1, bI_01, not_and_self, true_and, and_true, not_true_eq_false, not_false_eq_true, false_imp_iff, true_imp_iff, imp_self, gPv_n, gPv_i, gPv_r, gPv_0, Option.toList_some, Option.toList_none, List.singleton_append, List.cons_append, List.nil_append, List.length_nil, List.length_cons, Nat.zero_le, Nat.reduceAdd, Nat.reduceLeDiff, or_true, true_or, false_or, or_false, and_self, and_false, false_and, implies_true, Option.some.injEq, exists_eq_left', nL, nI_add, nI_mul, nI_clamp, nI_ltI, nI_leI, nI_eq, nI_pos, nI_pos', Nat.reduceAdd, Nat.reduceMul, Nat.reducePow, c, Nat.le_refl]
      exact K τ _ _ hS hI
  | succ m ih =>
    intro j τ x5 hj hS hI
    have hvT : IvS B τ := fr_IvS hS.1 hS.2.1 hS.2.2.1 hv
    have z : ¬ 12 ≤ j := by omega
    have z1 : 12 * k + j < 144 := by omega
    have z2 : 12 * i + j < 144 := by omega
    have z1' : k * 12 + j = 12 * k + j := by omega
    have z2' : i * 12 + j = 12 * i + j := by omega
    have l3 := fl_le (M := M) (k := k) (i := k) (j := j)
    have l4 := hL k j
    have l5 := fl_le (M := M) (k := k) (i := i) (j := j)
    have l6 := hL i j
    have e1 : gI τ (B + 32) (12 * k + j) = nI (fl M k k j) := by
      rw [hI k j hk (by omega), fl_row]
      simp
    have e2 : gI τ (B + 32) (12 * i + j) = nI (fl M k i j) := by
      rw [hI i j hi (by omega), if_neg (by omega)]
    rw [e_92_34]
    by_cases c : 16777216 ≤ fl M k i k
    · simp (disch := omega) only [e_92_35, e_92_37, n10, n01, Nat.lt_irrefl, Nat.not_lt_zero, ne_eq, Nat.add_zero, Nat.one_ne_zero, Nat.zero_ne_one, Nat.reduceEqDiff, bI_T, bI_F, bI_0, bI_1, bI_01, not_and_self, true_and, and_true, not_true_eq_false, not_false_eq_true, false_imp_iff, true_imp_iff, imp_self, gPv_n, gPv_i, gPv_r, gPv_0, Option.toList_some, Option.toList_none, List.singleton_append, List.cons_append, List.nil_append, List.length_nil, List.length_cons, Nat.zero_le, Nat.reduceAdd, Nat.reduceLeDiff, or_true, true_or, false_or, or_false, and_self, and_false, false_and, implies_true, Option.some.injEq, exists_eq_left', nL, nI_add, nI_mul, nI_clamp, nI_ltI, nI_leI, nI_eq, nI_pos, nI_pos', Nat.reduceAdd, Nat.reduceMul, Nat.reducePow, c]
      exact K τ _ _ hS (ShI_L hI hL c)
    · by_cases c2 : fl M k i j ≤ fl M k i k + fl M k k j
      · simp (disch := omega) only [e_92_35, e_92_37, e_92_40, e_92_42, e_92_44, e_92_47, e_92_48, e_92_49, e_92_52, e_92_53, e_92_55, e_92_56, e_92_58, e_92_59, e_92_60, e_92_61, e_92_63, e_92_65, e_92_66, e_92_69, e_92_70, e_92_72, e_92_73, e_92_75, e_92_76, e_92_77, e_92_80, e_92_81, e_92_84, e_92_85, e_92_87, e_92_88, e_92_90, e_92_91, e_92_93, e_92_94, e_92_97, n10, n01, Nat.lt_irrefl, Nat.not_lt_zero, ne_eq, Nat.add_zero, Nat.one_ne_zero, Nat.zero_ne_one, Nat.reduceEqDiff, bI_T, bI_F, bI_0, bI_1, bI_01, not_and_self, true_and, and_true, not_true_eq_false, not_false_eq_true, false_imp_iff, true_imp_iff, imp_self, gPv_n, gPv_i, gPv_r, gPv_0, Option.toList_some, Option.toList_none, List.singleton_append, List.cons_append, List.nil_append, List.length_nil, List.length_cons, Nat.zero_le, Nat.reduceAdd, Nat.reduceLeDiff, or_true, true_or, false_or, or_false, and_self, and_false, false_and, implies_true, Option.some.injEq, exists_eq_left', nL, nI_add, nI_mul, nI_clamp, nI_ltI, nI_leI, nI_eq, nI_pos, nI_pos', Nat.reduceAdd, Nat.reduceMul, Nat.reducePow, sk_25 hvT, sr_25_0 hvT, sr_25_1 hvT, sr_25_2 hvT, sr_25_3 hvT, sr_25_4 hvT, sr_25_5 hvT, sk_32 hvT, sn_32 hvT, c, c2, z, z1, z2, z1', z2', e1, e2]
        refine ih (j + 1) τ _ (by omega) hS ?_
        intro a b ha hb
        rw [hI a b ha hb]
        by_cases q : a = i ∧ b = j
        · rw [if_neg (by omega), if_pos (by omega), q.1, q.2, fl_s, Nat.min_eq_left c2]
        · by_cases q2 : a < i ∨ a = i ∧ b < j
          · rw [if_pos q2, if_pos (by omega)]
          · rw [if_neg q2, if_neg (by omega)]
      · simp (disch := omega) only [e_92_35, e_92_37, e_92_40, e_92_42, e_92_44, e_92_47, e_92_48, e_92_49, e_92_52, e_92_53, e_92_55, e_92_56, e_92_58, e_92_59, e_92_60, e_92_61, e_92_63, e_92_65, e_92_66, e_92_69, e_92_70, e_92_72, e_92_73, e_92_75, e_92_76, e_92_77, e_92_80, e_92_81, e_92_84, e_92_85, e_92_87, e_92_88, e_92_90, e_92_91, e_92_93, e_92_94, e_92_97, n10, n01, Nat.lt_irrefl, Nat.not_lt_zero, ne_eq, Nat.add_zero, Nat.one_ne_zero, Nat.zero_ne_one, Nat.reduceEqDiff, bI_T, bI_F, bI_0, bI_1, bI_01, not_and_self, true_and, and_true, not_true_eq_false, not_false_eq_true, false_imp_iff, true_imp_iff, imp_self, gPv_n, gPv_i, gPv_r, gPv_0, Option.toList_some, Option.toList_none, List.singleton_append, List.cons_append, List.nil_append, List.length_nil, List.length_cons, Nat.zero_le, Nat.reduceAdd, Nat.reduceLeDiff, or_true, true_or, false_or, or_false, and_self, and_false, false_and, implies_true, Option.some.injEq, exists_eq_left', nL, nI_add, nI_mul, nI_clamp, nI_ltI, nI_leI, nI_eq, nI_pos, nI_pos', Nat.reduceAdd, Nat.reduceMul, Nat.reducePow, sk_25 hvT, sr_25_0 hvT, sr_25_1 hvT, sr_25_2 hvT, sr_25_3 hvT, sr_25_4 hvT, sr_25_5 hvT, sk_32 hvT, sn_32 hvT, c, c2, z, z1, z2, z1', z2', e1, e2]
        refine ih (j + 1) _ _ (by omega) (Sm_I hS rfl) ?_
        intro a b ha hb
        by_cases q : a = i ∧ b = j
        · rw [q.1, q.2, rI_eq, if_pos (by omega), fl_s, Nat.min_eq_right (by omega)]
        · rw [rI_nk (by omega), hI a b ha hb]
          by_cases q2 : a < i ∨ a = i ∧ b < j
          · rw [if_pos q2, if_pos (by omega)]
          · rw [if_neg q2, if_neg (by omega)]
end
