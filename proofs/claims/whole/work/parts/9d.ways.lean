/-! ways of the fewest visits: the class -/
theorem n0m (x : Int32) : nI 0 * x = nI 0 := Int32.zero_mul
theorem n1m (x : Int32) : nI 1 * x = x := Int32.one_mul x
theorem na0 (x : Int32) : x + nI 0 = x := Int32.add_zero x
def cs (E : Nat → Nat) (e s : Nat) (C : Nat → Int32) : Nat → Nat → Int32
  | 0, j => C j
  | m + 1, j => if e.testBit m = true ∧ (E m).testBit j = true ∧ s.testBit j = false then cs E e s C m j + C m else cs E e s C m j
theorem cs_s {E : Nat → Nat} {e s j : Nat} {C : Nat → Int32} (h : s.testBit j = true) : ∀ m, cs E e s C m j = C j := by
  intro m
  induction m with
  | zero => rfl
  | succ m ih =>
    rw [cs, if_neg (by rw [h]; simp)]
    exact ih
theorem cs_no {E : Nat → Nat} {e s j m : Nat} {C : Nat → Int32} (h : ¬ (e.testBit m = true ∧ (E m).testBit j = true ∧ s.testBit j = false)) : cs E e s C (m + 1) j = cs E e s C m j := by
  rw [cs, if_neg h]
theorem cs_ye {E : Nat → Nat} {e s j m : Nat} {C : Nat → Int32} (h : e.testBit m = true ∧ (E m).testBit j = true ∧ s.testBit j = false) : cs E e s C (m + 1) j = cs E e s C m j + C m := by
  rw [cs, if_pos h]
def ct (E : Nat → Nat) (n f : Nat) : Nat → Nat → Int32
  | 0, j => if j = f then nI 1 else nI 0
  | d + 1, j => cs E (frs E n (2 ^ f) d) (sq E n (2 ^ f) d) (ct E n f d) 12 j
theorem ct_st {E : Nat → Nat} {n f d j : Nat} (h : (sq E n (2 ^ f) d).testBit j = true) : ∀ k, ct E n f (d + k) j = ct E n f d j := by
  intro k
  induction k with
  | zero => rfl
  | succ k ih =>
    show cs E _ (sq E n (2 ^ f) (d + k)) _ 12 j = _
    rw [cs_s (sq_up h k)]
    exact ih
theorem ad_orU {E : Nat → Nat} {e s : Nat} : ∀ m, orU (fun h => if e.testBit h = true then ad (E h) s else 0) m = ad (orU (fun h => if e.testBit h = true then E h else 0) m) s := by
  intro m
  refine Nat.eq_of_testBit_eq (fun j => ?_)
  rw [Bool.eq_iff_iff, tb_orU, tb_ad, Bool.and_eq_true, tb_orU]
  constructor
  · rintro ⟨h, h1, h2⟩
    by_cases c : e.testBit h = true
    · rw [if_pos c, tb_ad, Bool.and_eq_true] at h2
      exact ⟨⟨h, h1, by rw [if_pos c]; exact h2.1⟩, h2.2⟩
    · rw [if_neg c] at h2
      simp at h2
  · rintro ⟨⟨h, h1, h2⟩, h3⟩
    by_cases c : e.testBit h = true
    · rw [if_pos c] at h2
      exact ⟨h, h1, by rw [if_pos c, tb_ad, h2, h3]; rfl⟩
    · rw [if_neg c] at h2
      simp at h2
section
variable {B : Nat} {own : Nat → Nat} {σ : gS} {A : Nat → Int32} {d : Nat} {Q : Option Value → gS → Prop} {E : Nat → Nat}
def SpI (B : Nat) (E : Nat → Nat) (e s : Nat) (C : Nat → Int32) (h g : Nat) (τ : gS) : Prop := ∀ j, j < 12 → gI τ (B + 34) j = if j < g then cs E e s C (h + 1) j else cs E e s C h j
theorem s_sp1 {e s h mr nx : Nat} {C : Nat → Int32} (hv0 : IvS B σ) (hes : ∀ j, e.testBit j = true → s.testBit j = true) (hh : h < 12) (hm4 : mr < 4096) (hmr : ∀ j, mr.testBit j = true ↔ (e.testBit h = true ∧ (E h).testBit j = true ∧ s.testBit j = false)) (K : ∀ τ' x7, Sm (fun a => a = B + 34) σ τ' → (∀ j, j < 12 → gI τ' (B + 34) j = cs E e s C (h + 1) j) → wp (d + 1) pr_4 Q 90 [some (.ref (B + 33)), some (.ref (B + 29)), some (.int (nI e)), some (.int (nI s)), some (.int (nI nx)), some (.int (nI h)), some (.int (nI mr)), x7] [] τ') : ∀ m g τ, g + m = 12 → Sm (fun a => a = B + 34) σ τ → SpI B E e s C h g τ → wp (d + 1) pr_4 Q 47 [some (.ref (B + 33)), some (.ref (B + 29)), some (.int (nI e)), some (.int (nI s)), some (.int (nI nx)), some (.int (nI h)), some (.int (nI mr)), some (.int (nI g))] [] τ := by
  intro m
  by_cases c0 : mr = 0
  · intro g τ hg hS hI
    have no : ∀ j, cs E e s C (h + 1) j = cs E e s C h j := fun j => cs_no (fun q => by
      have := (hmr j).mpr q
      rw [c0] at this
      simp at this)
    simp (disch := omega) only [e_4_47, e_4_49, n10, n01, Nat.lt_irrefl, Nat.not_lt_zero, ne_eq, Nat.add_zero, Nat.one_ne_zero, Nat.zero_ne_one, Nat.reduceEqDiff, bI_T, bI_F, bI_0, bI_1, bI_01, not_and_self, true_and, and_true, not_true_eq_false, not_false_eq_true, false_imp_iff, true_imp_iff, imp_self, gPv_n, gPv_i, gPv_r, gPv_0, Option.toList_some, Option.toList_none, List.singleton_append, List.cons_append, List.nil_append, List.length_nil, List.length_cons, Nat.zero_le, Nat.reduceAdd, Nat.reduceLeDiff, or_true, true_or, false_or, or_false, and_self, and_false, false_and, implies_true, Option.some.injEq, exists_eq_left', nL, nI_add, nI_mul, nI_clamp, nI_ltI, nI_leI, nI_eq, nI_pos, nI_pos', Nat.reduceAdd, Nat.reduceMul, Nat.reducePow, c0]
    rw [c0] at K
    refine K τ _ hS ?_
    intro j hj
    rw [hI j hj, no j]
    simp
  · induction m with
    | zero =>
      intro g τ hg hS hI
      have e : g = 12 := by omega
      subst e
      simp (disch := omega) only [e_4_47, e_4_49, e_4_52, e_4_54, e_4_56, n10, n01, Nat.lt_irrefl, Nat.not_lt_zero, ne_eq, Nat.add_zero, Nat.one_ne_zero, Nat.zero_ne_one, Nat.reduceEqDiff, bI_T, bI_F, bI_0, bI_1, bI_01, not_and_self, true_and, and_true, not_true_eq_false, not_false_eq_true, false_imp_iff, true_imp_iff, imp_self, gPv_n, gPv_i, gPv_r, gPv_0, Option.toList_some, Option.toList_none, List.singleton_append, List.cons_append, List.nil_append, List.length_nil, List.length_cons, Nat.zero_le, Nat.reduceAdd, Nat.reduceLeDiff, or_true, true_or, false_or, or_false, and_self, and_false, false_and, implies_true, Option.some.injEq, exists_eq_left', nL, nI_add, nI_mul, nI_clamp, nI_ltI, nI_leI, nI_eq, nI_pos, nI_pos', Nat.reduceAdd, Nat.reduceMul, Nat.reducePow, c0, Nat.le_refl]
      refine K τ _ hS ?_
      intro j hj
      rw [hI j hj, if_pos hj]
    | succ m ih =>
      intro g τ hg hS hI
      have hv : IvS B τ := fr_IvS hS.1 hS.2.1 hS.2.2.1 hv0
      have z : ¬ 12 ≤ g := by omega
      have g12 : g < 12 := by omega
      rw [e_4_47]
      cases cb : mr.testBit g
      · have no : cs E e s C (h + 1) g = cs E e s C h g := cs_no (fun q => by
          have := (hmr g).mpr q
          rw [cb] at this
          simp at this)
        simp (disch := omega) only [e_4_49, e_4_52, e_4_54, e_4_56, e_4_59, e_4_60, e_4_63, e_4_65, e_4_66, e_4_67, e_4_69, e_4_71, e_4_74, e_4_75, e_4_78, e_4_80, e_4_81, e_4_82, e_4_83, e_4_84, e_4_87, n10, n01, Nat.lt_irrefl, Nat.not_lt_zero, ne_eq, Nat.add_zero, Nat.one_ne_zero, Nat.zero_ne_one, Nat.reduceEqDiff, bI_T, bI_F, bI_0, bI_1, bI_01, not_and_self, true_and, and_true, not_true_eq_false, not_false_eq_true, false_imp_iff, true_imp_iff, imp_self, gPv_n, gPv_i, gPv_r, gPv_0, Option.toList_some, Option.toList_none, List.singleton_append, List.cons_append, List.nil_append, List.length_nil, List.length_cons, Nat.zero_le, Nat.reduceAdd, Nat.reduceLeDiff, or_true, true_or, false_or, or_false, and_self, and_false, false_and, implies_true, Option.some.injEq, exists_eq_left', nL, nI_add, nI_mul, nI_clamp, nI_ltI, nI_leI, nI_eq, nI_pos, nI_pos', Nat.reduceAdd, Nat.reduceMul, Nat.reducePow, sk_33 hv, sr_33_0 hv, sr_33_1 hv, sr_33_2 hv, sr_33_3 hv, sk_34 hv, sn_34 hv, c0, z, g12, hh, s_bitOf, nI_bit, cb, Bool.false_eq_true, n0m, na0]
        refine ih (g + 1) _ (by omega) (Sm_I hS rfl) ?_
        intro j hj
        by_cases q : j = g
        · subst q
          rw [rI_eq, hI j hj, if_neg (by omega), if_pos (by omega), no]
        · rw [rI_nk q, hI j hj]
          by_cases q2 : j < g
          · rw [if_pos q2, if_pos (by omega)]
          · rw [if_neg q2, if_neg (by omega)]
      · have hq := (hmr g).mp cb
        have ye := cs_ye (C := C) hq
        have hsh := hes h hq.1
        have eh : gI τ (B + 34) h = C h := by
          rw [hI h hh, cs_s hsh, cs_s hsh]
          simp
        have eg : gI τ (B + 34) g = cs E e s C h g := by rw [hI g g12, if_neg (by omega)]
        simp (disch := omega) only [e_4_49, e_4_52, e_4_54, e_4_56, e_4_59, e_4_60, e_4_63, e_4_65, e_4_66, e_4_67, e_4_69, e_4_71, e_4_74, e_4_75, e_4_78, e_4_80, e_4_81, e_4_82, e_4_83, e_4_84, e_4_87, n10, n01, Nat.lt_irrefl, Nat.not_lt_zero, ne_eq, Nat.add_zero, Nat.one_ne_zero, Nat.zero_ne_one, Nat.reduceEqDiff, bI_T, bI_F, bI_0, bI_1, bI_01, not_and_self, true_and, and_true, not_true_eq_false, not_false_eq_true, false_imp_iff, true_imp_iff, imp_self, gPv_n, gPv_i, gPv_r, gPv_0, Option.toList_some, Option.toList_none, List.singleton_append, List.cons_append, List.nil_append, List.length_nil, List.length_cons, Nat.zero_le, Nat.reduceAdd, Nat.reduceLeDiff, or_true, true_or, false_or, or_false, and_self, and_false, false_and, implies_true, Option.some.injEq, exists_eq_left', nL, nI_add, nI_mul, nI_clamp, nI_ltI, nI_leI, nI_eq, nI_pos, nI_pos', Nat.reduceAdd, Nat.reduceMul, Nat.reducePow, sk_33 hv, sr_33_0 hv, sr_33_1 hv, sr_33_2 hv, sr_33_3 hv, sk_34 hv, sn_34 hv, c0, z, g12, hh, s_bitOf, nI_bit, cb, n1m, eh, eg]
        refine ih (g + 1) _ (by omega) (Sm_I hS rfl) ?_
        intro j hj
        by_cases q : j = g
        · subst q
          rw [rI_eq, if_pos (by omega), ye]
        · rw [rI_nk q, hI j hj]
          by_cases q2 : j < g
          · rw [if_pos q2, if_pos (by omega)]
          · rw [if_neg q2, if_neg (by omega)]
theorem s_sp2 {e s : Nat} {C : Nat → Int32} (hv0 : IvS B σ) (hE : ∀ h, E h < 4096) (he4 : e < 4096) (hR : ∀ j, j < 12 → gI σ (B + 29) j = nI (E j)) (hes : ∀ j, e.testBit j = true → s.testBit j = true) (K : ∀ τ', Sm (fun a => a = B + 34) σ τ' → (∀ j, j < 12 → gI τ' (B + 34) j = cs E e s C 12 j) → Q (some (.int (nI (orU (fun h => if e.testBit h = true then ad (E h) s else 0) 12)))) τ') : ∀ m h τ x6 x7, h + m = 12 → Sm (fun a => a = B + 34) σ τ → (∀ j, j < 12 → gI τ (B + 34) j = cs E e s C h j) → wp (d + 1) pr_4 Q 6 [some (.ref (B + 33)), some (.ref (B + 29)), some (.int (nI e)), some (.int (nI s)), some (.int (nI (orU (fun h => if e.testBit h = true then ad (E h) s else 0) h))), some (.int (nI h)), x6, x7] [] τ := by
  intro m
  induction m with
  | zero =>
    intro h τ x6 x7 hh hS hI
    have e : h = 12 := by omega
    subst e
    simp (disch := omega) only [e_4_6, e_4_8, e_4_10, e_4_103, e_4_105, n10, n01, Nat.lt_irrefl, Nat.not_lt_zero, ne_eq, Nat.add_zero, Nat.one_ne_zero, Nat.zero_ne_one, Nat.reduceEqDiff, bI_T, bI_F, bI_0, bI_1, bI_01, not_and_self, true_and, and_true, not_true_eq_false, not_false_eq_true, false_imp_iff, true_imp_iff, imp_self, gPv_n, gPv_i, gPv_r, gPv_0, Option.toList_some, Option.toList_none, List.singleton_append, List.cons_append, List.nil_append, List.length_nil, List.length_cons, Nat.zero_le, Nat.reduceAdd, Nat.reduceLeDiff, or_true, true_or, false_or, or_false, and_self, and_false, false_and, implies_true, Option.some.injEq, exists_eq_left', nL, nI_add, nI_mul, nI_clamp, nI_ltI, nI_leI, nI_eq, nI_pos, nI_pos', Nat.reduceAdd, Nat.reduceMul, Nat.reducePow, Nat.le_refl]
    exact K τ hS hI
  | succ m ih =>
    intro h τ x6 x7 hh hS hI
    have hv : IvS B τ := fr_IvS hS.1 hS.2.1 hS.2.2.1 hv0
    have k29 := sk_29 hv
    have z : ¬ 12 ≤ h := by omega
    have h12 : h < 12 := by omega
    have er : gI τ (B + 29) h = nI (E h) := by rw [hS.2.2.2.2.2.2.1 _ (by omega)]; exact hR h h12
    have nxt : ∀ mr, (orU (fun h => if e.testBit h = true then ad (E h) s else 0) (h + 1)) = (orU (fun h => if e.testBit h = true then ad (E h) s else 0) h) ||| mr → ∀ τ' x7, Sm (fun a => a = B + 34) σ τ' → (∀ j, j < 12 → gI τ' (B + 34) j = cs E e s C (h + 1) j) → wp (d + 1) pr_4 Q 90 [some (.ref (B + 33)), some (.ref (B + 29)), some (.int (nI e)), some (.int (nI s)), some (.int (nI (orU (fun h => if e.testBit h = true then ad (E h) s else 0) h))), some (.int (nI h)), some (.int (nI mr)), x7] [] τ' := by
      intro mr hmr τ' x7 hS' hI'
      simp (disch := omega) only [e_4_90, e_4_92, e_4_94, e_4_95, e_4_97, e_4_100, n10, n01, Nat.lt_irrefl, Nat.not_lt_zero, ne_eq, Nat.add_zero, Nat.one_ne_zero, Nat.zero_ne_one, Nat.reduceEqDiff, bI_T, bI_F, bI_0, bI_1, bI_01, not_and_self, true_and, and_true, not_true_eq_false, not_false_eq_true, false_imp_iff, true_imp_iff, imp_self, gPv_n, gPv_i, gPv_r, gPv_0, Option.toList_some, Option.toList_none, List.singleton_append, List.cons_append, List.nil_append, List.length_nil, List.length_cons, Nat.zero_le, Nat.reduceAdd, Nat.reduceLeDiff, or_true, true_or, false_or, or_false, and_self, and_false, false_and, implies_true, Option.some.injEq, exists_eq_left', nL, nI_add, nI_or]
      rw [← hmr]
      exact ih (h + 1) τ' _ _ (by omega) hS' hI'
    rw [e_4_6]
    cases ce : e.testBit h
    · simp (disch := omega) only [e_4_8, e_4_10, e_4_13, e_4_15, e_4_15n, e_4_16, e_4_17, e_4_20, e_4_21, e_4_23, e_4_26, e_4_27, e_4_30, e_4_30n, e_4_31, e_4_33, e_4_34, e_4_35, e_4_36, e_4_37, e_4_38, e_4_41, e_4_42, e_4_44, e_4_45, n10, n01, Nat.lt_irrefl, Nat.not_lt_zero, ne_eq, Nat.add_zero, Nat.one_ne_zero, Nat.zero_ne_one, Nat.reduceEqDiff, bI_T, bI_F, bI_0, bI_1, bI_01, not_and_self, true_and, and_true, not_true_eq_false, not_false_eq_true, false_imp_iff, true_imp_iff, imp_self, gPv_n, gPv_i, gPv_r, gPv_0, Option.toList_some, Option.toList_none, List.singleton_append, List.cons_append, List.nil_append, List.length_nil, List.length_cons, Nat.zero_le, Nat.reduceAdd, Nat.reduceLeDiff, or_true, true_or, false_or, or_false, and_self, and_false, false_and, implies_true, Option.some.injEq, exists_eq_left', nL, nI_add, nI_mul, nI_clamp, nI_ltI, nI_leI, nI_eq, nI_pos, nI_pos', Nat.reduceAdd, Nat.reduceMul, Nat.reducePow, sk_29 hv, sn_29 hv, nI_of_len, z, s_bitOf, nI_bit, ce, Bool.false_eq_true]
      refine s_sp1 (C := C) hv0 hes h12 (mr := 0) (by omega) ?_ (nxt 0 ?_) 12 0 τ (by omega) hS ?_
      · intro j
        rw [ce]
        simp
      · simp only [orU, ce, Bool.false_eq_true, if_false]
      · intro j hj
        rw [hI j hj, if_neg (by omega)]
    · simp (disch := omega) only [e_4_8, e_4_10, e_4_13, e_4_15, e_4_15n, e_4_16, e_4_17, e_4_20, e_4_21, e_4_23, e_4_26, e_4_27, e_4_30, e_4_30n, e_4_31, e_4_33, e_4_34, e_4_35, e_4_36, e_4_37, e_4_38, e_4_41, e_4_42, e_4_44, e_4_45, n10, n01, Nat.lt_irrefl, Nat.not_lt_zero, ne_eq, Nat.add_zero, Nat.one_ne_zero, Nat.zero_ne_one, Nat.reduceEqDiff, bI_T, bI_F, bI_0, bI_1, bI_01, not_and_self, true_and, and_true, not_true_eq_false, not_false_eq_true, false_imp_iff, true_imp_iff, imp_self, gPv_n, gPv_i, gPv_r, gPv_0, Option.toList_some, Option.toList_none, List.singleton_append, List.cons_append, List.nil_append, List.length_nil, List.length_cons, Nat.zero_le, Nat.reduceAdd, Nat.reduceLeDiff, or_true, true_or, false_or, or_false, and_self, and_false, false_and, implies_true, Option.some.injEq, exists_eq_left', nL, nI_add, nI_mul, nI_clamp, nI_ltI, nI_leI, nI_eq, nI_pos, nI_pos', Nat.reduceAdd, Nat.reduceMul, Nat.reducePow, sk_29 hv, sn_29 hv, nI_of_len, z, h12, s_bitOf, nI_bit, ce, er, nI_ad]
      refine s_sp1 (C := C) hv0 hes h12 (mr := ad (E h) s) (ad_lt (hE h)) ?_ (nxt (ad (E h) s) ?_) 12 0 τ (by omega) hS ?_
      · intro j
        rw [tb_ad, ce, Bool.and_eq_true]
        simp
      · simp only [orU, ce, if_true]
      · intro j hj
        rw [hI j hj, if_neg (by omega)]
theorem s_spread {e s : Nat} {C : Nat → Int32} (hv0 : IvS B σ) (hE : ∀ h, E h < 4096) (he4 : e < 4096) (hR : ∀ j, j < 12 → gI σ (B + 29) j = nI (E j)) (hes : ∀ j, e.testBit j = true → s.testBit j = true) (hC : ∀ j, j < 12 → gI σ (B + 34) j = C j) (K : ∀ τ', Sm (fun a => a = B + 34) σ τ' → (∀ j, j < 12 → gI τ' (B + 34) j = cs E e s C 12 j) → Q (some (.int (nI (orU (fun h => if e.testBit h = true then ad (E h) s else 0) 12)))) τ') : wc (d + 2) 4 [.ref (B + 33), .ref (B + 29), .int (nI e), .int (nI s)] σ Q := by
  simp (disch := omega) only [c_4, e_4_0, e_4_1, e_4_3, e_4_4, n10, n01, Nat.lt_irrefl, Nat.not_lt_zero, ne_eq, Nat.add_zero, Nat.one_ne_zero, Nat.zero_ne_one, Nat.reduceEqDiff, bI_T, bI_F, bI_0, bI_1, bI_01, not_and_self, true_and, and_true, not_true_eq_false, not_false_eq_true, false_imp_iff, true_imp_iff, imp_self, gPv_n, gPv_i, gPv_r, gPv_0, Option.toList_some, Option.toList_none, List.singleton_append, List.cons_append, List.nil_append, List.length_nil, List.length_cons, Nat.zero_le, Nat.reduceAdd, Nat.reduceLeDiff, or_true, true_or, false_or, or_false, and_self, and_false, false_and, implies_true, Option.some.injEq, exists_eq_left', nL]
  exact s_sp2 (C := C) hv0 hE he4 hR hes K 12 0 σ _ _ (by omega) (Sm_refl _ _) hC
/-- the fewest visits, and in how many ways -/
def ctO (E : Nat → Nat) (n f t : Nat) : Int32 := match dyO E n (2 ^ f) t 12 with
  | none => nI 0
  | some d => ct E n f d t
abbrev cwP (B a : Nat) : Prop := a = B + 33 ∨ a = B + 34
theorem frs_0 {f n : Nat} : frs E n (2 ^ f) 0 = 2 ^ f := by
  refine Nat.eq_of_testBit_eq (fun j => ?_)
  rw [tb_ad]
  simp [prv, sq]
theorem s_cw {f t : Nat} (h : Ctx B own σ A) (hE : EdG A E) (hR : ∀ j, j < 12 → gI σ (B + 29) j = nI (E j)) (hf : f < hn A) (ht : t < hn A) (K : ∀ τ', Sm (cwP B) σ τ' → gI τ' (B + 33) 4 = foI (dyO E (hn A) (2 ^ f) t 12) → gI τ' (B + 33) 5 = ctO E (hn A) f t → Q none τ') : ∀ m dd τ, dd + m = 12 → Sm (cwP B) σ τ → (∀ j, j < 12 → gI τ (B + 34) j = ct E (hn A) f dd j) → gI τ (B + 33) 4 = -nI 1 → gI τ (B + 33) 5 = nI 0 → dyO E (hn A) (2 ^ f) t dd = none → wp (d + 2) pr_3 Q 66 [some (.ref (B + 33)), some (.ref (B + 29)), some (.int (nI f)), some (.int (nI t)), some (.int (nI (frs E (hn A) (2 ^ f) dd))), some (.int (nI (sq E (hn A) (2 ^ f) dd))), some (.int (nI dd))] [] τ := by
  have wh : Wh A := h.2.1.1.1
  have h12 := hn_le wh
  have f2 : 2 ^ f < 4096 := Nat.pow_lt_pow_right (by decide) (show f < 12 by omega)
  have hcS : ∀ τ, Sm (cwP B) σ τ → Ctx B own τ A := fun τ hS => Ctx_S h (Sm_mono hS (fun a ha => by simp only [cwP] at ha; omega))
  intro m
  induction m with
  | zero =>
    intro dd τ hd hS hC h4 h5 hN
    have e : dd = 12 := by omega
    subst e
    simp (disch := omega) only [e_3_66, e_3_68, e_3_70, e_3_129, n10, n01, Nat.lt_irrefl, Nat.not_lt_zero, ne_eq, Nat.add_zero, Nat.one_ne_zero, Nat.zero_ne_one, Nat.reduceEqDiff, bI_T, bI_F, bI_0, bI_1, bI_01, not_and_self, true_and, and_true, not_true_eq_false, not_false_eq_true, false_imp_iff, true_imp_iff, imp_self, gPv_n, gPv_i, gPv_r, gPv_0, Option.toList_some, Option.toList_none, List.singleton_append, List.cons_append, List.nil_append, List.length_nil, List.length_cons, Nat.zero_le, Nat.reduceAdd, Nat.reduceLeDiff, or_true, true_or, false_or, or_false, and_self, and_false, false_and, implies_true, Option.some.injEq, exists_eq_left', nL, nI_add, nI_mul, nI_clamp, nI_ltI, nI_leI, nI_eq, nI_pos, nI_pos', Nat.reduceAdd, Nat.reduceMul, Nat.reducePow, Nat.le_refl]
    exact K τ hS (by rw [h4, hN]; rfl) (by rw [h5, ctO, hN])
  | succ m ih =>
    intro dd τ hd hS hC h4 h5 hN
    have hv := (hcS τ hS).1
    have z : ¬ 12 ≤ dd := by omega
    have fl4 : frs E (hn A) (2 ^ f) dd < 4096 := ad_lt (sq_lt hE.1 f2 dd)
    rw [e_3_66]
    by_cases c0 : frs E (hn A) (2 ^ f) dd = 0
    · simp (disch := omega) only [e_3_68, e_3_70, e_3_73, e_3_75, e_3_129, n10, n01, Nat.lt_irrefl, Nat.not_lt_zero, ne_eq, Nat.add_zero, Nat.one_ne_zero, Nat.zero_ne_one, Nat.reduceEqDiff, bI_T, bI_F, bI_0, bI_1, bI_01, not_and_self, true_and, and_true, not_true_eq_false, not_false_eq_true, false_imp_iff, true_imp_iff, imp_self, gPv_n, gPv_i, gPv_r, gPv_0, Option.toList_some, Option.toList_none, List.singleton_append, List.cons_append, List.nil_append, List.length_nil, List.length_cons, Nat.zero_le, Nat.reduceAdd, Nat.reduceLeDiff, or_true, true_or, false_or, or_false, and_self, and_false, false_and, implies_true, Option.some.injEq, exists_eq_left', nL, nI_add, nI_mul, nI_clamp, nI_ltI, nI_leI, nI_eq, nI_pos, nI_pos', Nat.reduceAdd, Nat.reduceMul, Nat.reducePow, z, c0]
      have q := (dy_fr (h := t) c0 (show dd ≤ 12 by omega)).trans hN
      exact K τ hS (by rw [h4, q]; rfl) (by rw [h5, ctO, q])
    · cases cb : (frs E (hn A) (2 ^ f) dd).testBit t
      · simp (disch := omega) only [e_3_68, e_3_70, e_3_73, e_3_75, e_3_78, e_3_80, e_3_81, e_3_84, e_3_85, e_3_88, e_3_89, e_3_91, e_3_94, e_3_95, e_3_96, e_3_99, e_3_100, e_3_101, e_3_104, e_3_105, e_3_106, e_3_106n, e_3_107, e_3_109, e_3_111, n10, n01, Nat.lt_irrefl, Nat.not_lt_zero, ne_eq, Nat.add_zero, Nat.one_ne_zero, Nat.zero_ne_one, Nat.reduceEqDiff, bI_T, bI_F, bI_0, bI_1, bI_01, not_and_self, true_and, and_true, not_true_eq_false, not_false_eq_true, false_imp_iff, true_imp_iff, imp_self, gPv_n, gPv_i, gPv_r, gPv_0, Option.toList_some, Option.toList_none, List.singleton_append, List.cons_append, List.nil_append, List.length_nil, List.length_cons, Nat.zero_le, Nat.reduceAdd, Nat.reduceLeDiff, or_true, true_or, false_or, or_false, and_self, and_false, false_and, implies_true, Option.some.injEq, exists_eq_left', nL, nI_add, nI_mul, nI_clamp, nI_ltI, nI_leI, nI_eq, nI_pos, nI_pos', Nat.reduceAdd, Nat.reduceMul, Nat.reducePow, sk_33 hv, sr_33_0 hv, sr_33_1 hv, sr_33_2 hv, sr_33_3 hv, z, c0, s_bitOf, nI_bit, cb, Bool.false_eq_true]
        refine s_spread (C := ct E (hn A) f dd) hv hE.1 fl4 (fun j hj => by rw [hS.2.2.2.2.2.2.1 _ (by simp only [cwP]; omega)]; exact hR j hj) ?_ hC ?_
        · intro j hj
          rw [tb_ad, Bool.and_eq_true] at hj
          exact hj.1
        · intro τ' hS' hC'
          obtain ⟨n1, n2⟩ := frs_next (S := 2 ^ f) (dd := dd) h12 hE.2.1
          rw [ad_orU, n1]
          have hS2 : Sm (cwP B) σ τ' := Sm_trans hS (Sm_mono hS' (fun a ha => Or.inr ha))
          have e33 : gI τ' (B + 33) = gI τ (B + 33) := hS'.2.2.2.2.2.2.1 _ (by omega)
          simp (disch := omega) only [e_3_114, e_3_116, e_3_118, e_3_120, e_3_121, e_3_123, e_3_126, n10, n01, Nat.lt_irrefl, Nat.not_lt_zero, ne_eq, Nat.add_zero, Nat.one_ne_zero, Nat.zero_ne_one, Nat.reduceEqDiff, bI_T, bI_F, bI_0, bI_1, bI_01, not_and_self, true_and, and_true, not_true_eq_false, not_false_eq_true, false_imp_iff, true_imp_iff, imp_self, gPv_n, gPv_i, gPv_r, gPv_0, Option.toList_some, Option.toList_none, List.singleton_append, List.cons_append, List.nil_append, List.length_nil, List.length_cons, Nat.zero_le, Nat.reduceAdd, Nat.reduceLeDiff, or_true, true_or, false_or, or_false, and_self, and_false, false_and, implies_true, Option.some.injEq, exists_eq_left', nL, nI_add, nI_or, n2]
          refine ih (dd + 1) τ' (by omega) hS2 hC' (by rw [e33]; exact h4) (by rw [e33]; exact h5) ?_
          rw [dy_no ?_]
          · exact hN
          · cases q : (sq E (hn A) (2 ^ f) dd).testBit t
            · rfl
            · exfalso
              rw [tb_ad, q] at cb
              have p : (prv E (hn A) (2 ^ f) dd).testBit t = true := by simpa using cb
              cases dd with
              | zero => simp [prv] at p
              | succ d' =>
                have := fo_none _ _ hN d' (by omega) (by omega)
                have p' : (sq E (hn A) (2 ^ f) d').testBit t = true := p
                rw [p'] at this
                exact absurd this (by simp)
      · have t12 : t < 12 := by omega
        have et := hC t t12
        simp (disch := omega) only [e_3_68, e_3_70, e_3_73, e_3_75, e_3_78, e_3_80, e_3_81, e_3_84, e_3_85, e_3_88, e_3_89, e_3_91, e_3_94, e_3_95, e_3_96, e_3_99, e_3_100, e_3_101, e_3_104, n10, n01, Nat.lt_irrefl, Nat.not_lt_zero, ne_eq, Nat.add_zero, Nat.one_ne_zero, Nat.zero_ne_one, Nat.reduceEqDiff, bI_T, bI_F, bI_0, bI_1, bI_01, not_and_self, true_and, and_true, not_true_eq_false, not_false_eq_true, false_imp_iff, true_imp_iff, imp_self, gPv_n, gPv_i, gPv_r, gPv_0, Option.toList_some, Option.toList_none, List.singleton_append, List.cons_append, List.nil_append, List.length_nil, List.length_cons, Nat.zero_le, Nat.reduceAdd, Nat.reduceLeDiff, or_true, true_or, false_or, or_false, and_self, and_false, false_and, implies_true, Option.some.injEq, exists_eq_left', nL, nI_add, nI_mul, nI_clamp, nI_ltI, nI_leI, nI_eq, nI_pos, nI_pos', Nat.reduceAdd, Nat.reduceMul, Nat.reducePow, sk_33 hv, sr_33_0 hv, sr_33_1 hv, sr_33_2 hv, sr_33_3 hv, sk_34 hv, sn_34 hv, n_K_I, n_K_J, n_K_R, n_K_r, n_N_I, n_N_J, n_N_R, n_N_r, n_R_I, n_R_J, n_R_r, n_J_I, n_J_R, n_J_r, n_I_J, n_I_R, n_n_I, n_n_J, n_n_R, n_n_r, n_w_I, n_w_J, n_w_R, n_w_r, n_T_I, n_T_J, n_T_R, n_T_r, rI_ne, rI_nk, rI_eq, rr_ne, rr_eq, n_J_J, n_R_R, Nat.add_left_cancel_iff, Nat.add_right_cancel_iff, Nat.add_eq_left, Nat.left_eq_add, Nat.reduceEqDiff, Nat.reduceAdd, Nat.zero_ne_one, Nat.one_ne_zero, false_and, and_false, true_and, and_true, and_self, if_false, if_true, ↓reduceIte, z, c0, t12, s_bitOf, nI_bit, cb, et]
        have sq1 : (sq E (hn A) (2 ^ f) dd).testBit t = true := by
          rw [tb_ad, Bool.and_eq_true] at cb
          exact cb.1
        have q : dyO E (hn A) (2 ^ f) t 12 = some dd := by
          obtain ⟨k, hk⟩ : ∃ k, 12 = dd + (k + 1) := ⟨11 - dd, by omega⟩
          rw [dyO, hk, fo_add]
          have hN' : fo (fun d => (sq E (hn A) (2 ^ f) d).testBit t) dd 0 = none := hN
          rw [hN', Option.none_or, Nat.zero_add, fo, if_pos sq1]
        refine K _ (Sm_I (Sm_I hS (Or.inl rfl)) (Or.inl rfl)) ?_ ?_
        · rw [rI_nk (by omega), rI_eq, q]; rfl
        · rw [rI_eq, ctO, q]
theorem s_countWays {f t : Nat} (h : Ctx B own σ A) (hE : EdG A E) (hR : ∀ j, j < 12 → gI σ (B + 29) j = nI (E j)) (hf : f < hn A) (ht : t < hn A) (K : ∀ τ', Sm (cwP B) σ τ' → gI τ' (B + 33) 4 = (if sM A f = true then foI (dyO E (hn A) (2 ^ f) t 12) else -nI 1) → gI τ' (B + 33) 5 = (if sM A f = true then ctO E (hn A) f t else nI 0) → Q none τ') : wc (d + 3) 3 [.ref (B + 33), .ref (B + 29), .int (nI f), .int (nI t)] σ Q := by
  have wh : Wh A := h.2.1.1.1
  have h12 := hn_le wh
  have hv := h.1
  have f11 : f ≤ 11 := by omega
  have t11 : t ≤ 11 := by omega
  have f12 : f < 12 := by omega
  simp (disch := first | omega | (simp only [IvS_I, IvS_J, IvS_r]; assumption)) only [c_3, e_3_0, e_3_1, e_3_2, e_3_5, e_3_6, e_3_7, e_3_10, e_3_11, e_3_12, e_3_14, e_3_17, e_3_20, e_3_21, e_3_22, e_3_24, e_3_27, e_3_30, e_3_31, e_3_32, e_3_35, e_3_36, n10, n01, Nat.lt_irrefl, Nat.not_lt_zero, ne_eq, Nat.add_zero, Nat.one_ne_zero, Nat.zero_ne_one, Nat.reduceEqDiff, bI_T, bI_F, bI_0, bI_1, bI_01, not_and_self, true_and, and_true, not_true_eq_false, not_false_eq_true, false_imp_iff, true_imp_iff, imp_self, gPv_n, gPv_i, gPv_r, gPv_0, Option.toList_some, Option.toList_none, List.singleton_append, List.cons_append, List.nil_append, List.length_nil, List.length_cons, Nat.zero_le, Nat.reduceAdd, Nat.reduceLeDiff, or_true, true_or, false_or, or_false, and_self, and_false, false_and, implies_true, Option.some.injEq, exists_eq_left', nL, nI_add, nI_mul, nI_clamp, nI_ltI, nI_leI, nI_eq, nI_pos, nI_pos', Nat.reduceAdd, Nat.reduceMul, Nat.reducePow, n_K_I, n_K_J, n_K_R, n_K_r, n_N_I, n_N_J, n_N_R, n_N_r, n_R_I, n_R_J, n_R_r, n_J_I, n_J_R, n_J_r, n_I_J, n_I_R, n_n_I, n_n_J, n_n_R, n_n_r, n_w_I, n_w_J, n_w_R, n_w_r, n_T_I, n_T_J, n_T_R, n_T_r, rI_ne, rI_nk, rI_eq, rr_ne, rr_eq, n_J_J, n_R_R, Nat.add_left_cancel_iff, Nat.add_right_cancel_iff, Nat.add_eq_left, Nat.left_eq_add, Nat.reduceEqDiff, Nat.reduceAdd, Nat.zero_ne_one, Nat.one_ne_zero, false_and, and_false, true_and, and_true, and_self, if_false, if_true, ↓reduceIte, sk_33 hv, sr_33_0 hv, sr_33_1 hv, sr_33_2 hv, sr_33_3 hv, s_within, f11, t11]
  refine s_fill (r := B + 34) (L := 12) ?_ ?_ (by omega) ?_
  · simp only [n_K_I]; exact sk_34 hv
  · simp only [n_N_I]; exact sn_34 hv
  intro τ hS hF
  have hS1 : Sm (cwP B) σ τ := Sm_trans (Sm_I (Sm_I (Sm_refl _ _) (Or.inl rfl)) (Or.inl rfl)) (Sm_mono hS (fun a ha => Or.inr ha))
  have hcT : Ctx B own τ A := Ctx_S h (Sm_mono hS1 (fun a ha => by simp only [cwP] at ha; omega))
  have hv1 := hcT.1
  have e33 : ∀ j, gI τ (B + 33) j = gI (sI (sI σ (B + 33) 4 (-nI 1)) (B + 33) 5 (nI 0)) (B + 33) j := fun j => by rw [hS.2.2.2.2.2.2.1 _ (by omega)]
  have h4 : gI τ (B + 33) 4 = -nI 1 := by rw [e33, rI_nk (by omega), rI_eq]
  have h5 : gI τ (B + 33) 5 = nI 0 := by rw [e33, rI_eq]
  have s6 : gI τ (B + 1) 6 = nI (mkN (St A) (hn A)) := hcT.2.1.2.1.1.2.1
  cases cs : sM A f
  · have e0 : 2 ^ f &&& mkN (St A) (hn A) = 0 := by
      refine Nat.eq_of_testBit_eq (fun j => ?_)
      rw [Nat.testBit_and, Nat.testBit_two_pow, Nat.zero_testBit]
      by_cases q : f = j
      · subst q
        have cs' : (mkN (St A) (hn A)).testBit f = false := cs
        rw [cs']
        simp
      · simp [q]
    rw [cs] at K
    have sh : nI 1 <<< (nI f &&& nI 31) &&& nI (mkN (St A) (hn A)) = nI 0 := by rw [nI_shl (by omega), Nat.one_mul, nI_and, e0]
    simp only [Bool.false_eq_true, if_false] at K
    simp (disch := omega) only [e_3_39, e_3_40, e_3_43, e_3_44, e_3_45, e_3_46, e_3_47, e_3_48, e_3_49, e_3_50, e_3_53, e_3_56, e_3_57, e_3_59, e_3_61, e_3_63, e_3_64, e_3_66, e_3_68, e_3_70, e_3_73, e_3_75, e_3_129, n10, n01, Nat.lt_irrefl, Nat.not_lt_zero, ne_eq, Nat.add_zero, Nat.one_ne_zero, Nat.zero_ne_one, Nat.reduceEqDiff, bI_T, bI_F, bI_0, bI_1, bI_01, not_and_self, true_and, and_true, not_true_eq_false, not_false_eq_true, false_imp_iff, true_imp_iff, imp_self, gPv_n, gPv_i, gPv_r, gPv_0, Option.toList_some, Option.toList_none, List.singleton_append, List.cons_append, List.nil_append, List.length_nil, List.length_cons, Nat.zero_le, Nat.reduceAdd, Nat.reduceLeDiff, or_true, true_or, false_or, or_false, and_self, and_false, false_and, implies_true, Option.some.injEq, exists_eq_left', nL, nI_add, nI_mul, nI_clamp, nI_ltI, nI_leI, nI_eq, nI_pos, nI_pos', Nat.reduceAdd, Nat.reduceMul, Nat.reducePow, sk_1 hv1, sr_1_0 hv1, sr_1_1 hv1, sr_1_2 hv1, sr_1_3 hv1, sr_1_4 hv1, sr_1_7 hv1, sr_1_9 hv1, sr_1_14 hv1, sr_1_15 hv1, sr_1_16 hv1, sk_33 hv1, sr_33_0 hv1, sr_33_1 hv1, sr_33_2 hv1, sr_33_3 hv1, sk_34 hv1, sn_34 hv1, n_K_I, n_K_J, n_K_R, n_K_r, n_N_I, n_N_J, n_N_R, n_N_r, n_R_I, n_R_J, n_R_r, n_J_I, n_J_R, n_J_r, n_I_J, n_I_R, n_n_I, n_n_J, n_n_R, n_n_r, n_w_I, n_w_J, n_w_R, n_w_r, n_T_I, n_T_J, n_T_R, n_T_r, rI_ne, rI_nk, rI_eq, rr_ne, rr_eq, n_J_J, n_R_R, Nat.add_left_cancel_iff, Nat.add_right_cancel_iff, Nat.add_eq_left, Nat.left_eq_add, Nat.reduceEqDiff, Nat.reduceAdd, Nat.zero_ne_one, Nat.one_ne_zero, false_and, and_false, true_and, and_true, and_self, if_false, if_true, ↓reduceIte, f12, s6, sh]
    exact K _ (Sm_I hS1 (Or.inr rfl)) (by rw [rI_ne (by omega)]; exact h4) (by rw [rI_ne (by omega)]; exact h5)
  · have e0 : 2 ^ f &&& mkN (St A) (hn A) = 2 ^ f := by
      refine Nat.eq_of_testBit_eq (fun j => ?_)
      rw [Nat.testBit_and, Nat.testBit_two_pow]
      by_cases q : f = j
      · subst q
        have cs' : (mkN (St A) (hn A)).testBit f = true := cs
        rw [cs']
        simp
      · simp [q]
    rw [cs] at K
    simp only [if_true] at K
    have c := s_cw (d := d) (Q := Q) h hE hR hf ht K 12 0 (sI τ (B + 34) f (nI 1)) (by omega) (Sm_I hS1 (Or.inr rfl)) ?_ (by rw [rI_ne (by omega)]; exact h4) (by rw [rI_ne (by omega)]; exact h5) rfl
    · rw [frs_0] at c
      have c : wp (d + 2) pr_3 Q 66 [some (.ref (B + 33)), some (.ref (B + 29)), some (.int (nI f)), some (.int (nI t)), some (.int (nI (2 ^ f))), some (.int (nI (2 ^ f))), some (.int (nI 0))] [] (sI τ (B + 34) f (nI 1)) := c
      have sh : nI 1 <<< (nI f &&& nI 31) &&& nI (mkN (St A) (hn A)) = nI (2 ^ f) := by rw [nI_shl (by omega), Nat.one_mul, nI_and, e0]
      simp (disch := omega) only [e_3_39, e_3_40, e_3_43, e_3_44, e_3_45, e_3_46, e_3_47, e_3_48, e_3_49, e_3_50, e_3_53, e_3_56, e_3_57, e_3_59, e_3_61, e_3_63, e_3_64, n10, n01, Nat.lt_irrefl, Nat.not_lt_zero, ne_eq, Nat.add_zero, Nat.one_ne_zero, Nat.zero_ne_one, Nat.reduceEqDiff, bI_T, bI_F, bI_0, bI_1, bI_01, not_and_self, true_and, and_true, not_true_eq_false, not_false_eq_true, false_imp_iff, true_imp_iff, imp_self, gPv_n, gPv_i, gPv_r, gPv_0, Option.toList_some, Option.toList_none, List.singleton_append, List.cons_append, List.nil_append, List.length_nil, List.length_cons, Nat.zero_le, Nat.reduceAdd, Nat.reduceLeDiff, or_true, true_or, false_or, or_false, and_self, and_false, false_and, implies_true, Option.some.injEq, exists_eq_left', nL, nI_add, nI_mul, nI_clamp, nI_ltI, nI_leI, nI_eq, nI_pos, nI_pos', Nat.reduceAdd, Nat.reduceMul, Nat.reducePow, sk_1 hv1, sr_1_0 hv1, sr_1_1 hv1, sr_1_2 hv1, sr_1_3 hv1, sr_1_4 hv1, sr_1_7 hv1, sr_1_9 hv1, sr_1_14 hv1, sr_1_15 hv1, sr_1_16 hv1, sk_33 hv1, sr_33_0 hv1, sr_33_1 hv1, sr_33_2 hv1, sr_33_3 hv1, sk_34 hv1, sn_34 hv1, n_K_I, n_K_J, n_K_R, n_K_r, n_N_I, n_N_J, n_N_R, n_N_r, n_R_I, n_R_J, n_R_r, n_J_I, n_J_R, n_J_r, n_I_J, n_I_R, n_n_I, n_n_J, n_n_R, n_n_r, n_w_I, n_w_J, n_w_R, n_w_r, n_T_I, n_T_J, n_T_R, n_T_r, rI_ne, rI_nk, rI_eq, rr_ne, rr_eq, n_J_J, n_R_R, Nat.add_left_cancel_iff, Nat.add_right_cancel_iff, Nat.add_eq_left, Nat.left_eq_add, Nat.reduceEqDiff, Nat.reduceAdd, Nat.zero_ne_one, Nat.one_ne_zero, false_and, and_false, true_and, and_true, and_self, if_false, if_true, ↓reduceIte, f12, s6, sh]
      exact c
    · intro j hj
      by_cases q : j = f
      · rw [q, rI_eq, ct, if_pos rfl]
      · rw [rI_nk q, hF j hj, ct, if_neg q]
end
