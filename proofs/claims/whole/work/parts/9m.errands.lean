/-! rounds: the class lists errands -/
section
variable {B : Nat} {own : Nat → Nat} {σ : gS} {A : Nat → Int32} {d v : Nat} {Q : Option Value → gS → Prop}
abbrev erP (B a : Nat) : Prop := a = B + 45 ∨ a = B + 46 ∨ a = B + 48
/-- the first q errands, of those below i -/
def ErF (b i q : Nat) (e : Nat → Nat) : Prop := q = cn (fun j => b.testBit j) i 0 ∧ (∀ j, j < q → e j < i ∧ b.testBit (e j) = true) ∧ (∀ x y, x < y → y < q → e x < e y) ∧ ∀ j, j < i → b.testBit j = true → ∃ t, t < q ∧ e t = j
theorem ErF_n {b i q : Nat} {e : Nat → Nat} (h : ErF b i q e) (hb : b.testBit i = false) : ErF b (i + 1) q e := by
  obtain ⟨h1, h2, h3, h4⟩ := h
  refine ⟨by rw [cn_s, hb]; simpa using h1, fun j hj => ⟨by have := (h2 j hj).1; omega, (h2 j hj).2⟩, h3, ?_⟩
  intro j hj hj2
  by_cases c : j = i
  · rw [c, hb] at hj2; exact absurd hj2 (by simp)
  · exact h4 j (by omega) hj2
theorem ErF_y {b i q : Nat} {e : Nat → Nat} (h : ErF b i q e) (hb : b.testBit i = true) : ErF b (i + 1) (q + 1) (un e q i) := by
  obtain ⟨h1, h2, h3, h4⟩ := h
  refine ⟨by rw [cn_s, if_pos hb, ← h1], ?_, ?_, ?_⟩
  · intro j hj
    by_cases c : j = q
    · rw [c, un_eq]; exact ⟨by omega, hb⟩
    · rw [un_ne c]
      have := h2 j (by omega)
      exact ⟨by omega, this.2⟩
  · intro x y hxy hy
    by_cases c : y = q
    · rw [c, un_eq, un_ne (by omega)]
      exact (h2 x (by omega)).1
    · rw [un_ne c, un_ne (by omega)]
      exact h3 x y hxy (by omega)
  · intro j hj hj2
    by_cases c : j = i
    · exact ⟨q, by omega, by rw [un_eq, c]⟩
    · obtain ⟨t, t1, t2⟩ := h4 j (by omega) hj2
      exact ⟨t, by omega, by rw [un_ne (by omega)]; exact t2⟩
theorem s_er1 {h b : Nat} (hv0 : IvS B σ) (hb : b < 4096) (hbh : b.testBit h = false) (hh : h < 12) (K : ∀ τ' e q x3 x4, Sm (erP B) σ τ' → (∀ j, j ≠ 6 → gI τ' (B + 45) j = gI σ (B + 45) j) → gI τ' (B + 45) 6 = nI q → q ≤ 11 → ErF b 12 q e → (∀ j, j < q → gI τ' (B + 46) j = nI (e j)) → wp (d + 1) pr_75 Q 52 [some (.ref (B + 45)), some (.int (nI h)), some (.int (nI b)), x3, x4] [] τ') : ∀ m i τ e q x4, i + m = 12 → Sm (erP B) σ τ → (∀ j, j ≠ 6 → gI τ (B + 45) j = gI σ (B + 45) j) → gI τ (B + 45) 6 = nI q → ErF b i q e → (∀ j, j < q → gI τ (B + 46) j = nI (e j)) → wp (d + 1) pr_75 Q 2 [some (.ref (B + 45)), some (.int (nI h)), some (.int (nI b)), some (.int (nI i)), x4] [] τ := by
  have tot : cn (fun j => b.testBit j) 12 0 ≤ 11 := by
    have := cn_st (C := fun j => b.testBit j) (C' := fun _ => true) (fun _ _ => rfl) (k := h) hbh rfl 12 0 (by omega) (by omega)
    have g := cn_le (fun _ => true) 12 0
    omega
  intro m
  induction m with
  | zero =>
    intro i τ e q x4 hi hS hf h6 hE hR
    have ei : i = 12 := by omega
    subst ei
    simp (disch := omega) only [e_75_2, e_75_3, e_75_5, n10, n01, Nat.lt_irrefl, Nat.not_lt_zero, ne_eq, Nat.add_zero, Nat.one_ne_zero, Nat.zero_ne_one, Nat.reduceEqDiff, bI_T, bI_F, bI_0, bI_1, bI_01, not_and_self, true_and, and_true, not_true_eq_false, not_false_eq_true, false_imp_iff, true_imp_iff, imp_self, gPv_n, gPv_i, gPv_r, gPv_0, Option.toList_some, Option.toList_none, List.singleton_append, List.cons_append, List.nil_append, List.length_nil, List.length_cons, Nat.zero_le, Nat.reduceAdd, Nat.reduceLeDiff, or_true, true_or, false_or, or_false, and_self, and_false, false_and, implies_true, Option.some.injEq, exists_eq_left', nL, nI_add, nI_mul, nI_clamp, nI_ltI, nI_leI, nI_eq, nI_pos, nI_pos', Nat.reduceAdd, Nat.reduceMul, Nat.reducePow, Nat.le_refl]
    exact K τ e q _ _ hS hf h6 (by rw [hE.1]; exact tot) hE hR
  | succ m ih =>
    intro i τ e q x4 hi hS hf h6 hE hR
    have hv : IvS B τ := fr_IvS hS.1 hS.2.1 hS.2.2.1 hv0
    have z : ¬ 12 ≤ i := by omega
    rw [e_75_2]
    cases c : b.testBit i
    · simp (disch := omega) only [e_75_3, e_75_5, e_75_8, e_75_9, e_75_10, e_75_13, e_75_14, e_75_46, e_75_49, n10, n01, Nat.lt_irrefl, Nat.not_lt_zero, ne_eq, Nat.add_zero, Nat.one_ne_zero, Nat.zero_ne_one, Nat.reduceEqDiff, bI_T, bI_F, bI_0, bI_1, bI_01, not_and_self, true_and, and_true, not_true_eq_false, not_false_eq_true, false_imp_iff, true_imp_iff, imp_self, gPv_n, gPv_i, gPv_r, gPv_0, Option.toList_some, Option.toList_none, List.singleton_append, List.cons_append, List.nil_append, List.length_nil, List.length_cons, Nat.zero_le, Nat.reduceAdd, Nat.reduceLeDiff, or_true, true_or, false_or, or_false, and_self, and_false, false_and, implies_true, Option.some.injEq, exists_eq_left', nL, nI_add, nI_mul, nI_clamp, nI_ltI, nI_leI, nI_eq, nI_pos, nI_pos', Nat.reduceAdd, Nat.reduceMul, Nat.reducePow, z, s_bitOf, nI_bit, c, Bool.false_eq_true]
      exact ih (i + 1) τ e q _ (by omega) hS hf h6 (ErF_n hE c) hR
    · have hq1 := (ErF_y hE c).1
      have mono : cn (fun j => b.testBit j) (i + 1) 0 ≤ cn (fun j => b.testBit j) 12 0 := by
        obtain ⟨t, ht⟩ : ∃ t, 12 = i + 1 + t := ⟨11 - i, by omega⟩
        have g := cn_add (fun j => b.testBit j) (i + 1) t 0
        rw [← ht] at g
        omega
      have q11 : ¬ 11 ≤ q := by omega
      have q12 : q < 12 := by omega
      simp (disch := omega) only [e_75_3, e_75_5, e_75_8, e_75_9, e_75_10, e_75_13, e_75_14, e_75_17, e_75_18, e_75_21, e_75_23, e_75_26, e_75_27, e_75_30, e_75_31, e_75_34, e_75_35, e_75_36, e_75_37, e_75_37n, e_75_38, e_75_41, e_75_42, e_75_43, e_75_46, e_75_49, n10, n01, Nat.lt_irrefl, Nat.not_lt_zero, ne_eq, Nat.add_zero, Nat.one_ne_zero, Nat.zero_ne_one, Nat.reduceEqDiff, bI_T, bI_F, bI_0, bI_1, bI_01, not_and_self, true_and, and_true, not_true_eq_false, not_false_eq_true, false_imp_iff, true_imp_iff, imp_self, gPv_n, gPv_i, gPv_r, gPv_0, Option.toList_some, Option.toList_none, List.singleton_append, List.cons_append, List.nil_append, List.length_nil, List.length_cons, Nat.zero_le, Nat.reduceAdd, Nat.reduceLeDiff, or_true, true_or, false_or, or_false, and_self, and_false, false_and, implies_true, Option.some.injEq, exists_eq_left', nL, nI_add, nI_mul, nI_clamp, nI_ltI, nI_leI, nI_eq, nI_pos, nI_pos', Nat.reduceAdd, Nat.reduceMul, Nat.reducePow, sk_45 hv, sr_45_0 hv, sr_45_1 hv, sr_45_2 hv, sr_45_3 hv, sr_45_4 hv, sk_46 hv, sn_46 hv, n_K_I, n_K_J, n_K_R, n_K_r, n_N_I, n_N_J, n_N_R, n_N_r, n_R_I, n_R_J, n_R_r, n_J_I, n_J_R, n_J_r, n_I_J, n_I_R, n_n_I, n_n_J, n_n_R, n_n_r, n_w_I, n_w_J, n_w_R, n_w_r, n_T_I, n_T_J, n_T_R, n_T_r, rI_ne, rI_nk, rI_eq, rr_ne, rr_eq, n_J_J, n_R_R, Nat.add_left_cancel_iff, Nat.add_right_cancel_iff, Nat.add_eq_left, Nat.left_eq_add, Nat.reduceEqDiff, Nat.reduceAdd, Nat.zero_ne_one, Nat.one_ne_zero, false_and, and_false, true_and, and_true, and_self, if_false, if_true, ↓reduceIte, z, s_bitOf, nI_bit, c, h6, q11, q12]
      refine ih (i + 1) _ (un e q i) (q + 1) _ (by omega) (Sm_I (Sm_I hS (Or.inr (Or.inl rfl))) (Or.inl rfl)) ?_ ?_ (ErF_y hE c) ?_
      · intro j hj
        rw [rI_nk hj, rI_ne (by omega)]
        exact hf j hj
      · rw [rI_eq]
      · intro j hj
        rw [rI_ne (by omega)]
        by_cases g : j = q
        · rw [g, rI_eq, un_eq]
        · rw [rI_nk g, un_ne g]
          exact hR j (by omega)
def TmI (B : Nat) (A : Nat → Int32) (e : Nat → Nat) (q i j : Nat) (τ : gS) : Prop := ∀ x y, x ≤ q → y ≤ q → (x < i ∨ x = i ∧ y < j) → gI τ (B + 48) (12 * x + y) = nI (dM A (e x) (e y))
theorem s_er2 {h b q i : Nat} {e : Nat → Nat} (hv0 : IvS B σ) (hM : MsO B A σ) (hq : q ≤ 11) (h6 : gI σ (B + 45) 6 = nI q) (hR : ∀ j, j ≤ q → gI σ (B + 46) j = nI (e j) ∧ e j < 12) (hD : ∀ x y, x ≤ q → y ≤ q → dM A (e x) (e y) < 1000000) (hi : i ≤ q) (K : ∀ τ' x4, Sm (fun a => a = B + 48) σ τ' → TmI B A e q (i + 1) 0 τ' → wp (d + 3) pr_75 Q 122 [some (.ref (B + 45)), some (.int (nI h)), some (.int (nI b)), some (.int (nI i)), x4] [] τ') : ∀ m j τ, j + m = q + 1 → Sm (fun a => a = B + 48) σ τ → TmI B A e q i j τ → wp (d + 3) pr_75 Q 75 [some (.ref (B + 45)), some (.int (nI h)), some (.int (nI b)), some (.int (nI i)), some (.int (nI j))] [] τ := by
  intro m
  induction m with
  | zero =>
    intro j τ hj hS hI
    have hv : IvS B τ := fr_IvS hS.1 hS.2.1 hS.2.2.1 hv0
    have e6 : gI τ (B + 45) 6 = nI q := by rw [hS.2.2.2.2.2.2.1 _ (by omega)]; exact h6
    have z : q < j := by omega
    simp (disch := omega) only [e_75_75, e_75_77, e_75_78, e_75_81, n10, n01, Nat.lt_irrefl, Nat.not_lt_zero, ne_eq, Nat.add_zero, Nat.one_ne_zero, Nat.zero_ne_one, Nat.reduceEqDiff, bI_T, bI_F, bI_0, bI_1, bI_01, not_and_self, true_and, and_true, not_true_eq_false, not_false_eq_true, false_imp_iff, true_imp_iff, imp_self, gPv_n, gPv_i, gPv_r, gPv_0, Option.toList_some, Option.toList_none, List.singleton_append, List.cons_append, List.nil_append, List.length_nil, List.length_cons, Nat.zero_le, Nat.reduceAdd, Nat.reduceLeDiff, or_true, true_or, false_or, or_false, and_self, and_false, false_and, implies_true, Option.some.injEq, exists_eq_left', nL, nI_add, nI_mul, nI_clamp, nI_ltI, nI_leI, nI_eq, nI_pos, nI_pos', Nat.reduceAdd, Nat.reduceMul, Nat.reducePow, sk_45 hv, sr_45_0 hv, sr_45_1 hv, sr_45_2 hv, sr_45_3 hv, sr_45_4 hv, e6, z]
    refine K τ _ hS ?_
    intro x y hx hy hxy
    exact hI x y hx hy (by omega)
  | succ m ih =>
    intro j τ hj hS hI
    have hv : IvS B τ := fr_IvS hS.1 hS.2.1 hS.2.2.1 hv0
    have e6 : gI τ (B + 45) 6 = nI q := by rw [hS.2.2.2.2.2.2.1 _ (by omega)]; exact h6
    have z : ¬ q < j := by omega
    have M1 : MsO B A τ := by
      intro x y hx hy
      rw [hS.2.2.2.2.2.2.1 _ (by omega), hS.2.2.2.2.2.2.1 _ (by omega)]
      exact hM x y hx hy
    obtain ⟨r1, l1⟩ := hR i hi
    obtain ⟨r2, l2⟩ := hR j (by omega)
    have r1' : gI τ (B + 46) i = nI (e i) := by rw [hS.2.2.2.2.2.2.1 _ (by omega)]; exact r1
    have r2' : gI τ (B + 46) j = nI (e j) := by rw [hS.2.2.2.2.2.2.1 _ (by omega)]; exact r2
    have i12 : i < 12 := by omega
    have j12 : j < 12 := by omega
    have z1 : 12 * i + j < 144 := by omega
    have z1' : i * 12 + j = 12 * i + j := by omega
    have dd := hD i j hi (by omega)
    have s1 := sT_dM (A := A) (a := e i) (b := e j)
    rw [if_neg (by omega)] at s1
    rw [e_75_75]
    simp (disch := omega) only [e_75_77, e_75_78, e_75_81, e_75_84, e_75_85, e_75_88, e_75_89, e_75_91, e_75_92, e_75_94, e_75_95, e_75_96, e_75_99, e_75_100, e_75_103, e_75_104, e_75_105, e_75_106, e_75_109, e_75_111, e_75_112, e_75_115, e_75_116, e_75_119, n10, n01, Nat.lt_irrefl, Nat.not_lt_zero, ne_eq, Nat.add_zero, Nat.one_ne_zero, Nat.zero_ne_one, Nat.reduceEqDiff, bI_T, bI_F, bI_0, bI_1, bI_01, not_and_self, true_and, and_true, not_true_eq_false, not_false_eq_true, false_imp_iff, true_imp_iff, imp_self, gPv_n, gPv_i, gPv_r, gPv_0, Option.toList_some, Option.toList_none, List.singleton_append, List.cons_append, List.nil_append, List.length_nil, List.length_cons, Nat.zero_le, Nat.reduceAdd, Nat.reduceLeDiff, or_true, true_or, false_or, or_false, and_self, and_false, false_and, implies_true, Option.some.injEq, exists_eq_left', nL, nI_add, nI_mul, nI_clamp, nI_ltI, nI_leI, nI_eq, nI_pos, nI_pos', Nat.reduceAdd, Nat.reduceMul, Nat.reducePow, sk_45 hv, sr_45_0 hv, sr_45_1 hv, sr_45_2 hv, sr_45_3 hv, sr_45_4 hv, sk_46 hv, sn_46 hv, sk_48 hv, sn_48 hv, sk_25 hv, sr_25_0 hv, sr_25_1 hv, sr_25_2 hv, sr_25_3 hv, sr_25_4 hv, sr_25_5 hv, e6, z, r1', r2', i12, j12, z1, z1', s_shT hv M1 l1 l2, s1]
    refine ih (j + 1) _ (by omega) (Sm_I hS rfl) ?_
    intro x y hx hy hxy
    by_cases g : x = i ∧ y = j
    · rw [g.1, g.2, rI_eq]
    · rw [rI_nk (by omega)]
      exact hI x y hx hy (by omega)
theorem s_er3 {h b q : Nat} {e : Nat → Nat} (hv0 : IvS B σ) (hM : MsO B A σ) (hq : q ≤ 11) (h6 : gI σ (B + 45) 6 = nI q) (hR : ∀ j, j ≤ q → gI σ (B + 46) j = nI (e j) ∧ e j < 12) (hD : ∀ x y, x ≤ q → y ≤ q → dM A (e x) (e y) < 1000000) (K : ∀ τ' x3 x4, Sm (fun a => a = B + 48) σ τ' → TmI B A e q (q + 1) 0 τ' → wp (d + 3) pr_75 Q 128 [some (.ref (B + 45)), some (.int (nI h)), some (.int (nI b)), x3, x4] [] τ') : ∀ m i τ x4, i + m = q + 1 → Sm (fun a => a = B + 48) σ τ → TmI B A e q i 0 τ → wp (d + 3) pr_75 Q 64 [some (.ref (B + 45)), some (.int (nI h)), some (.int (nI b)), some (.int (nI i)), x4] [] τ := by
  intro m
  induction m with
  | zero =>
    intro i τ x4 hi hS hI
    have hv : IvS B τ := fr_IvS hS.1 hS.2.1 hS.2.2.1 hv0
    have e6 : gI τ (B + 45) 6 = nI q := by rw [hS.2.2.2.2.2.2.1 _ (by omega)]; exact h6
    have z : q < i := by omega
    have ei : i = q + 1 := by omega
    subst ei
    simp (disch := omega) only [e_75_64, e_75_65, e_75_66, e_75_69, n10, n01, Nat.lt_irrefl, Nat.not_lt_zero, ne_eq, Nat.add_zero, Nat.one_ne_zero, Nat.zero_ne_one, Nat.reduceEqDiff, bI_T, bI_F, bI_0, bI_1, bI_01, not_and_self, true_and, and_true, not_true_eq_false, not_false_eq_true, false_imp_iff, true_imp_iff, imp_self, gPv_n, gPv_i, gPv_r, gPv_0, Option.toList_some, Option.toList_none, List.singleton_append, List.cons_append, List.nil_append, List.length_nil, List.length_cons, Nat.zero_le, Nat.reduceAdd, Nat.reduceLeDiff, or_true, true_or, false_or, or_false, and_self, and_false, false_and, implies_true, Option.some.injEq, exists_eq_left', nL, nI_add, nI_mul, nI_clamp, nI_ltI, nI_leI, nI_eq, nI_pos, nI_pos', Nat.reduceAdd, Nat.reduceMul, Nat.reducePow, sk_45 hv, sr_45_0 hv, sr_45_1 hv, sr_45_2 hv, sr_45_3 hv, sr_45_4 hv, e6, z]
    exact K τ _ _ hS hI
  | succ m ih =>
    intro i τ x4 hi hS hI
    have hv : IvS B τ := fr_IvS hS.1 hS.2.1 hS.2.2.1 hv0
    have e6 : gI τ (B + 45) 6 = nI q := by rw [hS.2.2.2.2.2.2.1 _ (by omega)]; exact h6
    have z : ¬ q < i := by omega
    have M1 : MsO B A τ := by
      intro x y hx hy
      rw [hS.2.2.2.2.2.2.1 _ (by omega), hS.2.2.2.2.2.2.1 _ (by omega)]
      exact hM x y hx hy
    rw [e_75_64]
    simp (disch := omega) only [e_75_65, e_75_66, e_75_69, e_75_72, e_75_73, n10, n01, Nat.lt_irrefl, Nat.not_lt_zero, ne_eq, Nat.add_zero, Nat.one_ne_zero, Nat.zero_ne_one, Nat.reduceEqDiff, bI_T, bI_F, bI_0, bI_1, bI_01, not_and_self, true_and, and_true, not_true_eq_false, not_false_eq_true, false_imp_iff, true_imp_iff, imp_self, gPv_n, gPv_i, gPv_r, gPv_0, Option.toList_some, Option.toList_none, List.singleton_append, List.cons_append, List.nil_append, List.length_nil, List.length_cons, Nat.zero_le, Nat.reduceAdd, Nat.reduceLeDiff, or_true, true_or, false_or, or_false, and_self, and_false, false_and, implies_true, Option.some.injEq, exists_eq_left', nL, nI_add, nI_mul, nI_clamp, nI_ltI, nI_leI, nI_eq, nI_pos, nI_pos', Nat.reduceAdd, Nat.reduceMul, Nat.reducePow, sk_45 hv, sr_45_0 hv, sr_45_1 hv, sr_45_2 hv, sr_45_3 hv, sr_45_4 hv, e6, z]
    refine s_er2 hv M1 hq e6 (fun j hj => by rw [hS.2.2.2.2.2.2.1 _ (by omega)]; exact hR j hj) hD (by omega) ?_ (q + 1) 0 τ (by omega) (Sm_refl _ _) hI
    intro τ' x4 hS' hI'
    simp (disch := omega) only [e_75_122, e_75_125, n10, n01, Nat.lt_irrefl, Nat.not_lt_zero, ne_eq, Nat.add_zero, Nat.one_ne_zero, Nat.zero_ne_one, Nat.reduceEqDiff, bI_T, bI_F, bI_0, bI_1, bI_01, not_and_self, true_and, and_true, not_true_eq_false, not_false_eq_true, false_imp_iff, true_imp_iff, imp_self, gPv_n, gPv_i, gPv_r, gPv_0, Option.toList_some, Option.toList_none, List.singleton_append, List.cons_append, List.nil_append, List.length_nil, List.length_cons, Nat.zero_le, Nat.reduceAdd, Nat.reduceLeDiff, or_true, true_or, false_or, or_false, and_self, and_false, false_and, implies_true, Option.some.injEq, exists_eq_left', nL, nI_add]
    exact ih (i + 1) τ' _ (by omega) (Sm_trans hS hS') hI'
/-- the array that is used -/
def AlR (B q : Nat) (σ σA : gS) (l : Nat) : Prop := (σA = σ ∧ gR σ (B + 45) 5 = some l ∧ gK σ l = 21 ∧ q * 2 ^ q ≤ gN σ l) ∨ (σA = al B (q * 2 ^ q) σ ∧ l = gn σ ∧ ∃ l0, gR σ (B + 45) 5 = some l0 ∧ gN σ l0 < q * 2 ^ q)
theorem s_errands {h b l0 : Nat} (hc : Ctx B own σ A) (hM : MsO B A σ) (hgn : B + 80 ≤ gn σ) (hK : RdK A h b) (h60 : gI σ (B + 45) 6 = nI 0) (hl0 : gR σ (B + 45) 5 = some l0) (hk0 : gK σ l0 = 21) (hn0 : gN σ l0 < 100000) (K : ∀ τ' σA e q l, AlR B q σ σA l → Sm (erP B) σA τ' → (∀ j, j ≠ 6 → gI τ' (B + 45) j = gI σ (B + 45) j) → gI τ' (B + 45) 6 = nI q → q ≤ 11 → ErF b 12 q e → e q = h → (∀ j, j ≤ q → gI τ' (B + 46) j = nI (e j)) → TmI B A e q (q + 1) 0 τ' → Q none τ') : wc (d + 4) 75 [.ref (B + 45), .int (nI h), .int (nI b)] σ Q := by
  have hv := hc.1
  have wh : Wh A := hc.2.1.1.1
  have h12 := hn_le wh
  have p12 : 2 ^ hn A ≤ 4096 := Nat.pow_le_pow_right (by decide) h12
  obtain ⟨k1, k2, k3, k4, k5⟩ := id hK
  obtain ⟨_, _, _, _, hr⟩ := (IsR_K wh).mpr hK
  have hsh : sM A h = true := (sM_St k1).trans k4
  simp (disch := omega) only [c_75, e_75_0, e_75_1, n10, n01, Nat.lt_irrefl, Nat.not_lt_zero, ne_eq, Nat.add_zero, Nat.one_ne_zero, Nat.zero_ne_one, Nat.reduceEqDiff, bI_T, bI_F, bI_0, bI_1, bI_01, not_and_self, true_and, and_true, not_true_eq_false, not_false_eq_true, false_imp_iff, true_imp_iff, imp_self, gPv_n, gPv_i, gPv_r, gPv_0, Option.toList_some, Option.toList_none, List.singleton_append, List.cons_append, List.nil_append, List.length_nil, List.length_cons, Nat.zero_le, Nat.reduceAdd, Nat.reduceLeDiff, or_true, true_or, false_or, or_false, and_self, and_false, false_and, implies_true, Option.some.injEq, exists_eq_left', nL]
  refine s_er1 (d := d + 2) (b := b) (h := h) hv (by omega) k3 (by omega) ?_ 12 0 σ (fun _ => 0) 0 _ (by omega) (Sm_refl _ _) (fun _ _ => rfl) h60 ⟨rfl, fun j hj => absurd hj (by omega), fun x y _ hy => absurd hy (by omega), fun j hj => absurd hj (by omega)⟩ (fun j hj => absurd hj (by omega))
  intro τ1 e q x3 x4 hS1 hf1 h61 hq11 hE1 hR1
  have hv1 : IvS B τ1 := fr_IvS hS1.1 hS1.2.1 hS1.2.2.1 hv
  have q12 : q < 12 := by omega
  have eb : ∀ j, j < q → e j < hn A ∧ dM A h (e j) < 1000000 ∧ dM A (e j) h < 1000000 := by
    intro j hj
    obtain ⟨g1, g2⟩ := hE1.2.1 j hj
    have : e j < hn A := by
      by_cases z : e j < hn A
      · exact z
      · rw [tb_lt k2 (by omega)] at g2
        exact absurd g2 (by simp)
    exact ⟨this, hr _ this g2⟩
  have hE2 : ErF b 12 q (un e q h) := by
    obtain ⟨g1, g2, g3, g4⟩ := hE1
    refine ⟨g1, fun j hj => by rw [un_ne (by omega)]; exact g2 j hj, fun x y hxy hy => by rw [un_ne (by omega), un_ne (by omega)]; exact g3 x y hxy hy, fun j hj hb => ?_⟩
    obtain ⟨t, t1, t2⟩ := g4 j hj hb
    exact ⟨t, t1, by rw [un_ne (by omega)]; exact t2⟩
  have hD : ∀ x y, x ≤ q → y ≤ q → dM A (un e q h x) (un e q h y) < 1000000 := by
    intro x y hx hy
    by_cases cx : x = q
    · rw [cx, un_eq]
      by_cases cy : y = q
      · rw [cy, un_eq, dM_hh hsh]; omega
      · rw [un_ne cy]; exact (eb y (by omega)).2.1
    · rw [un_ne cx]
      obtain ⟨b1, b2, b3⟩ := eb x (by omega)
      by_cases cy : y = q
      · rw [cy, un_eq]; exact b3
      · rw [un_ne cy]
        exact dM_tr wh b1 k1 b3 (eb y (by omega)).2.1
  simp (disch := omega) only [e_75_52, e_75_53, e_75_56, e_75_57, e_75_60, e_75_61, e_75_62, e_75_63, n10, n01, Nat.lt_irrefl, Nat.not_lt_zero, ne_eq, Nat.add_zero, Nat.one_ne_zero, Nat.zero_ne_one, Nat.reduceEqDiff, bI_T, bI_F, bI_0, bI_1, bI_01, not_and_self, true_and, and_true, not_true_eq_false, not_false_eq_true, false_imp_iff, true_imp_iff, imp_self, gPv_n, gPv_i, gPv_r, gPv_0, Option.toList_some, Option.toList_none, List.singleton_append, List.cons_append, List.nil_append, List.length_nil, List.length_cons, Nat.zero_le, Nat.reduceAdd, Nat.reduceLeDiff, or_true, true_or, false_or, or_false, and_self, and_false, false_and, implies_true, Option.some.injEq, exists_eq_left', nL, nI_add, nI_mul, nI_clamp, nI_ltI, nI_leI, nI_eq, nI_pos, nI_pos', Nat.reduceAdd, Nat.reduceMul, Nat.reducePow, sk_45 hv1, sr_45_0 hv1, sr_45_1 hv1, sr_45_2 hv1, sr_45_3 hv1, sr_45_4 hv1, sk_46 hv1, sn_46 hv1, h61, q12]
  generalize hτ2 : sI τ1 (B + 46) q (nI h) = τ2
  have hS2 : Sm (erP B) σ τ2 := by rw [← hτ2]; exact Sm_I hS1 (Or.inr (Or.inl rfl))
  have hv2 : IvS B τ2 := fr_IvS hS2.1 hS2.2.1 hS2.2.2.1 hv
  have f2 : gI τ2 (B + 45) = gI τ1 (B + 45) := by rw [← hτ2, rI_ne (by omega)]
  have hR2 : ∀ j, j ≤ q → gI τ2 (B + 46) j = nI (un e q h j) ∧ un e q h j < 12 := by
    intro j hj
    rw [← hτ2]
    by_cases c : j = q
    · rw [c, rI_eq, un_eq]; exact ⟨rfl, by omega⟩
    · rw [rI_nk c, un_ne c]
      have := (eb j (by omega)).1
      exact ⟨hR1 j (by omega), by omega⟩
  have M2 : MsO B A τ2 := by
    intro x y hx hy
    rw [hS2.2.2.2.2.2.2.1 _ (by simp only [erP]; omega), hS2.2.2.2.2.2.2.1 _ (by simp only [erP]; omega)]
    exact hM x y hx hy
  refine s_er3 (d := d) (e := un e q h) (h := h) (b := b) hv2 M2 hq11 (by rw [f2]; exact h61) hR2 hD ?_ (q + 1) 0 τ2 _ (by omega) (Sm_refl _ _) (fun x y _ _ z => absurd z (by omega))
  intro τ3 x3 x4 hS3 hT3
  have hS03 : Sm (erP B) σ τ3 := Sm_trans hS2 (Sm_mono hS3 (fun a ha => Or.inr (Or.inr ha)))
  have hv3 : IvS B τ3 := fr_IvS hS03.1 hS03.2.1 hS03.2.2.1 hv
  have f3 : gI τ3 (B + 45) = gI τ1 (B + 45) := by rw [hS3.2.2.2.2.2.2.1 _ (by omega)]; exact f2
  have e6 : gI τ3 (B + 45) 6 = nI q := by rw [f3]; exact h61
  have l3 : gR τ3 (B + 45) 5 = some l0 := by rw [hS03.2.2.1]; exact hl0
  have lk3 : gK τ3 l0 = 21 := by rw [hS03.1]; exact hk0
  have ln3 : gN τ3 l0 = gN σ l0 := by rw [hS03.2.1]
  have qp : q * 2 ^ q ≤ 22528 := by
    have := Nat.mul_le_mul hq11 (Nat.pow_le_pow_right (n := 2) (by decide) hq11)
    have h : 11 * 2 ^ 11 = 22528 := by decide
    omega
  have k2' : 20 ≤ gK τ3 l0 ∧ gK τ3 l0 < 27 := by omega
  have hR3 : ∀ j, j ≤ q → gI τ3 (B + 46) j = nI (un e q h j) := by
    intro j hj
    rw [hS3.2.2.2.2.2.2.1 _ (by omega)]
    exact (hR2 j hj).1
  by_cases c : q * 2 ^ q ≤ gN σ l0
  · simp (disch := first | omega | assumption) only [e_75_128, e_75_129, e_75_132, e_75_133, e_75_136, e_75_137, e_75_138, e_75_139, e_75_142, e_75_143, e_75_144, e_75_154, n10, n01, Nat.lt_irrefl, Nat.not_lt_zero, ne_eq, Nat.add_zero, Nat.one_ne_zero, Nat.zero_ne_one, Nat.reduceEqDiff, bI_T, bI_F, bI_0, bI_1, bI_01, not_and_self, true_and, and_true, not_true_eq_false, not_false_eq_true, false_imp_iff, true_imp_iff, imp_self, gPv_n, gPv_i, gPv_r, gPv_0, Option.toList_some, Option.toList_none, List.singleton_append, List.cons_append, List.nil_append, List.length_nil, List.length_cons, Nat.zero_le, Nat.reduceAdd, Nat.reduceLeDiff, or_true, true_or, false_or, or_false, and_self, and_false, false_and, implies_true, Option.some.injEq, exists_eq_left', nL, nI_add, nI_mul, nI_clamp, nI_ltI, nI_leI, nI_eq, nI_pos, nI_pos', Nat.reduceAdd, Nat.reduceMul, Nat.reducePow, sk_45 hv3, sr_45_0 hv3, sr_45_1 hv3, sr_45_2 hv3, sr_45_3 hv3, sr_45_4 hv3, e6, l3, ln3, nI_shl, nI_of_len, c, Option.some.injEq, exists_eq_left']
    refine K τ3 σ (un e q h) q l0 (Or.inl ⟨rfl, hl0, hk0, c⟩) hS03 (fun j hj => by rw [f3]; exact hf1 j hj) e6 hq11 hE2 un_eq hR3 hT3
  · have g0 : B + 80 ≤ gn τ3 := by rw [hS03.2.2.2.1]; exact hgn
    have n1 : ¬ (nI (q * 2 ^ q) < nI 0) := by rw [nI_ltI (by omega) (by omega)]; omega
    have n2 : q * 2 ^ q ≤ 1000000 := by omega
    have k45 : gK (sNw τ3 21 (q * 2 ^ q) (q * 2 ^ q)) (B + 45) = 9 := by
      rw [n_K_N, if_neg (by omega)]
      exact sk_45 hv3
    simp (disch := first | omega | assumption) only [e_75_128, e_75_129, e_75_132, e_75_133, e_75_136, e_75_137, e_75_138, e_75_139, e_75_142, e_75_143, e_75_144, e_75_147, e_75_148, e_75_149, e_75_151, e_75_154, n10, n01, Nat.lt_irrefl, Nat.not_lt_zero, ne_eq, Nat.add_zero, Nat.one_ne_zero, Nat.zero_ne_one, Nat.reduceEqDiff, bI_T, bI_F, bI_0, bI_1, bI_01, not_and_self, true_and, and_true, not_true_eq_false, not_false_eq_true, false_imp_iff, true_imp_iff, imp_self, gPv_n, gPv_i, gPv_r, gPv_0, Option.toList_some, Option.toList_none, List.singleton_append, List.cons_append, List.nil_append, List.length_nil, List.length_cons, Nat.zero_le, Nat.reduceAdd, Nat.reduceLeDiff, or_true, true_or, false_or, or_false, and_self, and_false, false_and, implies_true, Option.some.injEq, exists_eq_left', nL, nI_add, nI_mul, nI_clamp, nI_ltI, nI_leI, nI_eq, nI_pos, nI_pos', Nat.reduceAdd, Nat.reduceMul, Nat.reducePow, sk_45 hv3, sr_45_0 hv3, sr_45_1 hv3, sr_45_2 hv3, sr_45_3 hv3, sr_45_4 hv3, e6, l3, ln3, nI_shl, nI_of_len, c, n2, k45, Option.some.injEq, exists_eq_left']
    have e45 : B + 45 ≠ gn τ3 := by omega
    refine K (al B (q * 2 ^ q) τ3) (al B (q * 2 ^ q) σ) (un e q h) q (gn σ) (Or.inr ⟨rfl, rfl, l0, hl0, by omega⟩) (Sm_al hS03) (fun j hj => by rw [al_I e45, f3]; exact hf1 j hj) (by rw [al_I e45]; exact e6) hq11 hE2 un_eq (fun j hj => by rw [al_I (by omega)]; exact hR3 j hj) ?_
    intro x y hx hy hxy
    rw [al_I (by omega)]
    exact hT3 x y hx hy hxy
end
