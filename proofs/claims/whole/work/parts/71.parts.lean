/-! parts -/
/-- the parts, from h on, of those that are left -/
def prt (P : Nat → Nat) : Nat → Nat → Nat → List Nat
  | 0, _, _ => []
  | m + 1, h, l => if l.testBit h = true then P h :: prt P m (h + 1) (ad l (P h)) else prt P m (h + 1) l
theorem prt_len {P : Nat → Nat} : ∀ m h l, (prt P m h l).length ≤ m := by
  intro m
  induction m with
  | zero => intro h l; exact Nat.le_refl 0
  | succ m ih =>
    intro h l
    simp only [prt]
    split
    · simp only [List.length_cons]
      have := ih (h + 1) (ad l (P h))
      omega
    · have := ih (h + 1) l
      omega
theorem prt_c {P P' : Nat → Nat} {s : Nat} (hP : ∀ h, s.testBit h = true → P h = P' h) : ∀ m h l, (∀ j, l.testBit j = true → s.testBit j = true) → prt P m h l = prt P' m h l := by
  intro m
  induction m with
  | zero => intro h l _; rfl
  | succ m ih =>
    intro h l hl
    simp only [prt]
    split
    · next e =>
      rw [hP h (hl h e), ih (h + 1) (ad l (P' h)) ?_]
      intro j hj
      rw [tb_ad] at hj
      simp only [Bool.and_eq_true] at hj
      exact hl j hj.1
    · exact ih (h + 1) l hl
theorem prt_0 {P : Nat → Nat} : ∀ m h l, (∀ j, h ≤ j → l.testBit j = false) → prt P m h l = [] := by
  intro m
  induction m with
  | zero => intro h l _; rfl
  | succ m ih =>
    intro h l hl
    have e : ¬ l.testBit h = true := by rw [hl h (Nat.le_refl _)]; exact Bool.false_ne_true
    simp only [prt, e, if_false]
    exact ih (h + 1) l (fun j hj => hl j (by omega))
theorem prt_add {P : Nat → Nat} {n : Nat} : ∀ m k h l, h + m = n → (∀ j, n ≤ j → l.testBit j = false) → prt P (m + k) h l = prt P m h l := by
  intro m
  induction m with
  | zero =>
    intro k h l hn hl
    rw [Nat.zero_add, prt_0 k h l (fun j hj => hl j (by omega))]
    rfl
  | succ m ih =>
    intro k h l hn hl
    rw [show m + 1 + k = (m + k) + 1 from by omega]
    simp only [prt]
    split
    · rw [ih k (h + 1) _ (by omega)]
      intro j hj
      rw [tb_ad, hl j hj]
      rfl
    · exact ih k (h + 1) l (by omega) hl
section
variable {B : Nat} {own : Nat → Nat} {σ : gS} {A : Nat → Int32} {d : Nat} {Q : Option Value → gS → Prop} {E : Nat → Nat}
abbrev rcC (E : Nat → Nat) (M h : Nat) : Nat := rc (fun g => E g &&& M) 12 (2 ^ h &&& M)
def ptC (E : Nat → Nat) (M h : Nat) : Nat := mkN (fun g => (rcC E M h).testBit g && (rcC E M g).testBit h) 12
theorem rcC_lt {M h : Nat} (hM : M < 4096) : rcC E M h < 4096 := rc_lt (fun _ => Nat.and_lt_two_pow (n := 12) _ hM) (Nat.and_lt_two_pow (n := 12) _ hM)
theorem s_fp1 {r M : Nat} (hv : IvS B σ) (hr : r = B + 29 ∨ r = B + 51) (hE : ∀ h, E h < 4096) (hM : M < 4096) (hR : ∀ j, j < 12 → gI σ r j = nI (E j)) : ∀ m h τ, h + m = 12 → Sm (fun a => a = B + 35) σ τ → (∀ j, j < h → gI τ (B + 35) j = nI (rcC E M j)) →
    (∀ τ', Sm (fun a => a = B + 35) σ τ' → (∀ j, j < 12 → gI τ' (B + 35) j = nI (rcC E M j)) → wp (d + 3) pr_5 Q 26 [some (.ref (B + 33)), some (.ref r), some (.int (nI M)), some (.int (nI 12)), none, none] [] τ') →
    wp (d + 3) pr_5 Q 2 [some (.ref (B + 33)), some (.ref r), some (.int (nI M)), some (.int (nI h)), none, none] [] τ := by
  intro m
  induction m with
  | zero =>
    intro h τ hh hS hW K
    have e : h = 12 := by omega
    subst e
    simp (disch := omega) only [e_5_2, e_5_3, e_5_5, n10, n01, Nat.lt_irrefl, Nat.not_lt_zero, ne_eq, Nat.add_zero, Nat.one_ne_zero, Nat.zero_ne_one, Nat.reduceEqDiff, bI_T, bI_F, bI_0, bI_1, bI_01, not_and_self, true_and, and_true, not_true_eq_false, not_false_eq_true, false_imp_iff, true_imp_iff, imp_self, gPv_n, gPv_i, gPv_r, gPv_0, Option.toList_some, Option.toList_none, List.singleton_append, List.cons_append, List.nil_append, List.length_nil, List.length_cons, Nat.zero_le, Nat.reduceAdd, Nat.reduceLeDiff, or_true, true_or, false_or, or_false, and_self, and_false, false_and, implies_true, Option.some.injEq, exists_eq_left', nL, nI_add, nI_mul, nI_clamp, nI_ltI, nI_leI, nI_eq, nI_pos, nI_pos', Nat.reduceAdd, Nat.reduceMul, Nat.reducePow, Nat.le_refl]
    exact K τ hS hW
  | succ m ih =>
    intro h τ hh hS hW K
    have hvt : IvS B τ := fr_IvS hS.1 hS.2.1 hS.2.2.1 hv
    have hk : gK τ r = 21 := by rcases hr with rfl | rfl; exact sk_29 hvt; exact sk_51 hvt
    have hn' : gN τ r = 12 := by rcases hr with rfl | rfl; exact sn_29 hvt; exact sn_51 hvt
    have hR' : ∀ j, j < 12 → gI τ r j = nI (E j) := by
      intro j hj
      rw [hS.2.2.2.2.2.2.1 r (by omega)]
      exact hR j hj
    have z : ¬ 12 ≤ h := by omega
    have z2 : h < 12 := by omega
    rw [e_5_2]
    simp (disch := omega) only [e_5_3, e_5_5, e_5_8, e_5_9, e_5_12, e_5_13, e_5_13n, e_5_14, e_5_15, e_5_16, e_5_19, e_5_20, e_5_23, n10, n01, Nat.lt_irrefl, Nat.not_lt_zero, ne_eq, Nat.add_zero, Nat.one_ne_zero, Nat.zero_ne_one, Nat.reduceEqDiff, bI_T, bI_F, bI_0, bI_1, bI_01, not_and_self, true_and, and_true, not_true_eq_false, not_false_eq_true, false_imp_iff, true_imp_iff, imp_self, gPv_n, gPv_i, gPv_r, gPv_0, Option.toList_some, Option.toList_none, List.singleton_append, List.cons_append, List.nil_append, List.length_nil, List.length_cons, Nat.zero_le, Nat.reduceAdd, Nat.reduceLeDiff, or_true, true_or, false_or, or_false, and_self, and_false, false_and, implies_true, Option.some.injEq, exists_eq_left', nL, nI_add, nI_mul, nI_clamp, nI_ltI, nI_leI, nI_eq, nI_pos, nI_pos', Nat.reduceAdd, Nat.reduceMul, Nat.reducePow, sk_33 hvt, sr_33_0 hvt, sr_33_1 hvt, sr_33_2 hvt, sr_33_3 hvt, sk_35 hvt, sn_35 hvt, z, z2, s_reach hk hn' hR' hE hM z2]
    refine ih (h + 1) _ (by omega) (Sm_I hS rfl) ?_ K
    intro j hj
    by_cases c : j = h
    · subst c; rw [rI_eq]
    · rw [rI_nk c]; exact hW j (by omega)
theorem s_po {M h : Nat} (hv : IvS B σ) (hM : M < 4096) (hh : h < 12) (hW : ∀ j, j < 12 → gI σ (B + 35) j = nI (rcC E M j)) : ∀ m g, g + m = 12 → (wp (d + 1) pr_6 Q 4 [some (.ref (B + 33)), some (.int (nI h)), some (.int (nI (mkN (fun g => (rcC E M h).testBit g && (rcC E M g).testBit h) g))), some (.int (nI g))] [] σ ↔ Q (some (.int (nI (ptC E M h)))) σ) := by
  have l1 := fun h => rcC_lt (E := E) (h := h) hM
  have z0 : h ≤ 11 := by omega
  intro m
  induction m with
  | zero =>
    intro g hg
    have e : g = 12 := by omega
    subst e
    simp (disch := omega) only [e_6_4, e_6_5, e_6_7, e_6_60, e_6_61, n10, n01, Nat.lt_irrefl, Nat.not_lt_zero, ne_eq, Nat.add_zero, Nat.one_ne_zero, Nat.zero_ne_one, Nat.reduceEqDiff, bI_T, bI_F, bI_0, bI_1, bI_01, not_and_self, true_and, and_true, not_true_eq_false, not_false_eq_true, false_imp_iff, true_imp_iff, imp_self, gPv_n, gPv_i, gPv_r, gPv_0, Option.toList_some, Option.toList_none, List.singleton_append, List.cons_append, List.nil_append, List.length_nil, List.length_cons, Nat.zero_le, Nat.reduceAdd, Nat.reduceLeDiff, or_true, true_or, false_or, or_false, and_self, and_false, false_and, implies_true, Option.some.injEq, exists_eq_left', nL, nI_add, nI_mul, nI_clamp, nI_ltI, nI_leI, nI_eq, nI_pos, nI_pos', Nat.reduceAdd, Nat.reduceMul, Nat.reducePow, Nat.le_refl, ptC]
  | succ m ih =>
    intro g hg
    have z : ¬ 12 ≤ g := by omega
    have z2 : g < 12 := by omega
    have e1 := hW h hh
    have e2 := hW g z2
    have lh := l1 h
    have lg := l1 g
    rw [e_6_4]
    by_cases c1 : (rcC E M h).testBit g = true
    · by_cases c2 : (rcC E M g).testBit h = true
      · simp (disch := omega) only [e_6_5, e_6_7, e_6_10, e_6_11, e_6_12, e_6_14, e_6_17, e_6_20, e_6_21, e_6_24, e_6_25, e_6_26, e_6_27, e_6_30, e_6_31, e_6_34, e_6_35, e_6_38, e_6_39, e_6_40, e_6_41, e_6_44, e_6_45, e_6_48, e_6_49, e_6_50, e_6_51, e_6_52, e_6_53, e_6_54, e_6_57, n10, n01, Nat.lt_irrefl, Nat.not_lt_zero, ne_eq, Nat.add_zero, Nat.one_ne_zero, Nat.zero_ne_one, Nat.reduceEqDiff, bI_T, bI_F, bI_0, bI_1, bI_01, not_and_self, true_and, and_true, not_true_eq_false, not_false_eq_true, false_imp_iff, true_imp_iff, imp_self, gPv_n, gPv_i, gPv_r, gPv_0, Option.toList_some, Option.toList_none, List.singleton_append, List.cons_append, List.nil_append, List.length_nil, List.length_cons, Nat.zero_le, Nat.reduceAdd, Nat.reduceLeDiff, or_true, true_or, false_or, or_false, and_self, and_false, false_and, implies_true, Option.some.injEq, exists_eq_left', nL, nI_add, nI_mul, nI_clamp, nI_ltI, nI_leI, nI_eq, nI_pos, nI_pos', Nat.reduceAdd, Nat.reduceMul, Nat.reducePow, sk_33 hv, sr_33_0 hv, sr_33_1 hv, sr_33_2 hv, sr_33_3 hv, sk_35 hv, sn_35 hv, z, z0, z2, hh, s_within, s_bitOf, e1, e2, nI_bit, c1, c2, nI_shl, Nat.one_mul, nI_or]
        rw [← ih (g + 1) (by omega)]
        simp only [mkN, c1, c2, Bool.and_self, if_true]
      · have c2' : (rcC E M g).testBit h = false := by simpa using c2
        simp (disch := omega) only [e_6_5, e_6_7, e_6_10, e_6_11, e_6_12, e_6_14, e_6_17, e_6_20, e_6_21, e_6_24, e_6_25, e_6_26, e_6_27, e_6_30, e_6_31, e_6_34, e_6_35, e_6_38, e_6_39, e_6_40, e_6_41, e_6_44, e_6_45, e_6_48, e_6_49, e_6_50, e_6_51, e_6_52, e_6_53, e_6_54, e_6_57, n10, n01, Nat.lt_irrefl, Nat.not_lt_zero, ne_eq, Nat.add_zero, Nat.one_ne_zero, Nat.zero_ne_one, Nat.reduceEqDiff, bI_T, bI_F, bI_0, bI_1, bI_01, not_and_self, true_and, and_true, not_true_eq_false, not_false_eq_true, false_imp_iff, true_imp_iff, imp_self, gPv_n, gPv_i, gPv_r, gPv_0, Option.toList_some, Option.toList_none, List.singleton_append, List.cons_append, List.nil_append, List.length_nil, List.length_cons, Nat.zero_le, Nat.reduceAdd, Nat.reduceLeDiff, or_true, true_or, false_or, or_false, and_self, and_false, false_and, implies_true, Option.some.injEq, exists_eq_left', nL, nI_add, nI_mul, nI_clamp, nI_ltI, nI_leI, nI_eq, nI_pos, nI_pos', Nat.reduceAdd, Nat.reduceMul, Nat.reducePow, sk_33 hv, sr_33_0 hv, sr_33_1 hv, sr_33_2 hv, sr_33_3 hv, sk_35 hv, sn_35 hv, z, z0, z2, hh, s_within, s_bitOf, e1, e2, nI_bit, c1, c2', Bool.false_eq_true]
        rw [← ih (g + 1) (by omega)]
        simp only [mkN, c2', Bool.and_false, Bool.false_eq_true, if_false, Nat.or_zero]
    · have c1' : (rcC E M h).testBit g = false := by simpa using c1
      simp (disch := omega) only [e_6_5, e_6_7, e_6_10, e_6_11, e_6_12, e_6_14, e_6_17, e_6_20, e_6_21, e_6_24, e_6_25, e_6_26, e_6_27, e_6_30, e_6_31, e_6_34, e_6_35, e_6_38, e_6_39, e_6_40, e_6_41, e_6_44, e_6_45, e_6_48, e_6_49, e_6_50, e_6_51, e_6_52, e_6_53, e_6_54, e_6_57, n10, n01, Nat.lt_irrefl, Nat.not_lt_zero, ne_eq, Nat.add_zero, Nat.one_ne_zero, Nat.zero_ne_one, Nat.reduceEqDiff, bI_T, bI_F, bI_0, bI_1, bI_01, not_and_self, true_and, and_true, not_true_eq_false, not_false_eq_true, false_imp_iff, true_imp_iff, imp_self, gPv_n, gPv_i, gPv_r, gPv_0, Option.toList_some, Option.toList_none, List.singleton_append, List.cons_append, List.nil_append, List.length_nil, List.length_cons, Nat.zero_le, Nat.reduceAdd, Nat.reduceLeDiff, or_true, true_or, false_or, or_false, and_self, and_false, false_and, implies_true, Option.some.injEq, exists_eq_left', nL, nI_add, nI_mul, nI_clamp, nI_ltI, nI_leI, nI_eq, nI_pos, nI_pos', Nat.reduceAdd, Nat.reduceMul, Nat.reducePow, sk_33 hv, sr_33_0 hv, sr_33_1 hv, sr_33_2 hv, sr_33_3 hv, sk_35 hv, sn_35 hv, z, z0, z2, hh, s_within, s_bitOf, e1, e2, nI_bit, c1', Bool.false_eq_true]
      rw [← ih (g + 1) (by omega)]
      simp only [mkN, c1', Bool.false_and, Bool.false_eq_true, if_false, Nat.or_zero]
theorem s_partOf {M h : Nat} (hv : IvS B σ) (hM : M < 4096) (hh : h < 12) (hW : ∀ j, j < 12 → gI σ (B + 35) j = nI (rcC E M j)) : wc (d + 2) 6 [.ref (B + 33), .int (nI h)] σ Q ↔ Q (some (.int (nI (ptC E M h)))) σ := by
  simp (disch := omega) only [c_6, e_6_0, e_6_1, e_6_2, e_6_3, n10, n01, Nat.lt_irrefl, Nat.not_lt_zero, ne_eq, Nat.add_zero, Nat.one_ne_zero, Nat.zero_ne_one, Nat.reduceEqDiff, bI_T, bI_F, bI_0, bI_1, bI_01, not_and_self, true_and, and_true, not_true_eq_false, not_false_eq_true, false_imp_iff, true_imp_iff, imp_self, gPv_n, gPv_i, gPv_r, gPv_0, Option.toList_some, Option.toList_none, List.singleton_append, List.cons_append, List.nil_append, List.length_nil, List.length_cons, Nat.zero_le, Nat.reduceAdd, Nat.reduceLeDiff, or_true, true_or, false_or, or_false, and_self, and_false, false_and, implies_true, Option.some.injEq, exists_eq_left', nL]
  exact s_po hv hM hh hW 12 0 (by omega)
theorem getD_app {L : List Nat} {x j : Nat} (h : j < L.length) : (L ++ [x]).getD j 0 = L.getD j 0 := by
  simp [List.getD, List.getElem?_append_left h]
theorem getD_last {L : List Nat} {x : Nat} : (L ++ [x]).getD L.length 0 = x := by
  simp [List.getD]
theorem s_fp2 {r M : Nat} (hv : IvS B σ) (hM : M < 4096) : ∀ m h l (L : List Nat) τ, h + m = 12 → l < 4096 → L.length ≤ h → Sm (fun a => a = B + 36) σ τ → (∀ j, j < 12 → gI σ (B + 35) j = nI (rcC E M j)) → (∀ j, j < L.length → gI τ (B + 36) j = nI (L.getD j 0)) →
    (∀ τ', Sm (fun a => a = B + 36) σ τ' → (∀ j, j < (L ++ prt (ptC E M) m h l).length → gI τ' (B + 36) j = nI ((L ++ prt (ptC E M) m h l).getD j 0)) → Q (some (.int (nI (L ++ prt (ptC E M) m h l).length))) τ') →
    wp (d + 3) pr_5 Q 34 [some (.ref (B + 33)), some (.ref r), some (.int (nI M)), some (.int (nI L.length)), some (.int (nI l)), some (.int (nI h))] [] τ := by
  intro m
  induction m with
  | zero =>
    intro h l L τ hh hl hL hS hW hF K
    have e : h = 12 := by omega
    subst e
    simp only [prt, List.append_nil] at K
    simp (disch := omega) only [e_5_34, e_5_36, e_5_38, e_5_92, e_5_93, n10, n01, Nat.lt_irrefl, Nat.not_lt_zero, ne_eq, Nat.add_zero, Nat.one_ne_zero, Nat.zero_ne_one, Nat.reduceEqDiff, bI_T, bI_F, bI_0, bI_1, bI_01, not_and_self, true_and, and_true, not_true_eq_false, not_false_eq_true, false_imp_iff, true_imp_iff, imp_self, gPv_n, gPv_i, gPv_r, gPv_0, Option.toList_some, Option.toList_none, List.singleton_append, List.cons_append, List.nil_append, List.length_nil, List.length_cons, Nat.zero_le, Nat.reduceAdd, Nat.reduceLeDiff, or_true, true_or, false_or, or_false, and_self, and_false, false_and, implies_true, Option.some.injEq, exists_eq_left', nL, nI_add, nI_mul, nI_clamp, nI_ltI, nI_leI, nI_eq, nI_pos, nI_pos', Nat.reduceAdd, Nat.reduceMul, Nat.reducePow, Nat.le_refl]
    exact K τ hS hF
  | succ m ih =>
    intro h l L τ hh hl hL hS hW hF K
    have hvt : IvS B τ := fr_IvS hS.1 hS.2.1 hS.2.2.1 hv
    have z : ¬ 12 ≤ h := by omega
    have z2 : h < 12 := by omega
    have z3 : ¬ 12 ≤ L.length := by omega
    have z4 : L.length < 12 := by omega
    have hWt : ∀ j, j < 12 → gI τ (B + 35) j = nI (rcC E M j) := by
      intro j hj
      rw [hS.2.2.2.2.2.2.1 (B + 35) (by omega)]
      exact hW j hj
    simp only [prt] at K
    rw [e_5_34]
    by_cases c : l.testBit h = true
    · rw [if_pos c] at K
      simp (disch := omega) only [e_5_36, e_5_38, e_5_41, e_5_43, e_5_45, e_5_48, e_5_49, e_5_52, e_5_53, e_5_55, e_5_58, e_5_59, e_5_62, e_5_63, e_5_64, e_5_66, e_5_69, e_5_70, e_5_72, e_5_73, e_5_76, e_5_77, e_5_78, e_5_79, e_5_80, e_5_81, e_5_83, e_5_86, e_5_89, n10, n01, Nat.lt_irrefl, Nat.not_lt_zero, ne_eq, Nat.add_zero, Nat.one_ne_zero, Nat.zero_ne_one, Nat.reduceEqDiff, bI_T, bI_F, bI_0, bI_1, bI_01, not_and_self, true_and, and_true, not_true_eq_false, not_false_eq_true, false_imp_iff, true_imp_iff, imp_self, gPv_n, gPv_i, gPv_r, gPv_0, Option.toList_some, Option.toList_none, List.singleton_append, List.cons_append, List.nil_append, List.length_nil, List.length_cons, Nat.zero_le, Nat.reduceAdd, Nat.reduceLeDiff, or_true, true_or, false_or, or_false, and_self, and_false, false_and, implies_true, Option.some.injEq, exists_eq_left', n_K_I, n_K_J, n_K_R, n_K_r, n_N_I, n_N_J, n_N_R, n_N_r, n_R_I, n_R_J, n_R_r, n_J_I, n_J_R, n_J_r, n_I_J, n_I_R, n_n_I, n_n_J, n_n_R, n_n_r, n_w_I, n_w_J, n_w_R, n_w_r, n_T_I, n_T_J, n_T_R, n_T_r, rI_ne, rI_nk, rI_eq, rr_ne, rr_eq, n_J_J, n_R_R, Nat.add_left_cancel_iff, Nat.add_right_cancel_iff, Nat.add_eq_left, Nat.left_eq_add, Nat.reduceEqDiff, Nat.reduceAdd, Nat.zero_ne_one, Nat.one_ne_zero, false_and, and_false, true_and, and_true, and_self, if_false, if_true, ↓reduceIte, nL, nI_add, nI_mul, nI_clamp, nI_ltI, nI_leI, nI_eq, nI_pos, nI_pos', Nat.reduceAdd, Nat.reduceMul, Nat.reducePow, sk_33 hvt, sr_33_0 hvt, sr_33_1 hvt, sr_33_2 hvt, sr_33_3 hvt, sk_36 hvt, sn_36 hvt, z, z3, z4, s_bitOf, nI_bit, c, s_partOf hvt hM z2 hWt, nI_ad]
      have e1 : L ++ ptC E M h :: prt (ptC E M) m (h + 1) (ad l (ptC E M h)) = (L ++ [ptC E M h]) ++ prt (ptC E M) m (h + 1) (ad l (ptC E M h)) := by simp
      rw [e1] at K
      have := ih (h + 1) (ad l (ptC E M h)) (L ++ [ptC E M h]) (sI τ (B + 36) L.length (nI (ptC E M h))) (by omega) (ad_lt hl) (by simp; omega) (Sm_I hS rfl) hW ?_ K
      · simp only [List.length_append, List.length_cons, List.length_nil, Nat.zero_add] at this
        exact this
      · intro j hj
        simp only [List.length_append, List.length_cons, List.length_nil, Nat.zero_add] at hj
        by_cases cj : j = L.length
        · subst cj; rw [rI_eq, getD_last]
        · rw [rI_nk cj, getD_app (by omega)]; exact hF j (by omega)
    · have c' : l.testBit h = false := by simpa using c
      rw [if_neg c] at K
      simp (disch := omega) only [e_5_36, e_5_38, e_5_41, e_5_43, e_5_45, e_5_48, e_5_49, e_5_86, e_5_89, n10, n01, Nat.lt_irrefl, Nat.not_lt_zero, ne_eq, Nat.add_zero, Nat.one_ne_zero, Nat.zero_ne_one, Nat.reduceEqDiff, bI_T, bI_F, bI_0, bI_1, bI_01, not_and_self, true_and, and_true, not_true_eq_false, not_false_eq_true, false_imp_iff, true_imp_iff, imp_self, gPv_n, gPv_i, gPv_r, gPv_0, Option.toList_some, Option.toList_none, List.singleton_append, List.cons_append, List.nil_append, List.length_nil, List.length_cons, Nat.zero_le, Nat.reduceAdd, Nat.reduceLeDiff, or_true, true_or, false_or, or_false, and_self, and_false, false_and, implies_true, Option.some.injEq, exists_eq_left', nL, nI_add, nI_mul, nI_clamp, nI_ltI, nI_leI, nI_eq, nI_pos, nI_pos', Nat.reduceAdd, Nat.reduceMul, Nat.reducePow, z, s_bitOf, nI_bit, c', Bool.false_eq_true]
      exact ih (h + 1) l L τ (by omega) hl (by omega) hS hW hF K
/-- the list of parts -/
def ptL (E : Nat → Nat) (M : Nat) : List Nat := prt (ptC E M) 12 0 M
theorem s_findParts {r M : Nat} (hv : IvS B σ) (hr : r = B + 29 ∨ r = B + 51) (hE : ∀ h, E h < 4096) (hM : M < 4096) (hR : ∀ j, j < 12 → gI σ r j = nI (E j)) (K : ∀ τ, Sm (fun a => a = B + 35 ∨ a = B + 36) σ τ → (∀ j, j < (ptL E M).length → gI τ (B + 36) j = nI ((ptL E M).getD j 0)) → Q (some (.int (nI (ptL E M).length))) τ) : wc (d + 4) 5 [.ref (B + 33), .ref r, .int (nI M)] σ Q := by
  simp (disch := omega) only [c_5, e_5_0, e_5_1, n10, n01, Nat.lt_irrefl, Nat.not_lt_zero, ne_eq, Nat.add_zero, Nat.one_ne_zero, Nat.zero_ne_one, Nat.reduceEqDiff, bI_T, bI_F, bI_0, bI_1, bI_01, not_and_self, true_and, and_true, not_true_eq_false, not_false_eq_true, false_imp_iff, true_imp_iff, imp_self, gPv_n, gPv_i, gPv_r, gPv_0, Option.toList_some, Option.toList_none, List.singleton_append, List.cons_append, List.nil_append, List.length_nil, List.length_cons, Nat.zero_le, Nat.reduceAdd, Nat.reduceLeDiff, or_true, true_or, false_or, or_false, and_self, and_false, false_and, implies_true, Option.some.injEq, exists_eq_left', nL]
  refine s_fp1 hv hr hE hM hR 12 0 σ (by omega) (Sm_refl _ _) (fun j hj => absurd hj (by omega)) ?_
  intro τ hS hW
  have hvt : IvS B τ := fr_IvS hS.1 hS.2.1 hS.2.2.1 hv
  simp (disch := omega) only [e_5_26, e_5_27, e_5_28, e_5_29, e_5_31, e_5_32, n10, n01, Nat.lt_irrefl, Nat.not_lt_zero, ne_eq, Nat.add_zero, Nat.one_ne_zero, Nat.zero_ne_one, Nat.reduceEqDiff, bI_T, bI_F, bI_0, bI_1, bI_01, not_and_self, true_and, and_true, not_true_eq_false, not_false_eq_true, false_imp_iff, true_imp_iff, imp_self, gPv_n, gPv_i, gPv_r, gPv_0, Option.toList_some, Option.toList_none, List.singleton_append, List.cons_append, List.nil_append, List.length_nil, List.length_cons, Nat.zero_le, Nat.reduceAdd, Nat.reduceLeDiff, or_true, true_or, false_or, or_false, and_self, and_false, false_and, implies_true, Option.some.injEq, exists_eq_left', nL]
  refine s_fp2 (L := []) hvt hM 12 0 M τ (by omega) hM (by simp) (Sm_refl _ _) hW (fun j hj => absurd hj (by simp)) ?_
  intro τ' hS' hF
  exact K τ' (Sm_trans (Sm_mono hS (fun a ha => Or.inl ha)) (Sm_mono hS' (fun a ha => Or.inr ha))) hF
end
