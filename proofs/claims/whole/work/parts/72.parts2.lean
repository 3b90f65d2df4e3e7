/-! parts: the model, the obligation -/
def NE (B n : Nat) (E : Nat → Nat) (τ : gS) : Prop := (∀ h, h < n → gI τ (B + 66) h = nI (E h)) ∧ gI τ (B + 54) 30 = -nI 1 ∧ gI τ (B + 54) 32 = -nI 1
def PmI (B : Nat) (σ τ : gS) : Prop := Sm (fun a => a = B + 54 ∨ a = B + 73) σ τ ∧ ∀ j, j ≠ 39 → gI τ (B + 54) j = gI σ (B + 54) j
section
variable {B : Nat} {own : Nat → Nat} {σ : gS} {A : Nat → Int32} {d : Nat} {Q : Option Value → gS → Prop} {E : Nat → Nat}
theorem NX_1 {n : Nat} {τ : gS} (hv : IvS B τ) (hn : n ≤ 12) (h : NE B n E τ) : NX B τ n E := by
  obtain ⟨q66, q30, q32⟩ := h
  intro h hh d Q
  have e := q66 h hh
  have z : h < 12 := by omega
  simp (disch := omega) only [c_237, e_237_0, e_237_1, e_237_4, e_237_5, e_237_6, e_237_7, e_237_8, e_237_11, e_237_12, e_237_49, e_237_50, e_237_53, e_237_54, e_237_91, e_237_92, n10, n01, Nat.lt_irrefl, Nat.not_lt_zero, ne_eq, Nat.add_zero, Nat.one_ne_zero, Nat.zero_ne_one, Nat.reduceEqDiff, bI_T, bI_F, bI_0, bI_1, bI_01, not_and_self, true_and, and_true, not_true_eq_false, not_false_eq_true, false_imp_iff, true_imp_iff, imp_self, gPv_n, gPv_i, gPv_r, gPv_0, Option.toList_some, Option.toList_none, List.singleton_append, List.cons_append, List.nil_append, List.length_nil, List.length_cons, Nat.zero_le, Nat.reduceAdd, Nat.reduceLeDiff, or_true, true_or, false_or, or_false, and_self, and_false, false_and, implies_true, Option.some.injEq, exists_eq_left', nL, nI_add, nI_mul, nI_clamp, nI_ltI, nI_leI, nI_eq, nI_pos, nI_pos', Nat.reduceAdd, Nat.reduceMul, Nat.reducePow, sk_54 hv, sr_54_2 hv, sr_54_3 hv, sr_54_4 hv, sr_54_5 hv, sr_54_7 hv, sr_54_8 hv, sr_54_9 hv, sr_54_12 hv, sr_54_13 hv, sr_54_14 hv, sr_54_22 hv, sr_54_25 hv, sr_54_26 hv, sr_54_27 hv, sr_54_34 hv, sr_54_35 hv, sr_54_36 hv, sr_54_37 hv, sr_54_38 hv, sr_54_40 hv, sr_54_43 hv, sr_54_44 hv, sr_54_45 hv, sr_54_46 hv, sr_54_47 hv, sk_66 hv, sn_66 hv, e, z, q30, q32]
theorem PmI_X {τ : gS} (X : MX B σ A) (h : PmI B σ τ) : MX B τ A := MX_S X h.1 (by omega)
theorem PmI_N {n : Nat} {τ : gS} (hN : NE B n E σ) (h : PmI B σ τ) : NE B n E τ := by
  simp only [NE, h.1.2.2.2.2.2.2.1 (B + 66) (by omega), h.2 30 (by omega), h.2 32 (by omega)]
  exact hN
abbrev rcM (A : Nat → Int32) (E : Nat → Nat) (wo h : Nat) : Nat := rc (fun g => ad (E g) wo) (hn A) (ad (2 ^ h) wo)
def ptM (A : Nat → Int32) (E : Nat → Nat) (wo h : Nat) : Nat := mkN (fun g => (rcM A E wo h).testBit g && (rcM A E wo g).testBit h) (hn A)
theorem rcM_lt {wo h : Nat} (hE : ∀ h, E h < 4096) (hh : h < 12) : rcM A E wo h < 4096 := rc_lt (fun _ => ad_lt (hE _)) (ad_lt (Nat.pow_lt_pow_right (by decide) hh))
theorem t_pm1 {wo h l : Nat} {Q : Option Value → gS → Prop} (X : MX B σ A) (hN : NX B σ (hn A) E) (hE : ∀ h, E h < 4096) (hh : h < hn A) : ∀ m g, g + m = hn A → (wp (d + 4) pr_245 Q 51 [some (.ref (B + 54)), some (.int (nI wo)), some (.int (nI l)), some (.int (nI h)), some (.int (nI (rcM A E wo h))), some (.int (nI (mkN (fun g => (rcM A E wo h).testBit g && (rcM A E wo g).testBit h) g))), some (.int (nI g))] [] σ ↔ wp (d + 4) pr_245 Q 105 [some (.ref (B + 54)), some (.int (nI wo)), some (.int (nI l)), some (.int (nI h)), some (.int (nI (rcM A E wo h))), some (.int (nI (ptM A E wo h))), some (.int (nI (hn A)))] [] σ) := by
  obtain ⟨hv, hA, wh, wd, wl⟩ := id X
  have h12 := hn_le wh
  have hn2 := hn_eq wh
  have l1 := rcM_lt (A := A) (wo := wo) (h := h) hE (by omega)
  intro m
  induction m with
  | zero =>
    intro g hg
    have e : g = hn A := by omega
    subst e
    simp (disch := omega) only [e_245_51, e_245_53, e_245_54, e_245_57, n10, n01, Nat.lt_irrefl, Nat.not_lt_zero, ne_eq, Nat.add_zero, Nat.one_ne_zero, Nat.zero_ne_one, Nat.reduceEqDiff, bI_T, bI_F, bI_0, bI_1, bI_01, not_and_self, true_and, and_true, not_true_eq_false, not_false_eq_true, false_imp_iff, true_imp_iff, imp_self, gPv_n, gPv_i, gPv_r, gPv_0, Option.toList_some, Option.toList_none, List.singleton_append, List.cons_append, List.nil_append, List.length_nil, List.length_cons, Nat.zero_le, Nat.reduceAdd, Nat.reduceLeDiff, or_true, true_or, false_or, or_false, and_self, and_false, false_and, implies_true, Option.some.injEq, exists_eq_left', nL, nI_add, nI_mul, nI_clamp, nI_ltI, nI_leI, nI_eq, nI_pos, nI_pos', Nat.reduceAdd, Nat.reduceMul, Nat.reducePow, sk_54 hv, sr_54_2 hv, sr_54_3 hv, sr_54_4 hv, sr_54_5 hv, sr_54_7 hv, sr_54_8 hv, sr_54_9 hv, sr_54_12 hv, sr_54_13 hv, sr_54_14 hv, sr_54_22 hv, sr_54_25 hv, sr_54_26 hv, sr_54_27 hv, sr_54_34 hv, sr_54_35 hv, sr_54_36 hv, sr_54_37 hv, sr_54_38 hv, sr_54_40 hv, sr_54_43 hv, sr_54_44 hv, sr_54_45 hv, sr_54_46 hv, sr_54_47 hv, t_houses hv, hA, hn2, Nat.le_refl, ptM]
  | succ m ih =>
    intro g hg
    have z : ¬ hn A ≤ g := by omega
    have l2 := rcM_lt (A := A) (wo := wo) (h := g) hE (by omega)
    have p2 : 2 ^ g < 2 ^ 12 := Nat.pow_lt_pow_right (by decide) (by omega)
    have tr : ∀ (d : Nat) (Q : Option Value → gS → Prop), wc (d + 4) 239 [.ref (B + 54), .int (nI (2 ^ g)), .int (nI wo)] σ Q ↔ Q (some (.int (nI (rcM A E wo g)))) σ := fun d Q => t_reach X hN hE p2
    rw [e_245_51]
    by_cases c1 : (rcM A E wo h).testBit g = true
    · by_cases c2 : (rcM A E wo g).testBit h = true
      · simp (disch := omega) only [e_245_53, e_245_54, e_245_57, e_245_60, e_245_62, e_245_64, e_245_66, e_245_69, e_245_72, e_245_73, e_245_74, e_245_76, e_245_77, e_245_78, e_245_81, e_245_82, e_245_85, e_245_88, e_245_89, e_245_91, e_245_92, e_245_95, e_245_96, e_245_97, e_245_99, e_245_102, n10, n01, Nat.lt_irrefl, Nat.not_lt_zero, ne_eq, Nat.add_zero, Nat.one_ne_zero, Nat.zero_ne_one, Nat.reduceEqDiff, bI_T, bI_F, bI_0, bI_1, bI_01, not_and_self, true_and, and_true, not_true_eq_false, not_false_eq_true, false_imp_iff, true_imp_iff, imp_self, gPv_n, gPv_i, gPv_r, gPv_0, Option.toList_some, Option.toList_none, List.singleton_append, List.cons_append, List.nil_append, List.length_nil, List.length_cons, Nat.zero_le, Nat.reduceAdd, Nat.reduceLeDiff, or_true, true_or, false_or, or_false, and_self, and_false, false_and, implies_true, Option.some.injEq, exists_eq_left', nL, nI_add, nI_mul, nI_clamp, nI_ltI, nI_leI, nI_eq, nI_pos, nI_pos', Nat.reduceAdd, Nat.reduceMul, Nat.reducePow, sk_54 hv, sr_54_2 hv, sr_54_3 hv, sr_54_4 hv, sr_54_5 hv, sr_54_7 hv, sr_54_8 hv, sr_54_9 hv, sr_54_12 hv, sr_54_13 hv, sr_54_14 hv, sr_54_22 hv, sr_54_25 hv, sr_54_26 hv, sr_54_27 hv, sr_54_34 hv, sr_54_35 hv, sr_54_36 hv, sr_54_37 hv, sr_54_38 hv, sr_54_40 hv, sr_54_43 hv, sr_54_44 hv, sr_54_45 hv, sr_54_46 hv, sr_54_47 hv, t_houses hv, hA, hn2, z, t_isIn, c1, nI_shl, Nat.one_mul, tr, c2, nI_or]
        rw [← ih (g + 1) (by omega)]
        simp only [mkN, c1, c2, Bool.and_self, if_true]
      · have c2' : (rcM A E wo g).testBit h = false := by simpa using c2
        simp (disch := omega) only [e_245_53, e_245_54, e_245_57, e_245_60, e_245_62, e_245_64, e_245_66, e_245_69, e_245_72, e_245_73, e_245_74, e_245_76, e_245_77, e_245_78, e_245_81, e_245_82, e_245_85, e_245_88, e_245_89, e_245_91, e_245_92, e_245_95, e_245_96, e_245_97, e_245_99, e_245_102, n10, n01, Nat.lt_irrefl, Nat.not_lt_zero, ne_eq, Nat.add_zero, Nat.one_ne_zero, Nat.zero_ne_one, Nat.reduceEqDiff, bI_T, bI_F, bI_0, bI_1, bI_01, not_and_self, true_and, and_true, not_true_eq_false, not_false_eq_true, false_imp_iff, true_imp_iff, imp_self, gPv_n, gPv_i, gPv_r, gPv_0, Option.toList_some, Option.toList_none, List.singleton_append, List.cons_append, List.nil_append, List.length_nil, List.length_cons, Nat.zero_le, Nat.reduceAdd, Nat.reduceLeDiff, or_true, true_or, false_or, or_false, and_self, and_false, false_and, implies_true, Option.some.injEq, exists_eq_left', nL, nI_add, nI_mul, nI_clamp, nI_ltI, nI_leI, nI_eq, nI_pos, nI_pos', Nat.reduceAdd, Nat.reduceMul, Nat.reducePow, sk_54 hv, sr_54_2 hv, sr_54_3 hv, sr_54_4 hv, sr_54_5 hv, sr_54_7 hv, sr_54_8 hv, sr_54_9 hv, sr_54_12 hv, sr_54_13 hv, sr_54_14 hv, sr_54_22 hv, sr_54_25 hv, sr_54_26 hv, sr_54_27 hv, sr_54_34 hv, sr_54_35 hv, sr_54_36 hv, sr_54_37 hv, sr_54_38 hv, sr_54_40 hv, sr_54_43 hv, sr_54_44 hv, sr_54_45 hv, sr_54_46 hv, sr_54_47 hv, t_houses hv, hA, hn2, z, t_isIn, c1, nI_shl, Nat.one_mul, tr, c2', Bool.false_eq_true, nI_or]
        rw [← ih (g + 1) (by omega)]
        simp only [mkN, c2', Bool.and_false, Bool.false_eq_true, if_false]
    · have c1' : (rcM A E wo h).testBit g = false := by simpa using c1
      simp (disch := omega) only [e_245_53, e_245_54, e_245_57, e_245_60, e_245_62, e_245_64, e_245_66, e_245_69, e_245_95, e_245_96, e_245_97, e_245_99, e_245_102, n10, n01, Nat.lt_irrefl, Nat.not_lt_zero, ne_eq, Nat.add_zero, Nat.one_ne_zero, Nat.zero_ne_one, Nat.reduceEqDiff, bI_T, bI_F, bI_0, bI_1, bI_01, not_and_self, true_and, and_true, not_true_eq_false, not_false_eq_true, false_imp_iff, true_imp_iff, imp_self, gPv_n, gPv_i, gPv_r, gPv_0, Option.toList_some, Option.toList_none, List.singleton_append, List.cons_append, List.nil_append, List.length_nil, List.length_cons, Nat.zero_le, Nat.reduceAdd, Nat.reduceLeDiff, or_true, true_or, false_or, or_false, and_self, and_false, false_and, implies_true, Option.some.injEq, exists_eq_left', nL, nI_add, nI_mul, nI_clamp, nI_ltI, nI_leI, nI_eq, nI_pos, nI_pos', Nat.reduceAdd, Nat.reduceMul, Nat.reducePow, sk_54 hv, sr_54_2 hv, sr_54_3 hv, sr_54_4 hv, sr_54_5 hv, sr_54_7 hv, sr_54_8 hv, sr_54_9 hv, sr_54_12 hv, sr_54_13 hv, sr_54_14 hv, sr_54_22 hv, sr_54_25 hv, sr_54_26 hv, sr_54_27 hv, sr_54_34 hv, sr_54_35 hv, sr_54_36 hv, sr_54_37 hv, sr_54_38 hv, sr_54_40 hv, sr_54_43 hv, sr_54_44 hv, sr_54_45 hv, sr_54_46 hv, sr_54_47 hv, t_houses hv, hA, hn2, z, t_isIn, c1', Bool.false_eq_true, nI_or]
      rw [← ih (g + 1) (by omega)]
      simp only [mkN, c1', Bool.false_and, Bool.false_eq_true, if_false]
theorem t_pm2 {wo : Nat} (X : MX B σ A) (hNE : NE B (hn A) E σ) (hE : ∀ h, E h < 4096) : ∀ m h l (L : List Nat) τ (x4 x5 x6 : Option Value), h + m = hn A → l < 4096 → L.length ≤ h → PmI B σ τ → gI τ (B + 54) 39 = nI L.length → (∀ j, j < L.length → gI τ (B + 73) j = nI (L.getD j 0)) →
    (∀ τ', PmI B σ τ' → gI τ' (B + 54) 39 = nI (L ++ prt (ptM A E wo) m h l).length → (∀ j, j < (L ++ prt (ptM A E wo) m h l).length → gI τ' (B + 73) j = nI ((L ++ prt (ptM A E wo) m h l).getD j 0)) → Q none τ') →
    wp (d + 4) pr_245 Q 16 [some (.ref (B + 54)), some (.int (nI wo)), some (.int (nI l)), some (.int (nI h)), x4, x5, x6] [] τ := by
  obtain ⟨_, _, wh, wd, wl⟩ := id X
  have h12 := hn_le wh
  have hn2 := hn_eq wh
  intro m
  induction m with
  | zero =>
    intro h l L τ x4 x5 x6 hh hl hL hP h39 hF K
    obtain ⟨hv, hA, _⟩ := PmI_X X hP
    have z : hn A ≤ h := by omega
    simp only [prt, List.append_nil] at K
    simp (disch := omega) only [e_245_16, e_245_17, e_245_18, e_245_21, e_245_139, n10, n01, Nat.lt_irrefl, Nat.not_lt_zero, ne_eq, Nat.add_zero, Nat.one_ne_zero, Nat.zero_ne_one, Nat.reduceEqDiff, bI_T, bI_F, bI_0, bI_1, bI_01, not_and_self, true_and, and_true, not_true_eq_false, not_false_eq_true, false_imp_iff, true_imp_iff, imp_self, gPv_n, gPv_i, gPv_r, gPv_0, Option.toList_some, Option.toList_none, List.singleton_append, List.cons_append, List.nil_append, List.length_nil, List.length_cons, Nat.zero_le, Nat.reduceAdd, Nat.reduceLeDiff, or_true, true_or, false_or, or_false, and_self, and_false, false_and, implies_true, Option.some.injEq, exists_eq_left', nL, nI_add, nI_mul, nI_clamp, nI_ltI, nI_leI, nI_eq, nI_pos, nI_pos', Nat.reduceAdd, Nat.reduceMul, Nat.reducePow, sk_54 hv, sr_54_2 hv, sr_54_3 hv, sr_54_4 hv, sr_54_5 hv, sr_54_7 hv, sr_54_8 hv, sr_54_9 hv, sr_54_12 hv, sr_54_13 hv, sr_54_14 hv, sr_54_22 hv, sr_54_25 hv, sr_54_26 hv, sr_54_27 hv, sr_54_34 hv, sr_54_35 hv, sr_54_36 hv, sr_54_37 hv, sr_54_38 hv, sr_54_40 hv, sr_54_43 hv, sr_54_44 hv, sr_54_45 hv, sr_54_46 hv, sr_54_47 hv, t_houses hv, hA, hn2, z]
    exact K τ hP h39 hF
  | succ m ih =>
    intro h l L τ x4 x5 x6 hh hl hL hP h39 hF K
    have Xt := PmI_X X hP
    obtain ⟨hv, hA, _⟩ := id Xt
    have hN := NX_1 hv h12 (PmI_N hNE hP)
    have z : ¬ hn A ≤ h := by omega
    have p2 : 2 ^ h < 2 ^ 12 := Nat.pow_lt_pow_right (by decide) (by omega)
    have z4 : L.length < 12 := by omega
    simp only [prt] at K
    rw [e_245_16]
    by_cases c : l.testBit h = true
    · rw [if_pos c] at K
      simp (disch := omega) only [e_245_17, e_245_18, e_245_21, e_245_24, e_245_25, e_245_26, e_245_29, e_245_32, e_245_35, e_245_36, e_245_37, e_245_38, e_245_39, e_245_40, e_245_43, e_245_45, e_245_46, e_245_48, e_245_49, n10, n01, Nat.lt_irrefl, Nat.not_lt_zero, ne_eq, Nat.add_zero, Nat.one_ne_zero, Nat.zero_ne_one, Nat.reduceEqDiff, bI_T, bI_F, bI_0, bI_1, bI_01, not_and_self, true_and, and_true, not_true_eq_false, not_false_eq_true, false_imp_iff, true_imp_iff, imp_self, gPv_n, gPv_i, gPv_r, gPv_0, Option.toList_some, Option.toList_none, List.singleton_append, List.cons_append, List.nil_append, List.length_nil, List.length_cons, Nat.zero_le, Nat.reduceAdd, Nat.reduceLeDiff, or_true, true_or, false_or, or_false, and_self, and_false, false_and, implies_true, Option.some.injEq, exists_eq_left', nL, nI_add, nI_mul, nI_clamp, nI_ltI, nI_leI, nI_eq, nI_pos, nI_pos', Nat.reduceAdd, Nat.reduceMul, Nat.reducePow, sk_54 hv, sr_54_2 hv, sr_54_3 hv, sr_54_4 hv, sr_54_5 hv, sr_54_7 hv, sr_54_8 hv, sr_54_9 hv, sr_54_12 hv, sr_54_13 hv, sr_54_14 hv, sr_54_22 hv, sr_54_25 hv, sr_54_26 hv, sr_54_27 hv, sr_54_34 hv, sr_54_35 hv, sr_54_36 hv, sr_54_37 hv, sr_54_38 hv, sr_54_40 hv, sr_54_43 hv, sr_54_44 hv, sr_54_45 hv, sr_54_46 hv, sr_54_47 hv, t_houses hv, hA, hn2, z, t_isIn, c, nI_shl, Nat.one_mul, t_reach Xt hN hE p2]
      have r := t_pm1 (d := d) (wo := wo) (h := h) (l := l) (Q := Q) Xt hN hE (by omega) (hn A) 0 (by omega)
      simp only [mkN] at r
      rw [r]
      simp (disch := omega) only [e_245_105, e_245_106, e_245_109, e_245_110, e_245_113, e_245_115, e_245_116, e_245_117, e_245_117n, e_245_118, e_245_121, e_245_122, e_245_123, e_245_126, e_245_127, e_245_129, e_245_130, e_245_131, e_245_132, e_245_133, e_245_136, n10, n01, Nat.lt_irrefl, Nat.not_lt_zero, ne_eq, Nat.add_zero, Nat.one_ne_zero, Nat.zero_ne_one, Nat.reduceEqDiff, bI_T, bI_F, bI_0, bI_1, bI_01, not_and_self, true_and, and_true, not_true_eq_false, not_false_eq_true, false_imp_iff, true_imp_iff, imp_self, gPv_n, gPv_i, gPv_r, gPv_0, Option.toList_some, Option.toList_none, List.singleton_append, List.cons_append, List.nil_append, List.length_nil, List.length_cons, Nat.zero_le, Nat.reduceAdd, Nat.reduceLeDiff, or_true, true_or, false_or, or_false, and_self, and_false, false_and, implies_true, Option.some.injEq, exists_eq_left', n_K_I, n_K_J, n_K_R, n_K_r, n_N_I, n_N_J, n_N_R, n_N_r, n_R_I, n_R_J, n_R_r, n_J_I, n_J_R, n_J_r, n_I_J, n_I_R, n_n_I, n_n_J, n_n_R, n_n_r, n_w_I, n_w_J, n_w_R, n_w_r, n_T_I, n_T_J, n_T_R, n_T_r, rI_ne, rI_nk, rI_eq, rr_ne, rr_eq, n_J_J, n_R_R, Nat.add_left_cancel_iff, Nat.add_right_cancel_iff, Nat.add_eq_left, Nat.left_eq_add, Nat.reduceEqDiff, Nat.reduceAdd, Nat.zero_ne_one, Nat.one_ne_zero, false_and, and_false, true_and, and_true, and_self, if_false, if_true, ↓reduceIte, nL, nI_add, nI_mul, nI_clamp, nI_ltI, nI_leI, nI_eq, nI_pos, nI_pos', Nat.reduceAdd, Nat.reduceMul, Nat.reducePow, sk_54 hv, sr_54_2 hv, sr_54_3 hv, sr_54_4 hv, sr_54_5 hv, sr_54_7 hv, sr_54_8 hv, sr_54_9 hv, sr_54_12 hv, sr_54_13 hv, sr_54_14 hv, sr_54_22 hv, sr_54_25 hv, sr_54_26 hv, sr_54_27 hv, sr_54_34 hv, sr_54_35 hv, sr_54_36 hv, sr_54_37 hv, sr_54_38 hv, sr_54_40 hv, sr_54_43 hv, sr_54_44 hv, sr_54_45 hv, sr_54_46 hv, sr_54_47 hv, sk_73 hv, sn_73 hv, h39, z4, nI_ad]
      have e1 : L ++ ptM A E wo h :: prt (ptM A E wo) m (h + 1) (ad l (ptM A E wo h)) = (L ++ [ptM A E wo h]) ++ prt (ptM A E wo) m (h + 1) (ad l (ptM A E wo h)) := by simp
      rw [e1] at K
      refine ih (h + 1) (ad l (ptM A E wo h)) (L ++ [ptM A E wo h]) _ _ _ _ (by omega) (ad_lt hl) (by simp; omega) ⟨Sm_I (Sm_I hP.1 (Or.inr rfl)) (Or.inl rfl), ?_⟩ ?_ ?_ K
      · intro j hj
        rw [rI_nk hj, rI_ne (by omega)]
        exact hP.2 j hj
      · simp only [rI_eq, List.length_append, List.length_cons, List.length_nil, Nat.zero_add]
      · intro j hj
        simp only [List.length_append, List.length_cons, List.length_nil, Nat.zero_add] at hj
        rw [rI_ne (by omega)]
        by_cases cj : j = L.length
        · subst cj; rw [rI_eq, getD_last]
        · rw [rI_nk cj, getD_app (by omega)]; exact hF j (by omega)
    · have c' : l.testBit h = false := by simpa using c
      rw [if_neg c] at K
      simp (disch := omega) only [e_245_17, e_245_18, e_245_21, e_245_24, e_245_25, e_245_26, e_245_29, e_245_32, e_245_133, e_245_136, n10, n01, Nat.lt_irrefl, Nat.not_lt_zero, ne_eq, Nat.add_zero, Nat.one_ne_zero, Nat.zero_ne_one, Nat.reduceEqDiff, bI_T, bI_F, bI_0, bI_1, bI_01, not_and_self, true_and, and_true, not_true_eq_false, not_false_eq_true, false_imp_iff, true_imp_iff, imp_self, gPv_n, gPv_i, gPv_r, gPv_0, Option.toList_some, Option.toList_none, List.singleton_append, List.cons_append, List.nil_append, List.length_nil, List.length_cons, Nat.zero_le, Nat.reduceAdd, Nat.reduceLeDiff, or_true, true_or, false_or, or_false, and_self, and_false, false_and, implies_true, Option.some.injEq, exists_eq_left', nL, nI_add, nI_mul, nI_clamp, nI_ltI, nI_leI, nI_eq, nI_pos, nI_pos', Nat.reduceAdd, Nat.reduceMul, Nat.reducePow, sk_54 hv, sr_54_2 hv, sr_54_3 hv, sr_54_4 hv, sr_54_5 hv, sr_54_7 hv, sr_54_8 hv, sr_54_9 hv, sr_54_12 hv, sr_54_13 hv, sr_54_14 hv, sr_54_22 hv, sr_54_25 hv, sr_54_26 hv, sr_54_27 hv, sr_54_34 hv, sr_54_35 hv, sr_54_36 hv, sr_54_37 hv, sr_54_38 hv, sr_54_40 hv, sr_54_43 hv, sr_54_44 hv, sr_54_45 hv, sr_54_46 hv, sr_54_47 hv, t_houses hv, hA, hn2, z, t_isIn, c', Bool.false_eq_true]
      exact ih (h + 1) l L τ _ _ _ (by omega) hl (by omega) hP h39 hF K
theorem rcM_s {wo h j : Nat} (hE : EdG A E) (hh : (mkN (St A) (hn A)).testBit h = true) (hj : (rcM A E wo h).testBit j = true) : (mkN (St A) (hn A)).testBit j = true := by
  refine rc_min (C := fun j => (mkN (St A) (hn A)).testBit j = true) ?_ ?_ hj
  · intro g _ _ j hj
    rw [tb_ad] at hj
    simp only [Bool.and_eq_true] at hj
    exact hE.2.2 g j hj.1
  · intro j hj
    rw [tb_ad, Nat.testBit_two_pow] at hj
    simp only [Bool.and_eq_true, decide_eq_true_eq] at hj
    rw [← hj.1]
    exact hh
theorem pt_eq {wo h : Nat} (wh : Wh A) (hE : EdG A E) (hh : (ad (mkN (St A) (hn A)) wo).testBit h = true) : ptC E (ad (mkN (St A) (hn A)) wo) h = ptM A E wo h := by
  have h12 := hn_le wh
  rw [tb_ad] at hh
  simp only [Bool.and_eq_true] at hh
  have key : ∀ g, (mkN (St A) (hn A)).testBit g = true → rcC E (ad (mkN (St A) (hn A)) wo) g = rcM A E wo g := by
    intro g hg
    rw [tb_mk] at hg
    simp only [Bool.and_eq_true, decide_eq_true_eq] at hg
    exact rc_cm wh hE.1 hE.2.1 hE.2.2 hg.1 hg.2
  refine Nat.eq_of_testBit_eq ?_
  intro j
  rw [ptC, ptM, tb_mk, tb_mk, key h hh.1]
  cases hj : (rcM A E wo h).testBit j
  · simp
  · have hs := rcM_s hE hh.1 hj
    rw [key j hs]
    rw [tb_mk] at hs
    simp only [Bool.and_eq_true, decide_eq_true_eq] at hs
    have a1 : j < 12 := by omega
    simp [hs.1, a1]
theorem ptL_m {wo : Nat} (wh : Wh A) (hE : EdG A E) : ptL E (ad (mkN (St A) (hn A)) wo) = prt (ptM A E wo) (hn A) 0 (ad (mkN (St A) (hn A)) wo) := by
  have h12 := hn_le wh
  rw [ptL, prt_c (P' := ptM A E wo) (s := ad (mkN (St A) (hn A)) wo) (fun h hh => pt_eq wh hE hh) 12 0 _ (fun _ z => z)]
  have := prt_add (P := ptM A E wo) (n := hn A) (hn A) (12 - hn A) 0 (ad (mkN (St A) (hn A)) wo) (by omega) (fun j hj => by rw [tb_ad, tb_mk]; simp; intro z; omega)
  rw [show hn A + (12 - hn A) = 12 from by omega] at this
  exact this
theorem t_partsOf {wo : Nat} (X : MX B σ A) (hNE : NE B (hn A) E σ) (hE : EdG A E) (K : ∀ τ, PmI B σ τ → gI τ (B + 54) 39 = nI (ptL E (ad (mkN (St A) (hn A)) wo)).length → (∀ j, j < (ptL E (ad (mkN (St A) (hn A)) wo)).length → gI τ (B + 73) j = nI ((ptL E (ad (mkN (St A) (hn A)) wo)).getD j 0)) → Q none τ) : wc (d + 5) 245 [.ref (B + 54), .int (nI wo)] σ Q := by
  obtain ⟨hv, hA, wh, wd, wl⟩ := id X
  have wh' : Wh (gI σ (B + 56)) := by rw [hA]; exact wh
  have ml : mkN (St A) (hn A) < 4096 := mk_lt12 (hn_le wh)
  rw [ptL_m wh hE] at K
  have e56 : gI (sI σ (B + 54) 39 (nI 0)) (B + 56) = gI σ (B + 56) := rI_ne (by omega)
  have st := fun (d : Nat) (Q : Option Value → gS → Prop) => t_standing (d := d) (Q := Q) (σ := sI σ (B + 54) 39 (nI 0)) (IvS_I.mpr hv) (by rw [e56]; exact wh')
  simp only [e56, hA] at st
  simp (disch := omega) only [c_245, e_245_0, e_245_1, e_245_2, e_245_5, e_245_6, e_245_9, e_245_10, e_245_11, e_245_12, e_245_13, e_245_14, e_245_15, n10, n01, Nat.lt_irrefl, Nat.not_lt_zero, ne_eq, Nat.add_zero, Nat.one_ne_zero, Nat.zero_ne_one, Nat.reduceEqDiff, bI_T, bI_F, bI_0, bI_1, bI_01, not_and_self, true_and, and_true, not_true_eq_false, not_false_eq_true, false_imp_iff, true_imp_iff, imp_self, gPv_n, gPv_i, gPv_r, gPv_0, Option.toList_some, Option.toList_none, List.singleton_append, List.cons_append, List.nil_append, List.length_nil, List.length_cons, Nat.zero_le, Nat.reduceAdd, Nat.reduceLeDiff, or_true, true_or, false_or, or_false, and_self, and_false, false_and, implies_true, Option.some.injEq, exists_eq_left', nL, sk_54 hv, sr_54_2 hv, sr_54_3 hv, sr_54_4 hv, sr_54_5 hv, sr_54_7 hv, sr_54_8 hv, sr_54_9 hv, sr_54_12 hv, sr_54_13 hv, sr_54_14 hv, sr_54_22 hv, sr_54_25 hv, sr_54_26 hv, sr_54_27 hv, sr_54_34 hv, sr_54_35 hv, sr_54_36 hv, sr_54_37 hv, sr_54_38 hv, sr_54_40 hv, sr_54_43 hv, sr_54_44 hv, sr_54_45 hv, sr_54_46 hv, sr_54_47 hv, n_K_I, st, nI_ad]
  refine t_pm2 (L := []) X hNE hE.1 (hn A) 0 _ _ _ _ _ (by omega) (ad_lt ml) (by simp) ⟨Sm_I (Sm_refl _ _) (Or.inl rfl), fun j hj => rI_nk hj⟩ (by rw [rI_eq]; rfl) (fun j hj => absurd hj (by simp)) K
theorem NE_q {v : Nat} {τ : gS} (hq : QM B A v σ τ) : NE B (hn A) (opn A (A 249)) τ := ⟨hq.2.2.2.2.2.1, hq.2.2.1⟩
theorem QM_P {v : Nat} {τ τ' : gS} (hq : QM B A v σ τ) (hP : PmI B τ τ') : QM B A v σ τ' := by
  obtain ⟨h1, h2, h3, h4, h5, h6⟩ := hq
  refine ⟨Sm_trans h1 (Sm_mono hP.1 (fun a ha => by omega)), fun j hj => (hP.2 j (by omega)).trans (h2 j hj), by rw [hP.2 30 (by omega), hP.2 32 (by omega)]; exact h3, by rw [hP.2 28 (by omega)]; exact h4, by rw [hP.2 29 (by omega)]; exact h5, ?_⟩
  rw [hP.1.2.2.2.2.2.2.1 (B + 66) (by omega), hP.1.2.2.2.2.2.2.1 (B + 67) (by omega), hP.1.2.2.2.2.2.2.1 (B + 68) (by omega)]
  exact h6
end
section
variable {CV : Nat → (Nat → Int32) → (Nat → Nat → Int32) → Prop} {G : gG}
set_option maxHeartbeats 1000000 in
theorem ob_parts (hcv : CVl CV) : gOb (Inv LSx CV MVx G) (gb G) (gB G) (gB G + 54) 134 246 1 := by
  intro σ k as hl hk hI
  obtain ⟨p0, rfl⟩ := len1 hl
  have hv := Inv_Sh hI
  have hb := Inv_b hI
  obtain ⟨own, cc, v, hc, ha, hX, hm⟩ := Inv_ctx hI hk
  obtain ⟨z30, z32⟩ := Inv_30 hI
  have w1 := hX.2.2.1
  have h12 := hn_le w1
  have hn2 := hn_eq w1
  have hE := EdG_o (dy := gI σ (gB G + 56) 249) w1
  simp (disch := first | omega | (simp only [IvS_I, IvS_J, IvS_r]; assumption)) only [List.map_cons, List.map_nil, Value.int.injEq, gSc_r, gSc_I, n10, n01, Nat.lt_irrefl, Nat.not_lt_zero, ne_eq, Nat.add_zero, Nat.one_ne_zero, Nat.zero_ne_one, Nat.reduceEqDiff, bI_T, bI_F, bI_0, bI_1, bI_01, not_and_self, true_and, and_true, not_true_eq_false, not_false_eq_true, false_imp_iff, true_imp_iff, imp_self, gPv_n, gPv_i, gPv_r, gPv_0, Option.toList_some, Option.toList_none, List.singleton_append, List.cons_append, List.nil_append, List.length_nil, List.length_cons, Nat.zero_le, Nat.reduceAdd, Nat.reduceLeDiff, or_true, true_or, false_or, or_false, and_self, and_false, false_and, implies_true, Option.some.injEq, exists_eq_left', nL, c_134, e_134_0, e_134_1, e_134_4, e_134_5, e_134_8, sk_0 hv, sr_0_0 hv, sr_0_1 hv, sr_0_2 hv, sr_0_4 hv, sr_0_7 hv, sr_0_9 hv, sr_0_10 hv, sr_0_11 hv, sr_0_12 hv, sr_0_13 hv, sr_0_14 hv, sk_25 hv, sr_25_0 hv, sr_25_1 hv, sr_25_2 hv, sr_25_3 hv, sr_25_4 hv, sr_25_5 hv]
  refine s_openRows (d := 992) hcv hc ha ?_
  intro τ hS hcT haT hr
  have hvT := hcT.1
  have e6 : gI τ (gB G + 1) 6 = nI (ad (mkN (St (gI σ (gB G + 56))) (hn (gI σ (gB G + 56)))) 0) := by rw [ad_z]; exact hcT.2.1.2.1.1.2.1
  have ml : ad (mkN (St (gI σ (gB G + 56))) (hn (gI σ (gB G + 56)))) 0 < 4096 := ad_lt (mk_lt12 h12)
  have hv0T : gK τ (gB G) = 12 := sk_0 hvT
  simp (disch := omega) only [e_134_11, e_134_12, e_134_15, e_134_18, n10, n01, Nat.lt_irrefl, Nat.not_lt_zero, ne_eq, Nat.add_zero, Nat.one_ne_zero, Nat.zero_ne_one, Nat.reduceEqDiff, bI_T, bI_F, bI_0, bI_1, bI_01, not_and_self, true_and, and_true, not_true_eq_false, not_false_eq_true, false_imp_iff, true_imp_iff, imp_self, gPv_n, gPv_i, gPv_r, gPv_0, Option.toList_some, Option.toList_none, List.singleton_append, List.cons_append, List.nil_append, List.length_nil, List.length_cons, Nat.zero_le, Nat.reduceAdd, Nat.reduceLeDiff, or_true, true_or, false_or, or_false, and_self, and_false, false_and, implies_true, Option.some.injEq, exists_eq_left', nL, sk_0 hvT, sr_0_0 hvT, sr_0_1 hvT, sr_0_2 hvT, sr_0_4 hvT, sr_0_7 hvT, sr_0_9 hvT, sr_0_10 hvT, sr_0_11 hvT, sr_0_12 hvT, sr_0_13 hvT, sr_0_14 hvT, sk_1 hvT, sr_1_0 hvT, sr_1_1 hvT, sr_1_2 hvT, sr_1_3 hvT, sr_1_4 hvT, sr_1_7 hvT, sr_1_9 hvT, sr_1_14 hvT, sr_1_15 hvT, sr_1_16 hvT, sk_33 hvT, sr_33_0 hvT, sr_33_1 hvT, sr_33_2 hvT, sr_33_3 hvT, e6]
  refine s_findParts (d := 995) hvT (Or.inl rfl) hE.1 ml hr ?_
  intro τ1 hS1' hF
  have hvT1 : IvS (gB G) τ1 := fr_IvS hS1'.1 hS1'.2.1 hS1'.2.2.1 hvT
  have hS01 : Sm (fun a => gB G + 25 ≤ a ∧ a < gB G + 50) σ τ1 := Sm_trans (Sm_mono hS (fun a ha => by omega)) (Sm_mono hS1' (fun a ha => by omega))
  have haT1 := Ca_P hcv haT hS1' (fun a ha => by omega)
  have XT := MX_S hX hS01 (by omega)
  have plen : (ptL (opn (gI σ (gB G + 56)) (gI σ (gB G + 56) 249)) (ad (mkN (St (gI σ (gB G + 56))) (hn (gI σ (gB G + 56)))) 0)).length ≤ 12 := prt_len _ _ _
  generalize hPL : ptL (opn (gI σ (gB G + 56)) (gI σ (gB G + 56) 249)) (ad (mkN (St (gI σ (gB G + 56))) (hn (gI σ (gB G + 56)))) 0) = PL at hF plen
  -- the model
  have mod : ∀ w : Int32, w = (if p0 = -nI 1 then nI PL.length else if nI 0 ≤ p0 ∧ p0 < nI PL.length then nI (PL.getD p0.toNatClampNeg 0) else -nI 1) → (gSc (gb G) σ τ1 ∧ gK τ1 (gB G + 54) = 13) ∧ ∃ v : Int32, Value.int w = Value.int v ∧ wc 1000 246 [.ref (gB G + 54), .int p0] τ1 (fun r2 σ2 => r2 = some (.int v) ∧ Inv LSx CV MVx G σ2 (k + 1)) := by
    intro w hw
    refine ⟨⟨gSc_S hS01 (by omega), sk_54 hvT1⟩, w, rfl, ?_⟩
    simp (disch := first | omega | (simp only [IvS_I, IvS_J, IvS_r]; assumption)) only [n10, n01, Nat.lt_irrefl, Nat.not_lt_zero, ne_eq, Nat.add_zero, Nat.one_ne_zero, Nat.zero_ne_one, Nat.reduceEqDiff, bI_T, bI_F, bI_0, bI_1, bI_01, not_and_self, true_and, and_true, not_true_eq_false, not_false_eq_true, false_imp_iff, true_imp_iff, imp_self, gPv_n, gPv_i, gPv_r, gPv_0, Option.toList_some, Option.toList_none, List.singleton_append, List.cons_append, List.nil_append, List.length_nil, List.length_cons, Nat.zero_le, Nat.reduceAdd, Nat.reduceLeDiff, or_true, true_or, false_or, or_false, and_self, and_false, false_and, implies_true, Option.some.injEq, exists_eq_left', nL, c_246, e_246_0, e_246_1, sk_54 hvT1, sr_54_2 hvT1, sr_54_3 hvT1, sr_54_4 hvT1, sr_54_5 hvT1, sr_54_7 hvT1, sr_54_8 hvT1, sr_54_9 hvT1, sr_54_12 hvT1, sr_54_13 hvT1, sr_54_14 hvT1, sr_54_22 hvT1, sr_54_25 hvT1, sr_54_26 hvT1, sr_54_27 hvT1, sr_54_34 hvT1, sr_54_35 hvT1, sr_54_36 hvT1, sr_54_37 hvT1, sr_54_38 hvT1, sr_54_40 hvT1, sr_54_43 hvT1, sr_54_44 hvT1, sr_54_45 hvT1, sr_54_46 hvT1, sr_54_47 hvT1]
    refine t_look (d := 930) XT (Mc_S hm hS01 (fun a ha => by omega)) (by rw [hS01.2.2.2.2.2.2.1 _ (by omega)]; exact z30) (by rw [hS01.2.2.2.2.2.2.1 _ (by omega)]; exact z32) ?_
    intro τ2 hq
    have X2 := QM_X XT hq
    have hv2 := X2.1
    simp (disch := omega) only [e_246_4, e_246_5, e_246_6, n10, n01, Nat.lt_irrefl, Nat.not_lt_zero, ne_eq, Nat.add_zero, Nat.one_ne_zero, Nat.zero_ne_one, Nat.reduceEqDiff, bI_T, bI_F, bI_0, bI_1, bI_01, not_and_self, true_and, and_true, not_true_eq_false, not_false_eq_true, false_imp_iff, true_imp_iff, imp_self, gPv_n, gPv_i, gPv_r, gPv_0, Option.toList_some, Option.toList_none, List.singleton_append, List.cons_append, List.nil_append, List.length_nil, List.length_cons, Nat.zero_le, Nat.reduceAdd, Nat.reduceLeDiff, or_true, true_or, false_or, or_false, and_self, and_false, false_and, implies_true, Option.some.injEq, exists_eq_left', nL, sk_54 hv2, sr_54_2 hv2, sr_54_3 hv2, sr_54_4 hv2, sr_54_5 hv2, sr_54_7 hv2, sr_54_8 hv2, sr_54_9 hv2, sr_54_12 hv2, sr_54_13 hv2, sr_54_14 hv2, sr_54_22 hv2, sr_54_25 hv2, sr_54_26 hv2, sr_54_27 hv2, sr_54_34 hv2, sr_54_35 hv2, sr_54_36 hv2, sr_54_37 hv2, sr_54_38 hv2, sr_54_40 hv2, sr_54_43 hv2, sr_54_44 hv2, sr_54_45 hv2, sr_54_46 hv2, sr_54_47 hv2]
    refine t_partsOf (d := 994) X2 (NE_q hq) hE ?_
    intro τ3 hP h39 hF3
    rw [hPL] at h39 hF3
    have hv3 := (PmI_X X2 hP).1
    have fin := Inv_QM hk hI hm hS01 haT1 (QM_P hq hP)
    by_cases c1 : p0 = -nI 1
    · rw [if_pos c1] at hw
      subst hw
      simp (disch := omega) only [e_246_9, e_246_10, e_246_11, e_246_14, e_246_15, e_246_18, e_246_21, e_246_22, e_246_23, e_246_24, e_246_27, e_246_28, e_246_29, e_246_32, e_246_35, e_246_36, e_246_39, e_246_40, e_246_41, e_246_44, e_246_45, n10, n01, Nat.lt_irrefl, Nat.not_lt_zero, ne_eq, Nat.add_zero, Nat.one_ne_zero, Nat.zero_ne_one, Nat.reduceEqDiff, bI_T, bI_F, bI_0, bI_1, bI_01, not_and_self, true_and, and_true, not_true_eq_false, not_false_eq_true, false_imp_iff, true_imp_iff, imp_self, gPv_n, gPv_i, gPv_r, gPv_0, Option.toList_some, Option.toList_none, List.singleton_append, List.cons_append, List.nil_append, List.length_nil, List.length_cons, Nat.zero_le, Nat.reduceAdd, Nat.reduceLeDiff, or_true, true_or, false_or, or_false, and_self, and_false, false_and, implies_true, Option.some.injEq, exists_eq_left', nL, sk_54 hv3, sr_54_2 hv3, sr_54_3 hv3, sr_54_4 hv3, sr_54_5 hv3, sr_54_7 hv3, sr_54_8 hv3, sr_54_9 hv3, sr_54_12 hv3, sr_54_13 hv3, sr_54_14 hv3, sr_54_22 hv3, sr_54_25 hv3, sr_54_26 hv3, sr_54_27 hv3, sr_54_34 hv3, sr_54_35 hv3, sr_54_36 hv3, sr_54_37 hv3, sr_54_38 hv3, sr_54_40 hv3, sr_54_43 hv3, sr_54_44 hv3, sr_54_45 hv3, sr_54_46 hv3, sr_54_47 hv3, c1, h39]
      exact fin
    · rw [if_neg c1] at hw
      by_cases c2 : nI 0 ≤ p0 ∧ p0 < nI PL.length
      · rw [if_pos c2] at hw
        obtain ⟨i, hi, rfl⟩ := in_lt (by omega) c2
        have z : i < 12 := by omega
        have e1 := hF3 i hi
        rw [nI_clamp (by omega)] at hw
        subst hw
        simp (disch := omega) only [e_246_9, e_246_10, e_246_11, e_246_14, e_246_15, e_246_18, e_246_21, e_246_22, e_246_23, e_246_24, e_246_27, e_246_28, e_246_29, e_246_32, e_246_35, e_246_36, e_246_39, e_246_40, e_246_41, e_246_44, e_246_45, n10, n01, Nat.lt_irrefl, Nat.not_lt_zero, ne_eq, Nat.add_zero, Nat.one_ne_zero, Nat.zero_ne_one, Nat.reduceEqDiff, bI_T, bI_F, bI_0, bI_1, bI_01, not_and_self, true_and, and_true, not_true_eq_false, not_false_eq_true, false_imp_iff, true_imp_iff, imp_self, gPv_n, gPv_i, gPv_r, gPv_0, Option.toList_some, Option.toList_none, List.singleton_append, List.cons_append, List.nil_append, List.length_nil, List.length_cons, Nat.zero_le, Nat.reduceAdd, Nat.reduceLeDiff, or_true, true_or, false_or, or_false, and_self, and_false, false_and, implies_true, Option.some.injEq, exists_eq_left', nL, nI_add, nI_mul, nI_clamp, nI_ltI, nI_leI, nI_eq, nI_pos, nI_pos', Nat.reduceAdd, Nat.reduceMul, Nat.reducePow, sk_54 hv3, sr_54_2 hv3, sr_54_3 hv3, sr_54_4 hv3, sr_54_5 hv3, sr_54_7 hv3, sr_54_8 hv3, sr_54_9 hv3, sr_54_12 hv3, sr_54_13 hv3, sr_54_14 hv3, sr_54_22 hv3, sr_54_25 hv3, sr_54_26 hv3, sr_54_27 hv3, sr_54_34 hv3, sr_54_35 hv3, sr_54_36 hv3, sr_54_37 hv3, sr_54_38 hv3, sr_54_40 hv3, sr_54_43 hv3, sr_54_44 hv3, sr_54_45 hv3, sr_54_46 hv3, sr_54_47 hv3, sk_73 hv3, sn_73 hv3, c1, h39, t_lies, le_sub1, hi, z, e1]
        exact fin
      · rw [if_neg c2] at hw
        subst hw
        simp (disch := omega) only [e_246_9, e_246_10, e_246_11, e_246_14, e_246_15, e_246_18, e_246_21, e_246_22, e_246_23, e_246_24, e_246_27, e_246_28, e_246_29, e_246_32, e_246_35, e_246_36, e_246_39, e_246_40, e_246_41, e_246_44, e_246_45, n10, n01, Nat.lt_irrefl, Nat.not_lt_zero, ne_eq, Nat.add_zero, Nat.one_ne_zero, Nat.zero_ne_one, Nat.reduceEqDiff, bI_T, bI_F, bI_0, bI_1, bI_01, not_and_self, true_and, and_true, not_true_eq_false, not_false_eq_true, false_imp_iff, true_imp_iff, imp_self, gPv_n, gPv_i, gPv_r, gPv_0, Option.toList_some, Option.toList_none, List.singleton_append, List.cons_append, List.nil_append, List.length_nil, List.length_cons, Nat.zero_le, Nat.reduceAdd, Nat.reduceLeDiff, or_true, true_or, false_or, or_false, and_self, and_false, false_and, implies_true, Option.some.injEq, exists_eq_left', nL, sk_54 hv3, sr_54_2 hv3, sr_54_3 hv3, sr_54_4 hv3, sr_54_5 hv3, sr_54_7 hv3, sr_54_8 hv3, sr_54_9 hv3, sr_54_12 hv3, sr_54_13 hv3, sr_54_14 hv3, sr_54_22 hv3, sr_54_25 hv3, sr_54_26 hv3, sr_54_27 hv3, sr_54_34 hv3, sr_54_35 hv3, sr_54_36 hv3, sr_54_37 hv3, sr_54_38 hv3, sr_54_40 hv3, sr_54_43 hv3, sr_54_44 hv3, sr_54_45 hv3, sr_54_46 hv3, sr_54_47 hv3, sk_73 hv3, sn_73 hv3, c1, h39, t_lies, le_sub1, c2]
        exact fin
  by_cases c1 : p0 = -nI 1
  · rw [c1] at mod ⊢
    simp (disch := first | omega | (simp only [IvS_I, IvS_J, IvS_r]; assumption)) only [n10, n01, Nat.lt_irrefl, Nat.not_lt_zero, ne_eq, Nat.add_zero, Nat.one_ne_zero, Nat.zero_ne_one, Nat.reduceEqDiff, bI_T, bI_F, bI_0, bI_1, bI_01, not_and_self, true_and, and_true, not_true_eq_false, not_false_eq_true, false_imp_iff, true_imp_iff, imp_self, gPv_n, gPv_i, gPv_r, gPv_0, Option.toList_some, Option.toList_none, List.singleton_append, List.cons_append, List.nil_append, List.length_nil, List.length_cons, Nat.zero_le, Nat.reduceAdd, Nat.reduceLeDiff, or_true, true_or, false_or, or_false, and_self, and_false, false_and, implies_true, Option.some.injEq, exists_eq_left', nL, e_134_21, e_134_22, e_134_23, e_134_24, e_134_27, e_134_28]
    exact mod _ (by rw [if_pos rfl])
  · by_cases c2 : nI 0 ≤ p0 ∧ p0 < nI PL.length
    · obtain ⟨i, hi, rfl⟩ := in_lt (by omega) c2
      have z : i < 12 := by omega
      have z11 : i ≤ 11 := by omega
      have e1 := hF i hi
      simp (disch := first | omega | (simp only [IvS_I, IvS_J, IvS_r]; assumption)) only [n10, n01, Nat.lt_irrefl, Nat.not_lt_zero, ne_eq, Nat.add_zero, Nat.one_ne_zero, Nat.zero_ne_one, Nat.reduceEqDiff, bI_T, bI_F, bI_0, bI_1, bI_01, not_and_self, true_and, and_true, not_true_eq_false, not_false_eq_true, false_imp_iff, true_imp_iff, imp_self, gPv_n, gPv_i, gPv_r, gPv_0, Option.toList_some, Option.toList_none, List.singleton_append, List.cons_append, List.nil_append, List.length_nil, List.length_cons, Nat.zero_le, Nat.reduceAdd, Nat.reduceLeDiff, or_true, true_or, false_or, or_false, and_self, and_false, false_and, implies_true, Option.some.injEq, exists_eq_left', nL, nI_add, nI_mul, nI_clamp, nI_ltI, nI_leI, nI_eq, nI_pos, nI_pos', Nat.reduceAdd, Nat.reduceMul, Nat.reducePow, e_134_21, e_134_22, e_134_23, e_134_24, e_134_27, e_134_28, e_134_29, e_134_30, e_134_31, e_134_32, e_134_33, e_134_34, e_134_37, e_134_40, e_134_41, e_134_44, e_134_45, e_134_48, e_134_51, e_134_52, sk_0 hvT1, sr_0_0 hvT1, sr_0_1 hvT1, sr_0_2 hvT1, sr_0_4 hvT1, sr_0_7 hvT1, sr_0_9 hvT1, sr_0_10 hvT1, sr_0_11 hvT1, sr_0_12 hvT1, sr_0_13 hvT1, sr_0_14 hvT1, sk_33 hvT1, sr_33_0 hvT1, sr_33_1 hvT1, sr_33_2 hvT1, sr_33_3 hvT1, sk_36 hvT1, sn_36 hvT1, s_within, c_7, e_7_0, e_7_1, e_7_2, e_7_4, e_7_7, e_7_10, e_7_11, e_7_14, e_7_15, e_7_16, e_7_19, e_7_20, c1, le_sub1, hi, z, z11, e1]
      exact mod _ (by rw [if_neg c1, if_pos c2, nI_clamp (by omega)])
    · simp (disch := first | omega | (simp only [IvS_I, IvS_J, IvS_r]; assumption)) only [n10, n01, Nat.lt_irrefl, Nat.not_lt_zero, ne_eq, Nat.add_zero, Nat.one_ne_zero, Nat.zero_ne_one, Nat.reduceEqDiff, bI_T, bI_F, bI_0, bI_1, bI_01, not_and_self, true_and, and_true, not_true_eq_false, not_false_eq_true, false_imp_iff, true_imp_iff, imp_self, gPv_n, gPv_i, gPv_r, gPv_0, Option.toList_some, Option.toList_none, List.singleton_append, List.cons_append, List.nil_append, List.length_nil, List.length_cons, Nat.zero_le, Nat.reduceAdd, Nat.reduceLeDiff, or_true, true_or, false_or, or_false, and_self, and_false, false_and, implies_true, Option.some.injEq, exists_eq_left', nL, e_134_21, e_134_22, e_134_23, e_134_24, e_134_27, e_134_28, e_134_29, e_134_30, e_134_31, e_134_32, e_134_33, e_134_34, e_134_37, e_134_40, e_134_41, e_134_44, e_134_45, e_134_48, e_134_51, e_134_52, sk_0 hvT1, sr_0_0 hvT1, sr_0_1 hvT1, sr_0_2 hvT1, sr_0_4 hvT1, sr_0_7 hvT1, sr_0_9 hvT1, sr_0_10 hvT1, sr_0_11 hvT1, sr_0_12 hvT1, sr_0_13 hvT1, sr_0_14 hvT1, sk_33 hvT1, sr_33_0 hvT1, sr_33_1 hvT1, sr_33_2 hvT1, sr_33_3 hvT1, s_within, c1, le_sub1, c2]
      exact mod _ (by rw [if_neg c1, if_neg c2])
end
