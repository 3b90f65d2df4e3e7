/-! one door more -/
def pb (m w k : Nat) : Nat := ad m (2 ^ k) ||| (w &&& 2 ^ k)
theorem tb_pb (m w k j : Nat) : (pb m w k).testBit j = if j = k then w.testBit k else m.testBit j := by
  simp only [pb, Nat.testBit_or, Nat.testBit_and, tb_ad, Nat.testBit_two_pow]
  by_cases c : j = k
  · subst c
    simp
  · have c' : ¬ k = j := fun z => c z.symm
    simp [c, c']
theorem pb_t {m w k : Nat} (h : w.testBit k = true) : m ||| 2 ^ k = pb m w k := by
  refine Nat.eq_of_testBit_eq ?_
  intro j
  rw [tb_pb, Nat.testBit_or, Nat.testBit_two_pow]
  by_cases c : j = k
  · subst c
    simp [h]
  · have c' : ¬ k = j := fun z => c z.symm
    simp [c, c']
theorem pb_f {m w k : Nat} (h : w.testBit k = false) : ad m (2 ^ k) = pb m w k := by
  refine Nat.eq_of_testBit_eq ?_
  intro j
  rw [tb_pb, tb_ad, Nat.testBit_two_pow]
  by_cases c : j = k
  · subst c
    simp [h]
  · have c' : ¬ k = j := fun z => c z.symm
    simp [c, c']
theorem pb_pb {m w k : Nat} : pb (pb m w k) m k = m := by
  refine Nat.eq_of_testBit_eq ?_
  intro j
  rw [tb_pb, tb_pb]
  by_cases c : j = k
  · subst c
    simp
  · simp [c]
def dE (E W : Nat → Nat) (a b h : Nat) : Nat := if h = a then pb (E a) (W a) b else if h = b then pb (E b) (W b) a else E h
theorem dE_dE {E W : Nat → Nat} {a b h : Nat} : dE (dE E W a b) E a b h = E h := by
  by_cases c : h = a
  · subst c
    simp only [dE, if_pos, pb_pb]
  · by_cases c2 : h = b
    · subst c2
      simp only [dE, if_neg c, if_pos, pb_pb]
    · simp only [dE, if_neg c, if_neg c2]
theorem wdn_lt {A : Nat → Int32} {dy : Int32} {h : Nat} (wh : Wh A) : wdn A dy h < 4096 := mk_lt12 (hn_le wh)
theorem wdn_0 {A : Nat → Int32} {dy : Int32} {h : Nat} (hh : hn A ≤ h) : wdn A dy h = 0 := mk_0 (fun j _ => by
  have : ¬ (h < hn A ∧ h ≠ j) := fun z => by omega
  simp [wdB, this])
theorem wdn_s {A : Nat → Int32} {dy : Int32} {h j : Nat} (hj : (wdn A dy h).testBit j = true) : (mkN (St A) (hn A)).testBit j = true := by
  rw [wdn, tb_mk] at hj
  rw [tb_mk]
  simp only [wdB, Bool.and_eq_true] at hj ⊢
  exact ⟨hj.1, hj.2.1.2.2⟩
theorem EdG_w {A : Nat → Int32} {dy : Int32} (wh : Wh A) : EdG A (wdn A dy) := ⟨fun _ => wdn_lt wh, fun _ h => wdn_0 h, fun _ _ h => wdn_s h⟩
theorem EdG_d {A : Nat → Int32} {E W : Nat → Nat} {a b : Nat} (hE : EdG A E) (hW : EdG A W) (ha : a < hn A) (hb : b < hn A) : EdG A (dE E W a b) := by
  have t : ∀ h j, (dE E W a b h).testBit j = true → (E h).testBit j = true ∨ (W h).testBit j = true := by
    intro h j hj
    by_cases c : h = a
    · subst c
      simp only [dE, if_pos, tb_pb] at hj
      by_cases c3 : j = b
      · rw [if_pos c3] at hj
        rw [c3]
        exact Or.inr hj
      · rw [if_neg c3] at hj
        exact Or.inl hj
    · by_cases c2 : h = b
      · subst c2
        simp only [dE, if_neg c, if_pos, tb_pb] at hj
        by_cases c3 : j = a
        · rw [if_pos c3] at hj
          rw [c3]
          exact Or.inr hj
        · rw [if_neg c3] at hj
          exact Or.inl hj
      · simp only [dE, if_neg c, if_neg c2] at hj
        exact Or.inl hj
  refine ⟨fun h => ?_, fun h hh => ?_, fun h j hj => ?_⟩
  · refine Nat.lt_pow_two_of_testBit (n := 12) _ ?_
    intro i hi
    cases c : (dE E W a b h).testBit i with
    | false => rfl
    | true =>
      rcases t h i c with z | z
      · rw [tb_lt (n := 12) (hE.1 h) hi] at z
        exact absurd z (by decide)
      · rw [tb_lt (n := 12) (hW.1 h) hi] at z
        exact absurd z (by decide)
  · have c1 : ¬ h = a := by omega
    have c2 : ¬ h = b := by omega
    simp only [dE, if_neg c1, if_neg c2]
    exact hE.2.1 h hh
  · rcases t h j hj with z | z
    · exact hE.2.2 h j z
    · exact hW.2.2 h j z
section
variable {B : Nat} {own : Nat → Nat} {σ : gS} {A : Nat → Int32} {d : Nat} {Q : Option Value → gS → Prop} {E W : Nat → Nat}
theorem s_putPair {r w a b : Nat} (hk : gK σ r = 21) (hN : gN σ r = 12) (hk' : gK σ w = 21) (hN' : gN σ w = 12) (hrw : w ≠ r) (ha : a < 12) (hb : b < 12) (hab : a ≠ b) (hE : ∀ j, j < 12 → gI σ r j = nI (E j)) (hW : ∀ j, j < 12 → gI σ w j = nI (W j)) (K : ∀ τ, Sm (fun x => x = r) σ τ → (∀ j, j < 12 → gI τ r j = nI (dE E W a b j)) → Q none τ) : wc (d + 2) 2 [.ref r, .ref w, .int (nI a), .int (nI b)] σ Q := by
  have ha11 : a ≤ 11 := by omega
  have hb11 : b ≤ 11 := by omega
  have n12 : ¬ (12 : Nat) < 12 := by omega
  have hba : b ≠ a := fun z => hab z.symm
  have eA := hE a ha
  have eB := hE b hb
  have wA := hW a ha
  have wB := hW b hb
  have e1 : ∀ x, gI (sI σ r a x) w = gI σ w := fun x => rI_ne hrw
  have e2 : ∀ x, gI (sI σ r a x) r b = gI σ r b := fun x => rI_nk hba
  simp (disch := omega) only [c_2, e_2_0, e_2_1, e_2_2, e_2_4, e_2_7, e_2_10, e_2_11, e_2_12, e_2_14, e_2_17, e_2_20, e_2_21, e_2_22, e_2_24, e_2_27, e_2_27n, e_2_28, e_2_29, e_2_31, e_2_34, e_2_35, e_2_36, e_2_37, e_2_39, e_2_40, e_2_41, e_2_42, e_2_44, e_2_45, e_2_46, e_2_47, e_2_48, e_2_49, e_2_51, e_2_52, e_2_53, e_2_54, e_2_54n, e_2_55, e_2_56, e_2_57, e_2_59, e_2_60, e_2_61, e_2_62, e_2_63, e_2_64, e_2_65, e_2_66, e_2_67, e_2_69, e_2_70, e_2_71, e_2_72, e_2_72n, e_2_73, e_2_74, e_2_75, e_2_77, e_2_78, e_2_79, e_2_80, n10, n01, Nat.lt_irrefl, Nat.not_lt_zero, ne_eq, Nat.add_zero, Nat.one_ne_zero, Nat.zero_ne_one, Nat.reduceEqDiff, bI_T, bI_F, bI_0, bI_1, bI_01, not_and_self, true_and, and_true, not_true_eq_false, not_false_eq_true, false_imp_iff, true_imp_iff, imp_self, gPv_n, gPv_i, gPv_r, gPv_0, Option.toList_some, Option.toList_none, List.singleton_append, List.cons_append, List.nil_append, List.length_nil, List.length_cons, Nat.zero_le, Nat.reduceAdd, Nat.reduceLeDiff, or_true, true_or, false_or, or_false, and_self, and_false, false_and, implies_true, Option.some.injEq, exists_eq_left', nL, nI_add, nI_mul, nI_clamp, nI_ltI, nI_leI, nI_eq, nI_pos, nI_pos', Nat.reduceAdd, Nat.reduceMul, Nat.reducePow, n_K_I, n_K_J, n_K_R, n_K_r, n_N_I, n_N_J, n_N_R, n_N_r, n_R_I, n_R_J, n_R_r, n_J_I, n_J_R, n_J_r, n_I_J, n_I_R, n_n_I, n_n_J, n_n_R, n_n_r, n_w_I, n_w_J, n_w_R, n_w_r, n_T_I, n_T_J, n_T_R, n_T_r, rI_ne, rI_nk, rI_eq, rr_ne, rr_eq, n_J_J, n_R_R, Nat.add_left_cancel_iff, Nat.add_right_cancel_iff, Nat.add_eq_left, Nat.left_eq_add, Nat.reduceEqDiff, Nat.reduceAdd, Nat.zero_ne_one, Nat.one_ne_zero, false_and, and_false, true_and, and_true, and_self, if_false, if_true, ↓reduceIte, s_within, ha11, hb11, ha, hb, hk, hN, hk', hN', n12, nI_of_len, nI_shl, Nat.one_mul, eA, eB, wA, wB, e1, e2]
  simp only [nI_adP, nI_and, nI_or]
  refine K _ (Sm_I (Sm_I (Sm_refl _ _) rfl) rfl) ?_
  intro j hj
  by_cases c : j = a
  · subst c
    rw [rI_nk hab, rI_eq]
    simp only [dE, if_pos, pb]
  · by_cases c2 : j = b
    · subst c2
      rw [rI_eq]
      simp only [dE, if_neg c, if_pos, pb]
    · rw [rI_nk c2, rI_nk c, hE j hj]
      simp only [dE, if_neg c, if_neg c2]
theorem t_withOr {m h k : Nat} {dy : Int32} (hv : IvS B σ) (h12 : hn A ≤ 12) (hh : h < hn A) (hk : k < hn A) (hW : gI σ (B + 68) (12 * h + k) = bI (wdB A dy h k = true)) : wc (d + 1) 238 [.ref (B + 54), .int (nI m), .int (nI h), .int (nI k)] σ Q ↔ Q (some (.int (nI (pb m (wdn A dy h) k)))) σ := by
  have z : 12 * h + k < 144 := by omega
  cases c : wdB A dy h k
  · have t : (wdn A dy h).testBit k = false := by rw [wdn, tb_mk, c]; simp
    rw [← pb_f t, ← nI_adP]
    simp (disch := omega) only [c_238, e_238_0, e_238_1, e_238_4, e_238_6, e_238_7, e_238_8, e_238_9, e_238_11, e_238_14, e_238_15, e_238_16, e_238_17, e_238_18, e_238_19, e_238_22, e_238_23, e_238_24, e_238_25, e_238_26, e_238_27, e_238_28, e_238_29, e_238_10 (Or.inr (sk_68 hv)), n10, n01, Nat.lt_irrefl, Nat.not_lt_zero, ne_eq, Nat.add_zero, Nat.one_ne_zero, Nat.zero_ne_one, Nat.reduceEqDiff, bI_T, bI_F, bI_0, bI_1, bI_01, not_and_self, true_and, and_true, not_true_eq_false, not_false_eq_true, false_imp_iff, true_imp_iff, imp_self, gPv_n, gPv_i, gPv_r, gPv_0, Option.toList_some, Option.toList_none, List.singleton_append, List.cons_append, List.nil_append, List.length_nil, List.length_cons, Nat.zero_le, Nat.reduceAdd, Nat.reduceLeDiff, or_true, true_or, false_or, or_false, and_self, and_false, false_and, implies_true, Option.some.injEq, exists_eq_left', nL, nI_add, nI_mul, nI_clamp, nI_ltI, nI_leI, nI_eq, nI_pos, nI_pos', Nat.reduceAdd, Nat.reduceMul, Nat.reducePow, sk_54 hv, sr_54_2 hv, sr_54_3 hv, sr_54_4 hv, sr_54_5 hv, sr_54_7 hv, sr_54_8 hv, sr_54_9 hv, sr_54_12 hv, sr_54_13 hv, sr_54_14 hv, sr_54_22 hv, sr_54_25 hv, sr_54_26 hv, sr_54_27 hv, sr_54_34 hv, sr_54_35 hv, sr_54_36 hv, sr_54_37 hv, sr_54_38 hv, sr_54_40 hv, sr_54_43 hv, sr_54_44 hv, sr_54_45 hv, sr_54_46 hv, sr_54_47 hv, sk_68 hv, sn_68 hv, z, hW, c, nI_shl, Nat.one_mul, Bool.false_eq_true]
  · have t : (wdn A dy h).testBit k = true := by rw [wdn, tb_mk, c]; simp [hk]
    rw [← pb_t t, ← nI_or]
    simp (disch := omega) only [c_238, e_238_0, e_238_1, e_238_4, e_238_6, e_238_7, e_238_8, e_238_9, e_238_11, e_238_14, e_238_15, e_238_16, e_238_17, e_238_18, e_238_19, e_238_22, e_238_23, e_238_24, e_238_25, e_238_26, e_238_27, e_238_28, e_238_29, e_238_10 (Or.inr (sk_68 hv)), n10, n01, Nat.lt_irrefl, Nat.not_lt_zero, ne_eq, Nat.add_zero, Nat.one_ne_zero, Nat.zero_ne_one, Nat.reduceEqDiff, bI_T, bI_F, bI_0, bI_1, bI_01, not_and_self, true_and, and_true, not_true_eq_false, not_false_eq_true, false_imp_iff, true_imp_iff, imp_self, gPv_n, gPv_i, gPv_r, gPv_0, Option.toList_some, Option.toList_none, List.singleton_append, List.cons_append, List.nil_append, List.length_nil, List.length_cons, Nat.zero_le, Nat.reduceAdd, Nat.reduceLeDiff, or_true, true_or, false_or, or_false, and_self, and_false, false_and, implies_true, Option.some.injEq, exists_eq_left', nL, nI_add, nI_mul, nI_clamp, nI_ltI, nI_leI, nI_eq, nI_pos, nI_pos', Nat.reduceAdd, Nat.reduceMul, Nat.reducePow, sk_54 hv, sr_54_2 hv, sr_54_3 hv, sr_54_4 hv, sr_54_5 hv, sr_54_7 hv, sr_54_8 hv, sr_54_9 hv, sr_54_12 hv, sr_54_13 hv, sr_54_14 hv, sr_54_22 hv, sr_54_25 hv, sr_54_26 hv, sr_54_27 hv, sr_54_34 hv, sr_54_35 hv, sr_54_36 hv, sr_54_37 hv, sr_54_38 hv, sr_54_40 hv, sr_54_43 hv, sr_54_44 hv, sr_54_45 hv, sr_54_46 hv, sr_54_47 hv, sk_68 hv, sn_68 hv, z, hW, c, nI_shl, Nat.one_mul]
theorem NX_d1 {a b : Nat} {dy : Int32} (X : MX B σ A) (ha : a < hn A) (hb : b < hn A) (hab : a ≠ b) (q30 : gI σ (B + 54) 30 = nI a) (q31 : gI σ (B + 54) 31 = nI b) (q32 : gI σ (B + 54) 32 = -nI 1) (hM : MVx A dy (gI σ (B + 66)) (gI σ (B + 67)) (gI σ (B + 68))) : NX B σ (hn A) (dE (opn A dy) (wdn A dy) a b) := by
  have hv := X.1
  have h12 := hn_le X.2.2.1
  obtain ⟨m1, m2⟩ := hM
  intro h hh d Q
  have e := m1 h hh
  have z : h < 12 := by omega
  have hba : b ≠ a := fun z => hab z.symm
  have na1 : ¬ nI a = -nI 1 := fun z => ng_ne 1 a (by omega) (by omega) (by omega) z.symm
  have wab := (m2 a b ha hb hab).2
  have wba := (m2 b a hb ha hba).2
  by_cases c : h = a
  · subst c
    have e2 : nI (h + b) - nI h = nI b := by rw [nI_sub (by omega), Nat.add_sub_cancel_left]
    simp (disch := omega) only [c_237, e_237_0, e_237_1, e_237_4, e_237_5, e_237_6, e_237_7, e_237_8, e_237_11, e_237_12, e_237_15, e_237_16, e_237_17, e_237_20, e_237_23, e_237_24, e_237_25, e_237_28, e_237_31, e_237_32, e_237_33, e_237_34, e_237_35, e_237_38, e_237_39, e_237_42, e_237_43, e_237_44, e_237_45, e_237_48, e_237_49, e_237_50, e_237_53, e_237_54, e_237_57, e_237_58, e_237_59, e_237_62, e_237_65, e_237_66, e_237_67, e_237_70, e_237_73, e_237_74, e_237_75, e_237_76, e_237_77, e_237_80, e_237_81, e_237_84, e_237_85, e_237_86, e_237_87, e_237_90, e_237_91, e_237_92, n10, n01, Nat.lt_irrefl, Nat.not_lt_zero, ne_eq, Nat.add_zero, Nat.one_ne_zero, Nat.zero_ne_one, Nat.reduceEqDiff, bI_T, bI_F, bI_0, bI_1, bI_01, not_and_self, true_and, and_true, not_true_eq_false, not_false_eq_true, false_imp_iff, true_imp_iff, imp_self, gPv_n, gPv_i, gPv_r, gPv_0, Option.toList_some, Option.toList_none, List.singleton_append, List.cons_append, List.nil_append, List.length_nil, List.length_cons, Nat.zero_le, Nat.reduceAdd, Nat.reduceLeDiff, or_true, true_or, false_or, or_false, and_self, and_false, false_and, implies_true, Option.some.injEq, exists_eq_left', nL, nI_add, nI_mul, nI_clamp, nI_ltI, nI_leI, nI_eq, nI_pos, nI_pos', Nat.reduceAdd, Nat.reduceMul, Nat.reducePow, sk_54 hv, sr_54_2 hv, sr_54_3 hv, sr_54_4 hv, sr_54_5 hv, sr_54_7 hv, sr_54_8 hv, sr_54_9 hv, sr_54_12 hv, sr_54_13 hv, sr_54_14 hv, sr_54_22 hv, sr_54_25 hv, sr_54_26 hv, sr_54_27 hv, sr_54_34 hv, sr_54_35 hv, sr_54_36 hv, sr_54_37 hv, sr_54_38 hv, sr_54_40 hv, sr_54_43 hv, sr_54_44 hv, sr_54_45 hv, sr_54_46 hv, sr_54_47 hv, sk_66 hv, sn_66 hv, sk_67 hv, sn_67 hv, sk_68 hv, sn_68 hv, e, z, q30, q31, q32, e2, na1]
    simp (disch := omega) only [t_withOr hv h12 ha hb wab, e_237_0, e_237_1, e_237_4, e_237_5, e_237_6, e_237_7, e_237_8, e_237_11, e_237_12, e_237_15, e_237_16, e_237_17, e_237_20, e_237_23, e_237_24, e_237_25, e_237_28, e_237_31, e_237_32, e_237_33, e_237_34, e_237_35, e_237_38, e_237_39, e_237_42, e_237_43, e_237_44, e_237_45, e_237_48, e_237_49, e_237_50, e_237_53, e_237_54, e_237_57, e_237_58, e_237_59, e_237_62, e_237_65, e_237_66, e_237_67, e_237_70, e_237_73, e_237_74, e_237_75, e_237_76, e_237_77, e_237_80, e_237_81, e_237_84, e_237_85, e_237_86, e_237_87, e_237_90, e_237_91, e_237_92, n10, n01, Nat.lt_irrefl, Nat.not_lt_zero, ne_eq, Nat.add_zero, Nat.one_ne_zero, Nat.zero_ne_one, Nat.reduceEqDiff, bI_T, bI_F, bI_0, bI_1, bI_01, not_and_self, true_and, and_true, not_true_eq_false, not_false_eq_true, false_imp_iff, true_imp_iff, imp_self, gPv_n, gPv_i, gPv_r, gPv_0, Option.toList_some, Option.toList_none, List.singleton_append, List.cons_append, List.nil_append, List.length_nil, List.length_cons, Nat.zero_le, Nat.reduceAdd, Nat.reduceLeDiff, or_true, true_or, false_or, or_false, and_self, and_false, false_and, implies_true, Option.some.injEq, exists_eq_left', nL, nI_add, nI_mul, nI_clamp, nI_ltI, nI_leI, nI_eq, nI_pos, nI_pos', Nat.reduceAdd, Nat.reduceMul, Nat.reducePow, sk_54 hv, sr_54_2 hv, sr_54_3 hv, sr_54_4 hv, sr_54_5 hv, sr_54_7 hv, sr_54_8 hv, sr_54_9 hv, sr_54_12 hv, sr_54_13 hv, sr_54_14 hv, sr_54_22 hv, sr_54_25 hv, sr_54_26 hv, sr_54_27 hv, sr_54_34 hv, sr_54_35 hv, sr_54_36 hv, sr_54_37 hv, sr_54_38 hv, sr_54_40 hv, sr_54_43 hv, sr_54_44 hv, sr_54_45 hv, sr_54_46 hv, sr_54_47 hv, sk_66 hv, sn_66 hv, sk_67 hv, sn_67 hv, sk_68 hv, sn_68 hv, q30, q31, q32, dE, if_true]
  · by_cases c2 : h = b
    · subst c2
      have e2 : nI (a + h) - nI h = nI a := by rw [nI_sub (by omega), Nat.add_sub_cancel]
      simp (disch := omega) only [c_237, e_237_0, e_237_1, e_237_4, e_237_5, e_237_6, e_237_7, e_237_8, e_237_11, e_237_12, e_237_15, e_237_16, e_237_17, e_237_20, e_237_23, e_237_24, e_237_25, e_237_28, e_237_31, e_237_32, e_237_33, e_237_34, e_237_35, e_237_38, e_237_39, e_237_42, e_237_43, e_237_44, e_237_45, e_237_48, e_237_49, e_237_50, e_237_53, e_237_54, e_237_57, e_237_58, e_237_59, e_237_62, e_237_65, e_237_66, e_237_67, e_237_70, e_237_73, e_237_74, e_237_75, e_237_76, e_237_77, e_237_80, e_237_81, e_237_84, e_237_85, e_237_86, e_237_87, e_237_90, e_237_91, e_237_92, n10, n01, Nat.lt_irrefl, Nat.not_lt_zero, ne_eq, Nat.add_zero, Nat.one_ne_zero, Nat.zero_ne_one, Nat.reduceEqDiff, bI_T, bI_F, bI_0, bI_1, bI_01, not_and_self, true_and, and_true, not_true_eq_false, not_false_eq_true, false_imp_iff, true_imp_iff, imp_self, gPv_n, gPv_i, gPv_r, gPv_0, Option.toList_some, Option.toList_none, List.singleton_append, List.cons_append, List.nil_append, List.length_nil, List.length_cons, Nat.zero_le, Nat.reduceAdd, Nat.reduceLeDiff, or_true, true_or, false_or, or_false, and_self, and_false, false_and, implies_true, Option.some.injEq, exists_eq_left', nL, nI_add, nI_mul, nI_clamp, nI_ltI, nI_leI, nI_eq, nI_pos, nI_pos', Nat.reduceAdd, Nat.reduceMul, Nat.reducePow, sk_54 hv, sr_54_2 hv, sr_54_3 hv, sr_54_4 hv, sr_54_5 hv, sr_54_7 hv, sr_54_8 hv, sr_54_9 hv, sr_54_12 hv, sr_54_13 hv, sr_54_14 hv, sr_54_22 hv, sr_54_25 hv, sr_54_26 hv, sr_54_27 hv, sr_54_34 hv, sr_54_35 hv, sr_54_36 hv, sr_54_37 hv, sr_54_38 hv, sr_54_40 hv, sr_54_43 hv, sr_54_44 hv, sr_54_45 hv, sr_54_46 hv, sr_54_47 hv, sk_66 hv, sn_66 hv, sk_67 hv, sn_67 hv, sk_68 hv, sn_68 hv, e, z, q30, q31, q32, e2, c, na1]
      simp (disch := omega) only [t_withOr hv h12 hb ha wba, e_237_0, e_237_1, e_237_4, e_237_5, e_237_6, e_237_7, e_237_8, e_237_11, e_237_12, e_237_15, e_237_16, e_237_17, e_237_20, e_237_23, e_237_24, e_237_25, e_237_28, e_237_31, e_237_32, e_237_33, e_237_34, e_237_35, e_237_38, e_237_39, e_237_42, e_237_43, e_237_44, e_237_45, e_237_48, e_237_49, e_237_50, e_237_53, e_237_54, e_237_57, e_237_58, e_237_59, e_237_62, e_237_65, e_237_66, e_237_67, e_237_70, e_237_73, e_237_74, e_237_75, e_237_76, e_237_77, e_237_80, e_237_81, e_237_84, e_237_85, e_237_86, e_237_87, e_237_90, e_237_91, e_237_92, n10, n01, Nat.lt_irrefl, Nat.not_lt_zero, ne_eq, Nat.add_zero, Nat.one_ne_zero, Nat.zero_ne_one, Nat.reduceEqDiff, bI_T, bI_F, bI_0, bI_1, bI_01, not_and_self, true_and, and_true, not_true_eq_false, not_false_eq_true, false_imp_iff, true_imp_iff, imp_self, gPv_n, gPv_i, gPv_r, gPv_0, Option.toList_some, Option.toList_none, List.singleton_append, List.cons_append, List.nil_append, List.length_nil, List.length_cons, Nat.zero_le, Nat.reduceAdd, Nat.reduceLeDiff, or_true, true_or, false_or, or_false, and_self, and_false, false_and, implies_true, Option.some.injEq, exists_eq_left', nL, nI_add, nI_mul, nI_clamp, nI_ltI, nI_leI, nI_eq, nI_pos, nI_pos', Nat.reduceAdd, Nat.reduceMul, Nat.reducePow, sk_54 hv, sr_54_2 hv, sr_54_3 hv, sr_54_4 hv, sr_54_5 hv, sr_54_7 hv, sr_54_8 hv, sr_54_9 hv, sr_54_12 hv, sr_54_13 hv, sr_54_14 hv, sr_54_22 hv, sr_54_25 hv, sr_54_26 hv, sr_54_27 hv, sr_54_34 hv, sr_54_35 hv, sr_54_36 hv, sr_54_37 hv, sr_54_38 hv, sr_54_40 hv, sr_54_43 hv, sr_54_44 hv, sr_54_45 hv, sr_54_46 hv, sr_54_47 hv, sk_66 hv, sn_66 hv, sk_67 hv, sn_67 hv, sk_68 hv, sn_68 hv, q30, q31, q32, dE, if_true, if_neg c]
    · simp (disch := omega) only [c_237, e_237_0, e_237_1, e_237_4, e_237_5, e_237_6, e_237_7, e_237_8, e_237_11, e_237_12, e_237_15, e_237_16, e_237_17, e_237_20, e_237_23, e_237_24, e_237_25, e_237_28, e_237_31, e_237_32, e_237_33, e_237_34, e_237_35, e_237_38, e_237_39, e_237_42, e_237_43, e_237_44, e_237_45, e_237_48, e_237_49, e_237_50, e_237_53, e_237_54, e_237_57, e_237_58, e_237_59, e_237_62, e_237_65, e_237_66, e_237_67, e_237_70, e_237_73, e_237_74, e_237_75, e_237_76, e_237_77, e_237_80, e_237_81, e_237_84, e_237_85, e_237_86, e_237_87, e_237_90, e_237_91, e_237_92, n10, n01, Nat.lt_irrefl, Nat.not_lt_zero, ne_eq, Nat.add_zero, Nat.one_ne_zero, Nat.zero_ne_one, Nat.reduceEqDiff, bI_T, bI_F, bI_0, bI_1, bI_01, not_and_self, true_and, and_true, not_true_eq_false, not_false_eq_true, false_imp_iff, true_imp_iff, imp_self, gPv_n, gPv_i, gPv_r, gPv_0, Option.toList_some, Option.toList_none, List.singleton_append, List.cons_append, List.nil_append, List.length_nil, List.length_cons, Nat.zero_le, Nat.reduceAdd, Nat.reduceLeDiff, or_true, true_or, false_or, or_false, and_self, and_false, false_and, implies_true, Option.some.injEq, exists_eq_left', nL, nI_add, nI_mul, nI_clamp, nI_ltI, nI_leI, nI_eq, nI_pos, nI_pos', Nat.reduceAdd, Nat.reduceMul, Nat.reducePow, sk_54 hv, sr_54_2 hv, sr_54_3 hv, sr_54_4 hv, sr_54_5 hv, sr_54_7 hv, sr_54_8 hv, sr_54_9 hv, sr_54_12 hv, sr_54_13 hv, sr_54_14 hv, sr_54_22 hv, sr_54_25 hv, sr_54_26 hv, sr_54_27 hv, sr_54_34 hv, sr_54_35 hv, sr_54_36 hv, sr_54_37 hv, sr_54_38 hv, sr_54_40 hv, sr_54_43 hv, sr_54_44 hv, sr_54_45 hv, sr_54_46 hv, sr_54_47 hv, sk_66 hv, sn_66 hv, sk_67 hv, sn_67 hv, sk_68 hv, sn_68 hv, e, z, q30, q31, q32, c, c2, na1, dE, if_false]
end
