/-! logs that are not so -/
def wrB (A : Nat → Int32) (E : Nat → Nat) (h k : Nat) : Bool := decide (foI (dyO E (hn A) (2 ^ h &&& mkN (St A) (hn A)) (an A (232 + 2 * k)) 12) ≠ A (233 + 2 * k))
def wrN (A : Nat → Int32) (E : Nat → Nat) (h : Nat) : Nat := cn (wrB A E h) (an A 253) 0
section
variable {B : Nat} {own : Nat → Nat} {σ : gS} {A : Nat → Int32} {d : Nat} {Q : Option Value → gS → Prop} {E : Nat → Nat}
theorem log_n (wp' : Wp A) : an A 253 ≤ 8 ∧ A 253 = nI (an A 253) ∧ ∀ k, k < an A 253 → an A (232 + 2 * k) < hn A ∧ A (232 + 2 * k) = nI (an A (232 + 2 * k)) := by
  obtain ⟨w1, w2, w3, w4, w5, w6⟩ := wp'
  obtain ⟨l1, l2⟩ := an_le w3 (by omega)
  refine ⟨l1, l2, fun k hk => ?_⟩
  obtain ⟨f, e, hf⟩ := w6 k hk
  by_cases z : f < 2147483648
  · rw [an_v e z]
    exact ⟨hf, e⟩
  · exfalso
    have : hn A < 2147483648 := by
      simp only [hn, an]
      have := (A 250).toNatClampNeg_lt
      omega
    omega
theorem s_wrL {r h : Nat} (hc : Ctx B own σ A) (hh : h < hn A) (hW : ∀ j, j < 12 → gI σ (B + 44) j = foI (dyO E (hn A) (2 ^ h &&& mkN (St A) (hn A)) j 12)) : ∀ m k (x5 : Option Value), k + m = an A 253 → (wp (d + 1) pr_33 Q 26 [some (.ref (B + 42)), some (.ref r), some (.int (nI h)), some (.int (nI (cn (wrB A E h) k 0))), some (.int (nI k)), x5] [] σ ↔ Q (some (.int (nI (wrN A E h)))) σ) := by
  have hv := hc.1
  obtain ⟨⟨wh, w2, w3, w4, w5⟩, ⟨t1, t2, t3, t4, t5⟩, lw⟩ := hc.2.1
  have h12 := hn_le wh
  obtain ⟨l1, l2, l3⟩ := log_n w4
  obtain ⟨_, _, q1, q2⟩ := t4
  have q1 : gI σ (B + 15) 2 = nI (an A 253) := q1.trans l2
  intro m
  induction m with
  | zero =>
    intro k x5 hk
    have z : an A 253 ≤ k := by omega
    have e : k = an A 253 := by omega
    simp (disch := omega) only [e_33_26, e_33_28, e_33_29, e_33_32, e_33_35, e_33_38, e_33_106, e_33_107, n10, n01, Nat.lt_irrefl, Nat.not_lt_zero, ne_eq, Nat.add_zero, Nat.one_ne_zero, Nat.zero_ne_one, Nat.reduceEqDiff, bI_T, bI_F, bI_0, bI_1, bI_01, not_and_self, true_and, and_true, not_true_eq_false, not_false_eq_true, false_imp_iff, true_imp_iff, imp_self, gPv_n, gPv_i, gPv_r, gPv_0, Option.toList_some, Option.toList_none, List.singleton_append, List.cons_append, List.nil_append, List.length_nil, List.length_cons, Nat.zero_le, Nat.reduceAdd, Nat.reduceLeDiff, or_true, true_or, false_or, or_false, and_self, and_false, false_and, implies_true, Option.some.injEq, exists_eq_left', nL, nI_add, nI_mul, nI_clamp, nI_ltI, nI_leI, nI_eq, nI_pos, nI_pos', Nat.reduceAdd, Nat.reduceMul, Nat.reducePow, sk_1 hv, sr_1_0 hv, sr_1_1 hv, sr_1_2 hv, sr_1_3 hv, sr_1_4 hv, sr_1_7 hv, sr_1_9 hv, sr_1_14 hv, sr_1_15 hv, sr_1_16 hv, sk_15 hv, sr_15_0 hv, sr_15_1 hv, sk_42 hv, sr_42_0 hv, sr_42_1 hv, sr_42_2 hv, q1, z]
    rw [e, wrN]
  | succ m ih =>
    intro k x5 hk
    have hk' : k < an A 253 := by omega
    have z : ¬ an A 253 ≤ k := by omega
    have z8 : ¬ 8 ≤ k := by omega
    have y8 : k < 8 := by omega
    obtain ⟨f1, f2⟩ := l3 k hk'
    obtain ⟨g1, g2⟩ := q2 k hk'
    have g1 : gI σ (B + 16) k = nI (an A (232 + 2 * k)) := g1.trans f2
    have g2 : gI σ (B + 17) k = A (233 + 2 * k) := g2
    have wf := hW (an A (232 + 2 * k)) (by omega)
    have f11 : an A (232 + 2 * k) ≤ 11 := by omega
    have f12 : an A (232 + 2 * k) < 12 := by omega
    have cl := cn_le (wrB A E h) k 0
    rw [e_33_26]
    by_cases c : foI (dyO E (hn A) (2 ^ h &&& mkN (St A) (hn A)) (an A (232 + 2 * k)) 12) = A (233 + 2 * k)
    · simp (disch := omega) only [e_33_28, e_33_29, e_33_32, e_33_35, e_33_38, e_33_41, e_33_43, e_33_45, e_33_48, e_33_49, e_33_52, e_33_55, e_33_58, e_33_60, e_33_61, e_33_63, e_33_65, e_33_66, e_33_68, e_33_71, e_33_74, e_33_75, e_33_78, e_33_80, e_33_81, e_33_82, e_33_85, e_33_88, e_33_91, e_33_93, e_33_94, e_33_97, e_33_100, e_33_103, n10, n01, Nat.lt_irrefl, Nat.not_lt_zero, ne_eq, Nat.add_zero, Nat.one_ne_zero, Nat.zero_ne_one, Nat.reduceEqDiff, bI_T, bI_F, bI_0, bI_1, bI_01, not_and_self, true_and, and_true, not_true_eq_false, not_false_eq_true, false_imp_iff, true_imp_iff, imp_self, gPv_n, gPv_i, gPv_r, gPv_0, Option.toList_some, Option.toList_none, List.singleton_append, List.cons_append, List.nil_append, List.length_nil, List.length_cons, Nat.zero_le, Nat.reduceAdd, Nat.reduceLeDiff, or_true, true_or, false_or, or_false, and_self, and_false, false_and, implies_true, Option.some.injEq, exists_eq_left', nL, nI_add, nI_mul, nI_clamp, nI_ltI, nI_leI, nI_eq, nI_pos, nI_pos', Nat.reduceAdd, Nat.reduceMul, Nat.reducePow, sk_1 hv, sr_1_0 hv, sr_1_1 hv, sr_1_2 hv, sr_1_3 hv, sr_1_4 hv, sr_1_7 hv, sr_1_9 hv, sr_1_14 hv, sr_1_15 hv, sr_1_16 hv, sk_15 hv, sr_15_0 hv, sr_15_1 hv, sk_16 hv, sn_16 hv, sk_17 hv, sn_17 hv, sk_42 hv, sr_42_0 hv, sr_42_1 hv, sr_42_2 hv, sk_44 hv, sn_44 hv, q1, z, z8, y8, g1, g2, s_within, f11, f12, wf, c]
      rw [← ih (k + 1) (some (.int (nI (an A (232 + 2 * k))))) (by omega), cn_s]
      have : wrB A E h k = false := by simp [wrB, c]
      rw [this]
      simp
    · simp (disch := omega) only [e_33_28, e_33_29, e_33_32, e_33_35, e_33_38, e_33_41, e_33_43, e_33_45, e_33_48, e_33_49, e_33_52, e_33_55, e_33_58, e_33_60, e_33_61, e_33_63, e_33_65, e_33_66, e_33_68, e_33_71, e_33_74, e_33_75, e_33_78, e_33_80, e_33_81, e_33_82, e_33_85, e_33_88, e_33_91, e_33_93, e_33_94, e_33_97, e_33_100, e_33_103, n10, n01, Nat.lt_irrefl, Nat.not_lt_zero, ne_eq, Nat.add_zero, Nat.one_ne_zero, Nat.zero_ne_one, Nat.reduceEqDiff, bI_T, bI_F, bI_0, bI_1, bI_01, not_and_self, true_and, and_true, not_true_eq_false, not_false_eq_true, false_imp_iff, true_imp_iff, imp_self, gPv_n, gPv_i, gPv_r, gPv_0, Option.toList_some, Option.toList_none, List.singleton_append, List.cons_append, List.nil_append, List.length_nil, List.length_cons, Nat.zero_le, Nat.reduceAdd, Nat.reduceLeDiff, or_true, true_or, false_or, or_false, and_self, and_false, false_and, implies_true, Option.some.injEq, exists_eq_left', nL, nI_add, nI_mul, nI_clamp, nI_ltI, nI_leI, nI_eq, nI_pos, nI_pos', Nat.reduceAdd, Nat.reduceMul, Nat.reducePow, sk_1 hv, sr_1_0 hv, sr_1_1 hv, sr_1_2 hv, sr_1_3 hv, sr_1_4 hv, sr_1_7 hv, sr_1_9 hv, sr_1_14 hv, sr_1_15 hv, sr_1_16 hv, sk_15 hv, sr_15_0 hv, sr_15_1 hv, sk_16 hv, sn_16 hv, sk_17 hv, sn_17 hv, sk_42 hv, sr_42_0 hv, sr_42_1 hv, sr_42_2 hv, sk_44 hv, sn_44 hv, q1, z, z8, y8, g1, g2, s_within, f11, f12, wf, c]
      rw [← ih (k + 1) (some (.int (nI (an A (232 + 2 * k))))) (by omega), cn_s]
      have : wrB A E h k = true := by simp [wrB, c]
      rw [this]
      simp
theorem s_wrongLogs {r h : Nat} (hc : Ctx B own σ A) (hr : r = B + 29 ∨ r = B + 43) (hE : EdG A E) (hR : ∀ j, j < 12 → gI σ r j = nI (E j)) (hh : h < hn A) (K : ∀ τ, Sm (fun a => a = B + 44) σ τ → Q (some (.int (nI (wrN A E h)))) τ) : wc (d + 3) 33 [.ref (B + 42), .ref r, .int (nI h)] σ Q := by
  have hv := hc.1
  have wh : Wh A := hc.2.1.1.1
  have h12 := hn_le wh
  have t1 : Th (B + 1) σ A := hc.2.1.2.1.1
  simp (disch := omega) only [c_33, e_33_0, e_33_1, e_33_4, e_33_5, e_33_8, e_33_11, e_33_12, e_33_13, e_33_14, e_33_14n, e_33_15, e_33_16, e_33_17, e_33_18, n10, n01, Nat.lt_irrefl, Nat.not_lt_zero, ne_eq, Nat.add_zero, Nat.one_ne_zero, Nat.zero_ne_one, Nat.reduceEqDiff, bI_T, bI_F, bI_0, bI_1, bI_01, not_and_self, true_and, and_true, not_true_eq_false, not_false_eq_true, false_imp_iff, true_imp_iff, imp_self, gPv_n, gPv_i, gPv_r, gPv_0, Option.toList_some, Option.toList_none, List.singleton_append, List.cons_append, List.nil_append, List.length_nil, List.length_cons, Nat.zero_le, Nat.reduceAdd, Nat.reduceLeDiff, or_true, true_or, false_or, or_false, and_self, and_false, false_and, implies_true, Option.some.injEq, exists_eq_left', nL, nI_add, nI_mul, nI_clamp, nI_ltI, nI_leI, nI_eq, nI_pos, nI_pos', Nat.reduceAdd, Nat.reduceMul, Nat.reducePow, sk_1 hv, sr_1_0 hv, sr_1_1 hv, sr_1_2 hv, sr_1_3 hv, sr_1_4 hv, sr_1_7 hv, sr_1_9 hv, sr_1_14 hv, sr_1_15 hv, sr_1_16 hv, sk_42 hv, sr_42_0 hv, sr_42_1 hv, sr_42_2 hv, s_hasN hv wh t1 hh, nI_shl, Nat.one_mul]
  refine s_goRound hc hr hE hR ?_
  intro τ hS hW
  have hcT := Ctx_S hc (Sm_mono hS (fun a ha => by omega))
  simp (disch := omega) only [e_33_21, e_33_22, e_33_23, e_33_24, n10, n01, Nat.lt_irrefl, Nat.not_lt_zero, ne_eq, Nat.add_zero, Nat.one_ne_zero, Nat.zero_ne_one, Nat.reduceEqDiff, bI_T, bI_F, bI_0, bI_1, bI_01, not_and_self, true_and, and_true, not_true_eq_false, not_false_eq_true, false_imp_iff, true_imp_iff, imp_self, gPv_n, gPv_i, gPv_r, gPv_0, Option.toList_some, Option.toList_none, List.singleton_append, List.cons_append, List.nil_append, List.length_nil, List.length_cons, Nat.zero_le, Nat.reduceAdd, Nat.reduceLeDiff, or_true, true_or, false_or, or_false, and_self, and_false, false_and, implies_true, Option.some.injEq, exists_eq_left', nL]
  have := s_wrL (d := d + 1) (Q := Q) (r := r) (E := E) hcT hh hW (an A 253) 0 none (by omega)
  exact this.mpr (K τ hS)
theorem t_wrL {h : Nat} (X : MX B σ A) (hp : Wp A) (hh : h < hn A) (hW : ∀ j, j < hn A → gI σ (B + 75) j = foI (dyO E (hn A) (2 ^ h &&& mkN (St A) (hn A)) j 12)) : ∀ m k, k + m = an A 253 → (wp d pr_260 Q 11 [some (.ref (B + 54)), some (.int (nI h)), some (.int (nI (cn (wrB A E h) k 0))), some (.int (nI k))] [] σ ↔ Q (some (.int (nI (wrN A E h)))) σ) := by
  obtain ⟨hv, hA, wh, wd, wl⟩ := id X
  have h12 := hn_le wh
  obtain ⟨l1, l2, l3⟩ := log_n hp
  have q1 : gI σ (B + 56) 253 = nI (an A 253) := by rw [hA]; exact l2
  intro m
  induction m with
  | zero =>
    intro k hk
    have z : an A 253 ≤ k := by omega
    have e : k = an A 253 := by omega
    simp (disch := omega) only [e_260_11, e_260_12, e_260_13, e_260_16, e_260_19, e_260_20, e_260_71, e_260_72, n10, n01, Nat.lt_irrefl, Nat.not_lt_zero, ne_eq, Nat.add_zero, Nat.one_ne_zero, Nat.zero_ne_one, Nat.reduceEqDiff, bI_T, bI_F, bI_0, bI_1, bI_01, not_and_self, true_and, and_true, not_true_eq_false, not_false_eq_true, false_imp_iff, true_imp_iff, imp_self, gPv_n, gPv_i, gPv_r, gPv_0, Option.toList_some, Option.toList_none, List.singleton_append, List.cons_append, List.nil_append, List.length_nil, List.length_cons, Nat.zero_le, Nat.reduceAdd, Nat.reduceLeDiff, or_true, true_or, false_or, or_false, and_self, and_false, false_and, implies_true, Option.some.injEq, exists_eq_left', nL, nI_add, nI_mul, nI_clamp, nI_ltI, nI_leI, nI_eq, nI_pos, nI_pos', Nat.reduceAdd, Nat.reduceMul, Nat.reducePow, sk_54 hv, sr_54_2 hv, sr_54_3 hv, sr_54_4 hv, sr_54_5 hv, sr_54_7 hv, sr_54_8 hv, sr_54_9 hv, sr_54_12 hv, sr_54_13 hv, sr_54_14 hv, sr_54_22 hv, sr_54_25 hv, sr_54_26 hv, sr_54_27 hv, sr_54_34 hv, sr_54_35 hv, sr_54_36 hv, sr_54_37 hv, sr_54_38 hv, sr_54_40 hv, sr_54_43 hv, sr_54_44 hv, sr_54_45 hv, sr_54_46 hv, sr_54_47 hv, sk_56 hv, sn_56 hv, q1, z, Nat.reduceLT]
    rw [e, wrN]
  | succ m ih =>
    intro k hk
    have hk' : k < an A 253 := by omega
    have z : ¬ an A 253 ≤ k := by omega
    obtain ⟨f1, f2⟩ := l3 k hk'
    have g1 : gI σ (B + 56) (232 + 2 * k) = nI (an A (232 + 2 * k)) := by rw [hA]; exact f2
    have g2 : gI σ (B + 56) (232 + 2 * k + 1) = A (233 + 2 * k) := by rw [hA, show 232 + 2 * k + 1 = 233 + 2 * k from by omega]
    have wf := hW (an A (232 + 2 * k)) f1
    have f12 : an A (232 + 2 * k) < 12 := by omega
    have y1 : 232 + 2 * k < 5062 := by omega
    have y2 : 232 + 2 * k + 1 < 5062 := by omega
    have cl := cn_le (wrB A E h) k 0
    rw [e_260_11]
    by_cases c : foI (dyO E (hn A) (2 ^ h &&& mkN (St A) (hn A)) (an A (232 + 2 * k)) 12) = A (233 + 2 * k)
    · simp (disch := omega) only [e_260_12, e_260_13, e_260_16, e_260_19, e_260_20, e_260_23, e_260_24, e_260_25, e_260_28, e_260_29, e_260_32, e_260_35, e_260_36, e_260_37, e_260_38, e_260_39, e_260_40, e_260_41, e_260_42, e_260_45, e_260_48, e_260_49, e_260_50, e_260_51, e_260_52, e_260_53, e_260_54, e_260_55, e_260_58, e_260_59, e_260_62, e_260_63, e_260_64, e_260_65, e_260_68, n10, n01, Nat.lt_irrefl, Nat.not_lt_zero, ne_eq, Nat.add_zero, Nat.one_ne_zero, Nat.zero_ne_one, Nat.reduceEqDiff, bI_T, bI_F, bI_0, bI_1, bI_01, not_and_self, true_and, and_true, not_true_eq_false, not_false_eq_true, false_imp_iff, true_imp_iff, imp_self, gPv_n, gPv_i, gPv_r, gPv_0, Option.toList_some, Option.toList_none, List.singleton_append, List.cons_append, List.nil_append, List.length_nil, List.length_cons, Nat.zero_le, Nat.reduceAdd, Nat.reduceLeDiff, or_true, true_or, false_or, or_false, and_self, and_false, false_and, implies_true, Option.some.injEq, exists_eq_left', nL, nI_add, nI_mul, nI_clamp, nI_ltI, nI_leI, nI_eq, nI_pos, nI_pos', Nat.reduceAdd, Nat.reduceMul, Nat.reducePow, sk_54 hv, sr_54_2 hv, sr_54_3 hv, sr_54_4 hv, sr_54_5 hv, sr_54_7 hv, sr_54_8 hv, sr_54_9 hv, sr_54_12 hv, sr_54_13 hv, sr_54_14 hv, sr_54_22 hv, sr_54_25 hv, sr_54_26 hv, sr_54_27 hv, sr_54_34 hv, sr_54_35 hv, sr_54_36 hv, sr_54_37 hv, sr_54_38 hv, sr_54_40 hv, sr_54_43 hv, sr_54_44 hv, sr_54_45 hv, sr_54_46 hv, sr_54_47 hv, sk_56 hv, sn_56 hv, sk_75 hv, sn_75 hv, q1, z, g1, g2, f12, y1, y2, wf, c, Nat.reduceLT]
      rw [← ih (k + 1) (by omega), cn_s]
      have : wrB A E h k = false := by simp [wrB, c]
      rw [this]
      simp
    · simp (disch := omega) only [e_260_12, e_260_13, e_260_16, e_260_19, e_260_20, e_260_23, e_260_24, e_260_25, e_260_28, e_260_29, e_260_32, e_260_35, e_260_36, e_260_37, e_260_38, e_260_39, e_260_40, e_260_41, e_260_42, e_260_45, e_260_48, e_260_49, e_260_50, e_260_51, e_260_52, e_260_53, e_260_54, e_260_55, e_260_58, e_260_59, e_260_62, e_260_63, e_260_64, e_260_65, e_260_68, n10, n01, Nat.lt_irrefl, Nat.not_lt_zero, ne_eq, Nat.add_zero, Nat.one_ne_zero, Nat.zero_ne_one, Nat.reduceEqDiff, bI_T, bI_F, bI_0, bI_1, bI_01, not_and_self, true_and, and_true, not_true_eq_false, not_false_eq_true, false_imp_iff, true_imp_iff, imp_self, gPv_n, gPv_i, gPv_r, gPv_0, Option.toList_some, Option.toList_none, List.singleton_append, List.cons_append, List.nil_append, List.length_nil, List.length_cons, Nat.zero_le, Nat.reduceAdd, Nat.reduceLeDiff, or_true, true_or, false_or, or_false, and_self, and_false, false_and, implies_true, Option.some.injEq, exists_eq_left', nL, nI_add, nI_mul, nI_clamp, nI_ltI, nI_leI, nI_eq, nI_pos, nI_pos', Nat.reduceAdd, Nat.reduceMul, Nat.reducePow, sk_54 hv, sr_54_2 hv, sr_54_3 hv, sr_54_4 hv, sr_54_5 hv, sr_54_7 hv, sr_54_8 hv, sr_54_9 hv, sr_54_12 hv, sr_54_13 hv, sr_54_14 hv, sr_54_22 hv, sr_54_25 hv, sr_54_26 hv, sr_54_27 hv, sr_54_34 hv, sr_54_35 hv, sr_54_36 hv, sr_54_37 hv, sr_54_38 hv, sr_54_40 hv, sr_54_43 hv, sr_54_44 hv, sr_54_45 hv, sr_54_46 hv, sr_54_47 hv, sk_56 hv, sn_56 hv, sk_75 hv, sn_75 hv, q1, z, g1, g2, f12, y1, y2, wf, c, Nat.reduceLT]
      rw [← ih (k + 1) (by omega), cn_s]
      have : wrB A E h k = true := by simp [wrB, c]
      rw [this]
      simp
theorem t_wrongs {h : Nat} (X : MX B σ A) (hp : Wp A) (hN : ∀ τ, M75 B σ τ → NX B τ (hn A) E) (hE : EdG A E) (hh : h < hn A) (K : ∀ τ, M75 B σ τ → Q (some (.int (nI (wrN A E h)))) τ) : wc (d + 5) 260 [.ref (B + 54), .int (nI h)] σ Q := by
  have hv := X.1
  have h12 := hn_le X.2.2.1
  simp (disch := omega) only [c_260, e_260_0, e_260_1, e_260_2, e_260_3, e_260_4, n10, n01, Nat.lt_irrefl, Nat.not_lt_zero, ne_eq, Nat.add_zero, Nat.one_ne_zero, Nat.zero_ne_one, Nat.reduceEqDiff, bI_T, bI_F, bI_0, bI_1, bI_01, not_and_self, true_and, and_true, not_true_eq_false, not_false_eq_true, false_imp_iff, true_imp_iff, imp_self, gPv_n, gPv_i, gPv_r, gPv_0, Option.toList_some, Option.toList_none, List.singleton_append, List.cons_append, List.nil_append, List.length_nil, List.length_cons, Nat.zero_le, Nat.reduceAdd, Nat.reduceLeDiff, or_true, true_or, false_or, or_false, and_self, and_false, false_and, implies_true, Option.some.injEq, exists_eq_left', nL, nI_add, nI_mul, nI_clamp, nI_ltI, nI_leI, nI_eq, nI_pos, nI_pos', Nat.reduceAdd, Nat.reduceMul, Nat.reducePow, sk_54 hv, sr_54_2 hv, sr_54_3 hv, sr_54_4 hv, sr_54_5 hv, sr_54_7 hv, sr_54_8 hv, sr_54_9 hv, sr_54_12 hv, sr_54_13 hv, sr_54_14 hv, sr_54_22 hv, sr_54_25 hv, sr_54_26 hv, sr_54_27 hv, sr_54_34 hv, sr_54_35 hv, sr_54_36 hv, sr_54_37 hv, sr_54_38 hv, sr_54_40 hv, sr_54_43 hv, sr_54_44 hv, sr_54_45 hv, sr_54_46 hv, sr_54_47 hv, nI_shl, Nat.one_mul]
  refine t_spreads X hN hE ?_
  intro τ hS hW
  simp (disch := omega) only [e_260_7, e_260_8, e_260_9, e_260_10, n10, n01, Nat.lt_irrefl, Nat.not_lt_zero, ne_eq, Nat.add_zero, Nat.one_ne_zero, Nat.zero_ne_one, Nat.reduceEqDiff, bI_T, bI_F, bI_0, bI_1, bI_01, not_and_self, true_and, and_true, not_true_eq_false, not_false_eq_true, false_imp_iff, true_imp_iff, imp_self, gPv_n, gPv_i, gPv_r, gPv_0, Option.toList_some, Option.toList_none, List.singleton_append, List.cons_append, List.nil_append, List.length_nil, List.length_cons, Nat.zero_le, Nat.reduceAdd, Nat.reduceLeDiff, or_true, true_or, false_or, or_false, and_self, and_false, false_and, implies_true, Option.some.injEq, exists_eq_left', nL]
  have := t_wrL (d := d + 4) (Q := Q) (E := E) (MX_S X hS (by omega)) hp hh hW (an A 253) 0 (by omega)
  exact this.mpr (K τ hS)
end
section
variable {CV : Nat → (Nat → Int32) → (Nat → Nat → Int32) → Prop} {G : gG}
theorem ob_wrong (hcv : CVl CV) : gOb (Inv LSx CV MVx G) (gb G) (gB G) (gB G + 54) 143 261 1 := by
  intro σ k as hl hk hI
  obtain ⟨p0, rfl⟩ := len1 hl
  have hv := Inv_Sh hI
  have hb := Inv_b hI
  obtain ⟨own, cc, v, hc, ha, hX, hm⟩ := Inv_ctx hI hk
  obtain ⟨z30, z32⟩ := Inv_30 hI
  have w1 := hX.2.2.1
  have w4 := hc.2.1.1.2.2.2.1
  have h12 := hn_le w1
  have hn2 := hn_eq w1
  have e5 := hc.2.1.2.1.1.1
  by_cases h0 : nI 0 ≤ p0 ∧ p0 < nI (hn (gI σ (gB G + 56)))
  · obtain ⟨a, ha1, rfl⟩ := in_lt (by omega) h0
    simp (disch := first | omega | (simp only [IvS_I, IvS_J, IvS_r]; assumption)) only [List.map_cons, List.map_nil, Value.int.injEq, gSc_r, gSc_I, n10, n01, Nat.lt_irrefl, Nat.not_lt_zero, ne_eq, Nat.add_zero, Nat.one_ne_zero, Nat.zero_ne_one, Nat.reduceEqDiff, bI_T, bI_F, bI_0, bI_1, bI_01, not_and_self, true_and, and_true, not_true_eq_false, not_false_eq_true, false_imp_iff, true_imp_iff, imp_self, gPv_n, gPv_i, gPv_r, gPv_0, Option.toList_some, Option.toList_none, List.singleton_append, List.cons_append, List.nil_append, List.length_nil, List.length_cons, Nat.zero_le, Nat.reduceAdd, Nat.reduceLeDiff, or_true, true_or, false_or, or_false, and_self, and_false, false_and, implies_true, Option.some.injEq, exists_eq_left', nL, nI_add, nI_mul, nI_clamp, nI_ltI, nI_leI, nI_eq, nI_pos, nI_pos', Nat.reduceAdd, Nat.reduceMul, Nat.reducePow, c_143, e_143_0, e_143_1, e_143_4, e_143_5, e_143_8, e_143_11, e_143_12, e_143_15, e_143_16, e_143_19, sk_0 hv, sr_0_0 hv, sr_0_1 hv, sr_0_2 hv, sr_0_4 hv, sr_0_7 hv, sr_0_9 hv, sr_0_10 hv, sr_0_11 hv, sr_0_12 hv, sr_0_13 hv, sr_0_14 hv, sk_1 hv, sr_1_0 hv, sr_1_1 hv, sr_1_2 hv, sr_1_3 hv, sr_1_4 hv, sr_1_7 hv, sr_1_9 hv, sr_1_14 hv, sr_1_15 hv, sr_1_16 hv, sk_25 hv, sr_25_0 hv, sr_25_1 hv, sr_25_2 hv, sr_25_3 hv, sr_25_4 hv, sr_25_5 hv, s_has (sk_1 hv), e5, hn2, ha1]
    refine s_openRows (d := 992) hcv hc ha ?_
    intro τ hS hcT haT hr
    have hvT := hcT.1
    have hE := EdG_o (dy := gI σ (gB G + 56) 249) w1
    simp (disch := omega) only [e_143_22, e_143_23, n10, n01, Nat.lt_irrefl, Nat.not_lt_zero, ne_eq, Nat.add_zero, Nat.one_ne_zero, Nat.zero_ne_one, Nat.reduceEqDiff, bI_T, bI_F, bI_0, bI_1, bI_01, not_and_self, true_and, and_true, not_true_eq_false, not_false_eq_true, false_imp_iff, true_imp_iff, imp_self, gPv_n, gPv_i, gPv_r, gPv_0, Option.toList_some, Option.toList_none, List.singleton_append, List.cons_append, List.nil_append, List.length_nil, List.length_cons, Nat.zero_le, Nat.reduceAdd, Nat.reduceLeDiff, or_true, true_or, false_or, or_false, and_self, and_false, false_and, implies_true, Option.some.injEq, exists_eq_left', nL, nI_add, nI_mul, nI_clamp, nI_ltI, nI_leI, nI_eq, nI_pos, nI_pos', Nat.reduceAdd, Nat.reduceMul, Nat.reducePow, sk_42 hvT, sr_42_0 hvT, sr_42_1 hvT, sr_42_2 hvT]
    refine s_wrongLogs (d := 996) hcT (Or.inl rfl) hE hr ha1 ?_
    intro τ1 hS1'
    have hvT1 : IvS (gB G) τ1 := fr_IvS hS1'.1 hS1'.2.1 hS1'.2.2.1 hvT
    have hS01 : Sm (fun a => gB G + 25 ≤ a ∧ a < gB G + 50) σ τ1 := Sm_trans (Sm_mono hS (fun a ha => by omega)) (Sm_mono hS1' (fun a ha => by omega))
    have haT1 := Ca_P hcv haT hS1' (fun a ha => by omega)
    have XT := MX_S hX hS01 (by omega)
    have e250 : gI τ1 (gB G + 56) 250 = nI (hn (gI σ (gB G + 56))) := by rw [XT.2.1]; exact hn2
    simp (disch := omega) only [e_143_26, e_143_29, e_143_30, n10, n01, Nat.lt_irrefl, Nat.not_lt_zero, ne_eq, Nat.add_zero, Nat.one_ne_zero, Nat.zero_ne_one, Nat.reduceEqDiff, bI_T, bI_F, bI_0, bI_1, bI_01, not_and_self, true_and, and_true, not_true_eq_false, not_false_eq_true, false_imp_iff, true_imp_iff, imp_self, gPv_n, gPv_i, gPv_r, gPv_0, Option.toList_some, Option.toList_none, List.singleton_append, List.cons_append, List.nil_append, List.length_nil, List.length_cons, Nat.zero_le, Nat.reduceAdd, Nat.reduceLeDiff, or_true, true_or, false_or, or_false, and_self, and_false, false_and, implies_true, Option.some.injEq, exists_eq_left', nL, nI_add, nI_mul, nI_clamp, nI_ltI, nI_leI, nI_eq, nI_pos, nI_pos', Nat.reduceAdd, Nat.reduceMul, Nat.reducePow]
    refine ⟨⟨gSc_S hS01 (by omega), sk_54 hvT1⟩, _, rfl, ?_⟩
    simp (disch := first | omega | (simp only [IvS_I, IvS_J, IvS_r]; assumption)) only [List.map_cons, List.map_nil, Value.int.injEq, gSc_r, gSc_I, n10, n01, Nat.lt_irrefl, Nat.not_lt_zero, ne_eq, Nat.add_zero, Nat.one_ne_zero, Nat.zero_ne_one, Nat.reduceEqDiff, bI_T, bI_F, bI_0, bI_1, bI_01, not_and_self, true_and, and_true, not_true_eq_false, not_false_eq_true, false_imp_iff, true_imp_iff, imp_self, gPv_n, gPv_i, gPv_r, gPv_0, Option.toList_some, Option.toList_none, List.singleton_append, List.cons_append, List.nil_append, List.length_nil, List.length_cons, Nat.zero_le, Nat.reduceAdd, Nat.reduceLeDiff, or_true, true_or, false_or, or_false, and_self, and_false, false_and, implies_true, Option.some.injEq, exists_eq_left', nL, nI_add, nI_mul, nI_clamp, nI_ltI, nI_leI, nI_eq, nI_pos, nI_pos', Nat.reduceAdd, Nat.reduceMul, Nat.reducePow, c_261, e_261_0, e_261_1, e_261_2, e_261_5, e_261_8, e_261_9, e_261_10, e_261_11, sk_54 hvT1, sr_54_2 hvT1, sr_54_3 hvT1, sr_54_4 hvT1, sr_54_5 hvT1, sr_54_7 hvT1, sr_54_8 hvT1, sr_54_9 hvT1, sr_54_12 hvT1, sr_54_13 hvT1, sr_54_14 hvT1, sr_54_22 hvT1, sr_54_25 hvT1, sr_54_26 hvT1, sr_54_27 hvT1, sr_54_34 hvT1, sr_54_35 hvT1, sr_54_36 hvT1, sr_54_37 hvT1, sr_54_38 hvT1, sr_54_40 hvT1, sr_54_43 hvT1, sr_54_44 hvT1, sr_54_45 hvT1, sr_54_46 hvT1, sr_54_47 hvT1, t_isHouse hvT1, e250, le_sub1, ha1]
    refine t_look (d := 930) XT (Mc_S hm hS01 (fun a ha => by omega)) (by rw [hS01.2.2.2.2.2.2.1 _ (by omega)]; exact z30) (by rw [hS01.2.2.2.2.2.2.1 _ (by omega)]; exact z32) ?_
    intro τ2 hq
    have X2 := QM_X XT hq
    have hv2 := X2.1
    simp (disch := omega) only [e_261_14, e_261_15, e_261_16, n10, n01, Nat.lt_irrefl, Nat.not_lt_zero, ne_eq, Nat.add_zero, Nat.one_ne_zero, Nat.zero_ne_one, Nat.reduceEqDiff, bI_T, bI_F, bI_0, bI_1, bI_01, not_and_self, true_and, and_true, not_true_eq_false, not_false_eq_true, false_imp_iff, true_imp_iff, imp_self, gPv_n, gPv_i, gPv_r, gPv_0, Option.toList_some, Option.toList_none, List.singleton_append, List.cons_append, List.nil_append, List.length_nil, List.length_cons, Nat.zero_le, Nat.reduceAdd, Nat.reduceLeDiff, or_true, true_or, false_or, or_false, and_self, and_false, false_and, implies_true, Option.some.injEq, exists_eq_left', nL, nI_add, nI_mul, nI_clamp, nI_ltI, nI_leI, nI_eq, nI_pos, nI_pos', Nat.reduceAdd, Nat.reduceMul, Nat.reducePow, sk_54 hv2, sr_54_2 hv2, sr_54_3 hv2, sr_54_4 hv2, sr_54_5 hv2, sr_54_7 hv2, sr_54_8 hv2, sr_54_9 hv2, sr_54_12 hv2, sr_54_13 hv2, sr_54_14 hv2, sr_54_22 hv2, sr_54_25 hv2, sr_54_26 hv2, sr_54_27 hv2, sr_54_34 hv2, sr_54_35 hv2, sr_54_36 hv2, sr_54_37 hv2, sr_54_38 hv2, sr_54_40 hv2, sr_54_43 hv2, sr_54_44 hv2, sr_54_45 hv2, sr_54_46 hv2, sr_54_47 hv2]
    refine t_wrongs (d := 994) X2 w4 (NX_75 XT hq) hE ha1 ?_
    intro τ3 hS3
    simp (disch := omega) only [e_261_19, n10, n01, Nat.lt_irrefl, Nat.not_lt_zero, ne_eq, Nat.add_zero, Nat.one_ne_zero, Nat.zero_ne_one, Nat.reduceEqDiff, bI_T, bI_F, bI_0, bI_1, bI_01, not_and_self, true_and, and_true, not_true_eq_false, not_false_eq_true, false_imp_iff, true_imp_iff, imp_self, gPv_n, gPv_i, gPv_r, gPv_0, Option.toList_some, Option.toList_none, List.singleton_append, List.cons_append, List.nil_append, List.length_nil, List.length_cons, Nat.zero_le, Nat.reduceAdd, Nat.reduceLeDiff, or_true, true_or, false_or, or_false, and_self, and_false, false_and, implies_true, Option.some.injEq, exists_eq_left', nL, nI_add, nI_mul, nI_clamp, nI_ltI, nI_leI, nI_eq, nI_pos, nI_pos', Nat.reduceAdd, Nat.reduceMul, Nat.reducePow]
    exact Inv_QM hk hI hm hS01 haT1 (QM_75 hq hS3)
  · simp (disch := first | omega | (simp only [IvS_I, IvS_J, IvS_r]; assumption)) only [List.map_cons, List.map_nil, Value.int.injEq, gSc_r, gSc_I, n10, n01, Nat.lt_irrefl, Nat.not_lt_zero, ne_eq, Nat.add_zero, Nat.one_ne_zero, Nat.zero_ne_one, Nat.reduceEqDiff, bI_T, bI_F, bI_0, bI_1, bI_01, not_and_self, true_and, and_true, not_true_eq_false, not_false_eq_true, false_imp_iff, true_imp_iff, imp_self, gPv_n, gPv_i, gPv_r, gPv_0, Option.toList_some, Option.toList_none, List.singleton_append, List.cons_append, List.nil_append, List.length_nil, List.length_cons, Nat.zero_le, Nat.reduceAdd, Nat.reduceLeDiff, or_true, true_or, false_or, or_false, and_self, and_false, false_and, implies_true, Option.some.injEq, exists_eq_left', nL, c_143, e_143_0, e_143_1, e_143_4, e_143_5, e_143_8, e_143_11, e_143_12, e_143_15, e_143_16, e_143_19, e_143_22, e_143_23, e_143_26, e_143_29, e_143_30, c_261, e_261_0, e_261_1, e_261_2, e_261_5, e_261_8, e_261_9, sk_0 hv, sr_0_0 hv, sr_0_1 hv, sr_0_2 hv, sr_0_4 hv, sr_0_7 hv, sr_0_9 hv, sr_0_10 hv, sr_0_11 hv, sr_0_12 hv, sr_0_13 hv, sr_0_14 hv, sk_1 hv, sr_1_0 hv, sr_1_1 hv, sr_1_2 hv, sr_1_3 hv, sr_1_4 hv, sr_1_7 hv, sr_1_9 hv, sr_1_14 hv, sr_1_15 hv, sr_1_16 hv, sk_54 hv, sr_54_2 hv, sr_54_3 hv, sr_54_4 hv, sr_54_5 hv, sr_54_7 hv, sr_54_8 hv, sr_54_9 hv, sr_54_12 hv, sr_54_13 hv, sr_54_14 hv, sr_54_22 hv, sr_54_25 hv, sr_54_26 hv, sr_54_27 hv, sr_54_34 hv, sr_54_35 hv, sr_54_36 hv, sr_54_37 hv, sr_54_38 hv, sr_54_40 hv, sr_54_43 hv, sr_54_44 hv, sr_54_45 hv, sr_54_46 hv, sr_54_47 hv, s_has (sk_1 hv), t_isHouse hv, e5, hn2, le_sub1, h0]
    exact Inv_up hI
end
