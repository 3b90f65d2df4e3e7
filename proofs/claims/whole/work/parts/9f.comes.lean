/-! comes -/
def sT (A : Nat → Int32) (a b : Nat) : Int32 := if fl (mM A) 12 a b < 16777216 then nI (fl (mM A) 12 a b / 64) else -nI 1
def sV (A : Nat → Int32) (a b : Nat) : Int32 := if fl (mM A) 12 a b < 16777216 then nI (fl (mM A) 12 a b % 64) else -nI 1
section
variable {B : Nat} {own : Nat → Nat} {σ : gS} {A : Nat → Int32} {d v : Nat} {Q : Option Value → gS → Prop} {E : Nat → Nat}
theorem s_cell {a b : Nat} (ha : a < 12) (hb : b < 12) : wc (d + 2) 93 [.int (nI a), .int (nI b)] σ Q ↔ Q (some (.int (nI (12 * a + b)))) σ := by
  have a1 : a ≤ 11 := by omega
  have b1 : b ≤ 11 := by omega
  have e : a * 12 + b = 12 * a + b := by omega
  simp (disch := omega) only [c_93, e_93_0, e_93_1, e_93_2, e_93_4, e_93_7, e_93_10, e_93_11, e_93_12, e_93_14, e_93_17, e_93_20, e_93_21, e_93_23, e_93_24, e_93_25, e_93_26, e_93_29, e_93_30, n10, n01, Nat.lt_irrefl, Nat.not_lt_zero, ne_eq, Nat.add_zero, Nat.one_ne_zero, Nat.zero_ne_one, Nat.reduceEqDiff, bI_T, bI_F, bI_0, bI_1, bI_01, not_and_self, true_and, and_true, not_true_eq_false, not_false_eq_true, false_imp_iff, true_imp_iff, imp_self, gPv_n, gPv_i, gPv_r, gPv_0, Option.toList_some, Option.toList_none, List.singleton_append, List.cons_append, List.nil_append, List.length_nil, List.length_cons, Nat.zero_le, Nat.reduceAdd, Nat.reduceLeDiff, or_true, true_or, false_or, or_false, and_self, and_false, false_and, implies_true, Option.some.injEq, exists_eq_left', nL, nI_add, nI_mul, nI_clamp, nI_ltI, nI_leI, nI_eq, nI_pos, nI_pos', Nat.reduceAdd, Nat.reduceMul, Nat.reducePow, s_within, a1, b1, e]
theorem s_shT {a b : Nat} (hv : IvS B σ) (hM : MsO B A σ) (ha : a < 12) (hb : b < 12) : wc (d + 3) 94 [.ref (B + 25), .int (nI a), .int (nI b)] σ Q ↔ Q (some (.int (sT A a b))) σ := by
  have e := (hM a b ha hb).2
  have l := fl_le (M := mM A) (k := 12) (i := a) (j := b)
  have l2 := mM_le (A := A) a b
  have z : 12 * a + b < 144 := by omega
  by_cases c : fl (mM A) 12 a b < 16777216
  · have c' : ¬ 16777216 ≤ fl (mM A) 12 a b := by omega
    rw [sT, if_pos c]
    simp (disch := omega) only [c_94, e_94_0, e_94_1, e_94_4, e_94_5, e_94_6, e_94_9, e_94_10, e_94_11, e_94_12, e_94_14, e_94_17, e_94_18, e_94_20, e_94_21, e_94_24, e_94_25, n10, n01, Nat.lt_irrefl, Nat.not_lt_zero, ne_eq, Nat.add_zero, Nat.one_ne_zero, Nat.zero_ne_one, Nat.reduceEqDiff, bI_T, bI_F, bI_0, bI_1, bI_01, not_and_self, true_and, and_true, not_true_eq_false, not_false_eq_true, false_imp_iff, true_imp_iff, imp_self, gPv_n, gPv_i, gPv_r, gPv_0, Option.toList_some, Option.toList_none, List.singleton_append, List.cons_append, List.nil_append, List.length_nil, List.length_cons, Nat.zero_le, Nat.reduceAdd, Nat.reduceLeDiff, or_true, true_or, false_or, or_false, and_self, and_false, false_and, implies_true, Option.some.injEq, exists_eq_left', nL, nI_add, nI_mul, nI_clamp, nI_ltI, nI_leI, nI_eq, nI_pos, nI_pos', Nat.reduceAdd, Nat.reduceMul, Nat.reducePow, sk_25 hv, sr_25_0 hv, sr_25_1 hv, sr_25_2 hv, sr_25_3 hv, sr_25_4 hv, sr_25_5 hv, sk_32 hv, sn_32 hv, s_cell ha hb, z, e, c', nI_div]
  · have c' : 16777216 ≤ fl (mM A) 12 a b := by omega
    rw [sT, if_neg c]
    simp (disch := omega) only [c_94, e_94_0, e_94_1, e_94_4, e_94_5, e_94_6, e_94_9, e_94_10, e_94_11, e_94_12, e_94_14, e_94_17, e_94_18, e_94_20, e_94_21, e_94_24, e_94_25, n10, n01, Nat.lt_irrefl, Nat.not_lt_zero, ne_eq, Nat.add_zero, Nat.one_ne_zero, Nat.zero_ne_one, Nat.reduceEqDiff, bI_T, bI_F, bI_0, bI_1, bI_01, not_and_self, true_and, and_true, not_true_eq_false, not_false_eq_true, false_imp_iff, true_imp_iff, imp_self, gPv_n, gPv_i, gPv_r, gPv_0, Option.toList_some, Option.toList_none, List.singleton_append, List.cons_append, List.nil_append, List.length_nil, List.length_cons, Nat.zero_le, Nat.reduceAdd, Nat.reduceLeDiff, or_true, true_or, false_or, or_false, and_self, and_false, false_and, implies_true, Option.some.injEq, exists_eq_left', nL, nI_add, nI_mul, nI_clamp, nI_ltI, nI_leI, nI_eq, nI_pos, nI_pos', Nat.reduceAdd, Nat.reduceMul, Nat.reducePow, sk_25 hv, sr_25_0 hv, sr_25_1 hv, sr_25_2 hv, sr_25_3 hv, sr_25_4 hv, sr_25_5 hv, sk_32 hv, sn_32 hv, s_cell ha hb, z, e, c']
theorem s_shV {a b : Nat} (hv : IvS B σ) (hM : MsO B A σ) (ha : a < 12) (hb : b < 12) : wc (d + 3) 95 [.ref (B + 25), .int (nI a), .int (nI b)] σ Q ↔ Q (some (.int (sV A a b))) σ := by
  have e := (hM a b ha hb).2
  have l := fl_le (M := mM A) (k := 12) (i := a) (j := b)
  have l2 := mM_le (A := A) a b
  have z : 12 * a + b < 144 := by omega
  by_cases c : fl (mM A) 12 a b < 16777216
  · have c' : ¬ 16777216 ≤ fl (mM A) 12 a b := by omega
    rw [sV, if_pos c]
    simp (disch := omega) only [c_95, e_95_0, e_95_1, e_95_4, e_95_5, e_95_6, e_95_9, e_95_10, e_95_11, e_95_12, e_95_14, e_95_17, e_95_18, e_95_20, e_95_21, e_95_24, e_95_25, n10, n01, Nat.lt_irrefl, Nat.not_lt_zero, ne_eq, Nat.add_zero, Nat.one_ne_zero, Nat.zero_ne_one, Nat.reduceEqDiff, bI_T, bI_F, bI_0, bI_1, bI_01, not_and_self, true_and, and_true, not_true_eq_false, not_false_eq_true, false_imp_iff, true_imp_iff, imp_self, gPv_n, gPv_i, gPv_r, gPv_0, Option.toList_some, Option.toList_none, List.singleton_append, List.cons_append, List.nil_append, List.length_nil, List.length_cons, Nat.zero_le, Nat.reduceAdd, Nat.reduceLeDiff, or_true, true_or, false_or, or_false, and_self, and_false, false_and, implies_true, Option.some.injEq, exists_eq_left', nL, nI_add, nI_mul, nI_clamp, nI_ltI, nI_leI, nI_eq, nI_pos, nI_pos', Nat.reduceAdd, Nat.reduceMul, Nat.reducePow, sk_25 hv, sr_25_0 hv, sr_25_1 hv, sr_25_2 hv, sr_25_3 hv, sr_25_4 hv, sr_25_5 hv, sk_32 hv, sn_32 hv, s_cell ha hb, z, e, c', nI_div, nI_rem]
  · have c' : 16777216 ≤ fl (mM A) 12 a b := by omega
    rw [sV, if_neg c]
    simp (disch := omega) only [c_95, e_95_0, e_95_1, e_95_4, e_95_5, e_95_6, e_95_9, e_95_10, e_95_11, e_95_12, e_95_14, e_95_17, e_95_18, e_95_20, e_95_21, e_95_24, e_95_25, n10, n01, Nat.lt_irrefl, Nat.not_lt_zero, ne_eq, Nat.add_zero, Nat.one_ne_zero, Nat.zero_ne_one, Nat.reduceEqDiff, bI_T, bI_F, bI_0, bI_1, bI_01, not_and_self, true_and, and_true, not_true_eq_false, not_false_eq_true, false_imp_iff, true_imp_iff, imp_self, gPv_n, gPv_i, gPv_r, gPv_0, Option.toList_some, Option.toList_none, List.singleton_append, List.cons_append, List.nil_append, List.length_nil, List.length_cons, Nat.zero_le, Nat.reduceAdd, Nat.reduceLeDiff, or_true, true_or, false_or, or_false, and_self, and_false, false_and, implies_true, Option.some.injEq, exists_eq_left', nL, nI_add, nI_mul, nI_clamp, nI_ltI, nI_leI, nI_eq, nI_pos, nI_pos', Nat.reduceAdd, Nat.reduceMul, Nat.reducePow, sk_25 hv, sr_25_0 hv, sr_25_1 hv, sr_25_2 hv, sr_25_3 hv, sr_25_4 hv, sr_25_5 hv, sk_32 hv, sn_32 hv, s_cell ha hb, z, e, c']
theorem M67_q {τ : gS} (hq : QM B A v σ τ) : M67 B A τ := by
  obtain ⟨_, _, _, _, _, h1, h2⟩ := hq
  exact ⟨h1, fun a b ha hb hab => ((h2 a b ha hb hab).1).trans wM_r.1⟩
theorem M67_S {P : Nat → Prop} {τ : gS} (h : M67 B A σ) (hS : Sm P σ τ) (hP : ∀ a, P a → B + 69 ≤ a) : M67 B A τ := by
  have e : ∀ a, a < B + 69 → gI τ a = gI σ a := fun a ha => hS.2.2.2.2.2.2.1 a (fun z => absurd (hP a z) (by omega))
  refine ⟨?_, ?_⟩
  · intro a ha
    rw [e _ (by omega)]
    exact h.1 a ha
  · intro a b ha hb hab
    rw [e _ (by omega)]
    exact h.2 a b ha hb hab
set_option maxHeartbeats 1000000 in
theorem t_comes {f t y : Nat} (X : MX B σ A) (hm : Mc B A σ v) (h30 : gI σ (B + 54) 30 = -nI 1) (h32 : gI σ (B + 54) 32 = -nI 1) (hf : f < hn A) (ht : t < hn A) (hy : y ≤ 3)
    (K0 : ∀ τ', QM B A v σ τ' → cmB A (opn A (A 249)) f t 0 = false → Q (some (.int (if y = 1 then nI 0 else -nI 1))) τ')
    (K1 : ∀ τ' α β, QM B A v σ τ' → M67 B A τ' → cmB A (opn A (A 249)) f t 0 = true → CwN B A (opn A (A 249)) f (hn A) τ' → DsI B A t α β τ' → DsO A t α β → Q (some (.int (if y = 0 then gI τ' (B + 69) t else if y = 1 then gI τ' (B + 70) t else if y = 2 then gI τ' (B + 71) f else gI τ' (B + 72) f))) τ') : wc (d + 70) 243 [.ref (B + 54), .int (nI f), .int (nI t), .int (nI y)] σ Q := by
  obtain ⟨hv, hA, wh, wd, wl⟩ := id X
  have h12 := hn_le wh
  have hn2 := hn_eq wh
  have e250 : gI σ (B + 56) 250 = nI (hn A) := by rw [hA]; exact hn2
  have f12 : f < 12 := by omega
  have t12 : t < 12 := by omega
  simp (disch := first | omega | (simp only [IvS_I, IvS_J, IvS_r]; assumption)) only [c_243, e_243_0, e_243_1, e_243_2, e_243_5, e_243_8, e_243_9, e_243_10, e_243_13, e_243_16, e_243_17, e_243_18, e_243_19, e_243_22, e_243_25, e_243_26, e_243_27, e_243_28, n10, n01, Nat.lt_irrefl, Nat.not_lt_zero, ne_eq, Nat.add_zero, Nat.one_ne_zero, Nat.zero_ne_one, Nat.reduceEqDiff, bI_T, bI_F, bI_0, bI_1, bI_01, not_and_self, true_and, and_true, not_true_eq_false, not_false_eq_true, false_imp_iff, true_imp_iff, imp_self, gPv_n, gPv_i, gPv_r, gPv_0, Option.toList_some, Option.toList_none, List.singleton_append, List.cons_append, List.nil_append, List.length_nil, List.length_cons, Nat.zero_le, Nat.reduceAdd, Nat.reduceLeDiff, or_true, true_or, false_or, or_false, and_self, and_false, false_and, implies_true, Option.some.injEq, exists_eq_left', nL, nI_add, nI_mul, nI_clamp, nI_ltI, nI_leI, nI_eq, nI_pos, nI_pos', Nat.reduceAdd, Nat.reduceMul, Nat.reducePow, sk_54 hv, sr_54_2 hv, sr_54_3 hv, sr_54_4 hv, sr_54_5 hv, sr_54_7 hv, sr_54_8 hv, sr_54_9 hv, sr_54_12 hv, sr_54_13 hv, sr_54_14 hv, sr_54_22 hv, sr_54_25 hv, sr_54_26 hv, sr_54_27 hv, sr_54_34 hv, sr_54_35 hv, sr_54_36 hv, sr_54_37 hv, sr_54_38 hv, sr_54_40 hv, sr_54_43 hv, sr_54_44 hv, sr_54_45 hv, sr_54_46 hv, sr_54_47 hv, t_isHouse hv, t_lies, e250, le_sub1, hf, ht, hy]
  refine t_look (d := d) X hm h30 h32 ?_
  intro τ hq
  have X1 := QM_X X hq
  have hv1 := X1.1
  have tc : ∀ (d : Nat) (Q : Option Value → gS → Prop), wc (d + 5) 240 [.ref (B + 54), .int (nI f), .int (nI t), .int (nI 0)] τ Q ↔ Q (some (.int (bI (cmB A (opn A (A 249)) f t 0 = true)))) τ := fun d Q => t_come X1 (NX_0 X hq) (fun h => opn_lt wh) f12 t12
  have hM := M67_q hq
  cases hc : cmB A (opn A (A 249)) f t 0
  · have k0 := K0 τ hq hc
    by_cases y1 : y = 1
    · rw [if_pos y1] at k0
      simp (disch := omega) only [e_243_31, e_243_32, e_243_33, e_243_34, e_243_35, e_243_38, e_243_41, e_243_42, e_243_43, e_243_46, e_243_47, e_243_50, e_243_51, n10, n01, Nat.lt_irrefl, Nat.not_lt_zero, ne_eq, Nat.add_zero, Nat.one_ne_zero, Nat.zero_ne_one, Nat.reduceEqDiff, bI_T, bI_F, bI_0, bI_1, bI_01, not_and_self, true_and, and_true, not_true_eq_false, not_false_eq_true, false_imp_iff, true_imp_iff, imp_self, gPv_n, gPv_i, gPv_r, gPv_0, Option.toList_some, Option.toList_none, List.singleton_append, List.cons_append, List.nil_append, List.length_nil, List.length_cons, Nat.zero_le, Nat.reduceAdd, Nat.reduceLeDiff, or_true, true_or, false_or, or_false, and_self, and_false, false_and, implies_true, Option.some.injEq, exists_eq_left', nL, nI_add, nI_mul, nI_clamp, nI_ltI, nI_leI, nI_eq, nI_pos, nI_pos', Nat.reduceAdd, Nat.reduceMul, Nat.reducePow, sk_54 hv1, sr_54_2 hv1, sr_54_3 hv1, sr_54_4 hv1, sr_54_5 hv1, sr_54_7 hv1, sr_54_8 hv1, sr_54_9 hv1, sr_54_12 hv1, sr_54_13 hv1, sr_54_14 hv1, sr_54_22 hv1, sr_54_25 hv1, sr_54_26 hv1, sr_54_27 hv1, sr_54_34 hv1, sr_54_35 hv1, sr_54_36 hv1, sr_54_37 hv1, sr_54_38 hv1, sr_54_40 hv1, sr_54_43 hv1, sr_54_44 hv1, sr_54_45 hv1, sr_54_46 hv1, sr_54_47 hv1, tc, hc, Bool.false_eq_true, y1]
      exact k0
    · rw [if_neg y1] at k0
      simp (disch := omega) only [e_243_31, e_243_32, e_243_33, e_243_34, e_243_35, e_243_38, e_243_41, e_243_42, e_243_43, e_243_46, e_243_47, e_243_50, e_243_51, n10, n01, Nat.lt_irrefl, Nat.not_lt_zero, ne_eq, Nat.add_zero, Nat.one_ne_zero, Nat.zero_ne_one, Nat.reduceEqDiff, bI_T, bI_F, bI_0, bI_1, bI_01, not_and_self, true_and, and_true, not_true_eq_false, not_false_eq_true, false_imp_iff, true_imp_iff, imp_self, gPv_n, gPv_i, gPv_r, gPv_0, Option.toList_some, Option.toList_none, List.singleton_append, List.cons_append, List.nil_append, List.length_nil, List.length_cons, Nat.zero_le, Nat.reduceAdd, Nat.reduceLeDiff, or_true, true_or, false_or, or_false, and_self, and_false, false_and, implies_true, Option.some.injEq, exists_eq_left', nL, nI_add, nI_mul, nI_clamp, nI_ltI, nI_leI, nI_eq, nI_pos, nI_pos', Nat.reduceAdd, Nat.reduceMul, Nat.reducePow, sk_54 hv1, sr_54_2 hv1, sr_54_3 hv1, sr_54_4 hv1, sr_54_5 hv1, sr_54_7 hv1, sr_54_8 hv1, sr_54_9 hv1, sr_54_12 hv1, sr_54_13 hv1, sr_54_14 hv1, sr_54_22 hv1, sr_54_25 hv1, sr_54_26 hv1, sr_54_27 hv1, sr_54_34 hv1, sr_54_35 hv1, sr_54_36 hv1, sr_54_37 hv1, sr_54_38 hv1, sr_54_40 hv1, sr_54_43 hv1, sr_54_44 hv1, sr_54_45 hv1, sr_54_46 hv1, sr_54_47 hv1, tc, hc, Bool.false_eq_true, y1]
      exact k0
  · simp (disch := omega) only [e_243_31, e_243_32, e_243_33, e_243_34, e_243_35, e_243_38, e_243_52, e_243_53, e_243_54, n10, n01, Nat.lt_irrefl, Nat.not_lt_zero, ne_eq, Nat.add_zero, Nat.one_ne_zero, Nat.zero_ne_one, Nat.reduceEqDiff, bI_T, bI_F, bI_0, bI_1, bI_01, not_and_self, true_and, and_true, not_true_eq_false, not_false_eq_true, false_imp_iff, true_imp_iff, imp_self, gPv_n, gPv_i, gPv_r, gPv_0, Option.toList_some, Option.toList_none, List.singleton_append, List.cons_append, List.nil_append, List.length_nil, List.length_cons, Nat.zero_le, Nat.reduceAdd, Nat.reduceLeDiff, or_true, true_or, false_or, or_false, and_self, and_false, false_and, implies_true, Option.some.injEq, exists_eq_left', nL, nI_add, nI_mul, nI_clamp, nI_ltI, nI_leI, nI_eq, nI_pos, nI_pos', Nat.reduceAdd, Nat.reduceMul, Nat.reducePow, sk_54 hv1, sr_54_2 hv1, sr_54_3 hv1, sr_54_4 hv1, sr_54_5 hv1, sr_54_7 hv1, sr_54_8 hv1, sr_54_9 hv1, sr_54_12 hv1, sr_54_13 hv1, sr_54_14 hv1, sr_54_22 hv1, sr_54_25 hv1, sr_54_26 hv1, sr_54_27 hv1, sr_54_34 hv1, sr_54_35 hv1, sr_54_36 hv1, sr_54_37 hv1, sr_54_38 hv1, sr_54_40 hv1, sr_54_43 hv1, sr_54_44 hv1, sr_54_45 hv1, sr_54_46 hv1, sr_54_47 hv1, tc, hc]
    refine t_counts (d := d + 67) X1 (EdG_o wh) hM.1 hf ?_
    intro τ2 hS2 hN
    have X2 := MX_S X1 hS2 (by omega)
    have hv2 := X2.1
    simp (disch := omega) only [e_243_57, e_243_58, e_243_59, n10, n01, Nat.lt_irrefl, Nat.not_lt_zero, ne_eq, Nat.add_zero, Nat.one_ne_zero, Nat.zero_ne_one, Nat.reduceEqDiff, bI_T, bI_F, bI_0, bI_1, bI_01, not_and_self, true_and, and_true, not_true_eq_false, not_false_eq_true, false_imp_iff, true_imp_iff, imp_self, gPv_n, gPv_i, gPv_r, gPv_0, Option.toList_some, Option.toList_none, List.singleton_append, List.cons_append, List.nil_append, List.length_nil, List.length_cons, Nat.zero_le, Nat.reduceAdd, Nat.reduceLeDiff, or_true, true_or, false_or, or_false, and_self, and_false, false_and, implies_true, Option.some.injEq, exists_eq_left', nL, nI_add, nI_mul, nI_clamp, nI_ltI, nI_leI, nI_eq, nI_pos, nI_pos', Nat.reduceAdd, Nat.reduceMul, Nat.reducePow, sk_54 hv2, sr_54_2 hv2, sr_54_3 hv2, sr_54_4 hv2, sr_54_5 hv2, sr_54_7 hv2, sr_54_8 hv2, sr_54_9 hv2, sr_54_12 hv2, sr_54_13 hv2, sr_54_14 hv2, sr_54_22 hv2, sr_54_25 hv2, sr_54_26 hv2, sr_54_27 hv2, sr_54_34 hv2, sr_54_35 hv2, sr_54_36 hv2, sr_54_37 hv2, sr_54_38 hv2, sr_54_40 hv2, sr_54_43 hv2, sr_54_44 hv2, sr_54_45 hv2, sr_54_46 hv2, sr_54_47 hv2]
    have hM2 := M67_S hM hS2 (fun a ha => by omega)
    refine t_dist (d := d + 67) X2 hM2 ht ?_
    intro τ3 α β hS3 hD hO
    have X3 := MX_S X2 hS3 (by omega)
    have hv3 := X3.1
    have hM3 := M67_S hM2 hS3 (fun a ha => by omega)
    have hq3 : QM B A v σ τ3 := QM_S (QM_S hq hS2 (fun a ha => by simp only [c9P] at ha; omega)) hS3 (fun a ha => by simp only [dsP] at ha; omega)
    have hN3 : CwN B A (opn A (A 249)) f (hn A) τ3 := by
      intro j hj
      rw [hS3.2.2.2.2.2.2.1 (B + 69) (by omega), hS3.2.2.2.2.2.2.1 (B + 70) (by omega)]
      exact hN j hj
    have k1 := K1 τ3 α β hq3 hM3 hc hN3 hD hO
    have hy' : y = 0 ∨ y = 1 ∨ y = 2 ∨ y = 3 := by omega
    rcases hy' with rfl | rfl | rfl | rfl
    · rw [if_pos rfl] at k1
      simp (disch := omega) only [e_243_62, e_243_63, e_243_66, e_243_67, e_243_70, e_243_71, e_243_72, e_243_75, e_243_76, e_243_77, e_243_80, e_243_81, e_243_84, e_243_85, e_243_86, e_243_89, e_243_90, e_243_91, e_243_94, e_243_95, e_243_98, e_243_99, e_243_100, e_243_103, e_243_104, e_243_107, e_243_108, e_243_109, n10, n01, Nat.lt_irrefl, Nat.not_lt_zero, ne_eq, Nat.add_zero, Nat.one_ne_zero, Nat.zero_ne_one, Nat.reduceEqDiff, bI_T, bI_F, bI_0, bI_1, bI_01, not_and_self, true_and, and_true, not_true_eq_false, not_false_eq_true, false_imp_iff, true_imp_iff, imp_self, gPv_n, gPv_i, gPv_r, gPv_0, Option.toList_some, Option.toList_none, List.singleton_append, List.cons_append, List.nil_append, List.length_nil, List.length_cons, Nat.zero_le, Nat.reduceAdd, Nat.reduceLeDiff, or_true, true_or, false_or, or_false, and_self, and_false, false_and, implies_true, Option.some.injEq, exists_eq_left', nL, nI_add, nI_mul, nI_clamp, nI_ltI, nI_leI, nI_eq, nI_pos, nI_pos', Nat.reduceAdd, Nat.reduceMul, Nat.reducePow, sk_54 hv3, sr_54_2 hv3, sr_54_3 hv3, sr_54_4 hv3, sr_54_5 hv3, sr_54_7 hv3, sr_54_8 hv3, sr_54_9 hv3, sr_54_12 hv3, sr_54_13 hv3, sr_54_14 hv3, sr_54_22 hv3, sr_54_25 hv3, sr_54_26 hv3, sr_54_27 hv3, sr_54_34 hv3, sr_54_35 hv3, sr_54_36 hv3, sr_54_37 hv3, sr_54_38 hv3, sr_54_40 hv3, sr_54_43 hv3, sr_54_44 hv3, sr_54_45 hv3, sr_54_46 hv3, sr_54_47 hv3, sk_69 hv3, sn_69 hv3, t12]
      exact k1
    · rw [if_neg (by decide), if_pos rfl] at k1
      simp (disch := omega) only [e_243_62, e_243_63, e_243_66, e_243_67, e_243_70, e_243_71, e_243_72, e_243_75, e_243_76, e_243_77, e_243_80, e_243_81, e_243_84, e_243_85, e_243_86, e_243_89, e_243_90, e_243_91, e_243_94, e_243_95, e_243_98, e_243_99, e_243_100, e_243_103, e_243_104, e_243_107, e_243_108, e_243_109, n10, n01, Nat.lt_irrefl, Nat.not_lt_zero, ne_eq, Nat.add_zero, Nat.one_ne_zero, Nat.zero_ne_one, Nat.reduceEqDiff, bI_T, bI_F, bI_0, bI_1, bI_01, not_and_self, true_and, and_true, not_true_eq_false, not_false_eq_true, false_imp_iff, true_imp_iff, imp_self, gPv_n, gPv_i, gPv_r, gPv_0, Option.toList_some, Option.toList_none, List.singleton_append, List.cons_append, List.nil_append, List.length_nil, List.length_cons, Nat.zero_le, Nat.reduceAdd, Nat.reduceLeDiff, or_true, true_or, false_or, or_false, and_self, and_false, false_and, implies_true, Option.some.injEq, exists_eq_left', nL, nI_add, nI_mul, nI_clamp, nI_ltI, nI_leI, nI_eq, nI_pos, nI_pos', Nat.reduceAdd, Nat.reduceMul, Nat.reducePow, sk_54 hv3, sr_54_2 hv3, sr_54_3 hv3, sr_54_4 hv3, sr_54_5 hv3, sr_54_7 hv3, sr_54_8 hv3, sr_54_9 hv3, sr_54_12 hv3, sr_54_13 hv3, sr_54_14 hv3, sr_54_22 hv3, sr_54_25 hv3, sr_54_26 hv3, sr_54_27 hv3, sr_54_34 hv3, sr_54_35 hv3, sr_54_36 hv3, sr_54_37 hv3, sr_54_38 hv3, sr_54_40 hv3, sr_54_43 hv3, sr_54_44 hv3, sr_54_45 hv3, sr_54_46 hv3, sr_54_47 hv3, sk_70 hv3, sn_70 hv3, t12]
      exact k1
    · rw [if_neg (by decide), if_neg (by decide), if_pos rfl] at k1
      simp (disch := omega) only [e_243_62, e_243_63, e_243_66, e_243_67, e_243_70, e_243_71, e_243_72, e_243_75, e_243_76, e_243_77, e_243_80, e_243_81, e_243_84, e_243_85, e_243_86, e_243_89, e_243_90, e_243_91, e_243_94, e_243_95, e_243_98, e_243_99, e_243_100, e_243_103, e_243_104, e_243_107, e_243_108, e_243_109, n10, n01, Nat.lt_irrefl, Nat.not_lt_zero, ne_eq, Nat.add_zero, Nat.one_ne_zero, Nat.zero_ne_one, Nat.reduceEqDiff, bI_T, bI_F, bI_0, bI_1, bI_01, not_and_self, true_and, and_true, not_true_eq_false, not_false_eq_true, false_imp_iff, true_imp_iff, imp_self, gPv_n, gPv_i, gPv_r, gPv_0, Option.toList_some, Option.toList_none, List.singleton_append, List.cons_append, List.nil_append, List.length_nil, List.length_cons, Nat.zero_le, Nat.reduceAdd, Nat.reduceLeDiff, or_true, true_or, false_or, or_false, and_self, and_false, false_and, implies_true, Option.some.injEq, exists_eq_left', nL, nI_add, nI_mul, nI_clamp, nI_ltI, nI_leI, nI_eq, nI_pos, nI_pos', Nat.reduceAdd, Nat.reduceMul, Nat.reducePow, sk_54 hv3, sr_54_2 hv3, sr_54_3 hv3, sr_54_4 hv3, sr_54_5 hv3, sr_54_7 hv3, sr_54_8 hv3, sr_54_9 hv3, sr_54_12 hv3, sr_54_13 hv3, sr_54_14 hv3, sr_54_22 hv3, sr_54_25 hv3, sr_54_26 hv3, sr_54_27 hv3, sr_54_34 hv3, sr_54_35 hv3, sr_54_36 hv3, sr_54_37 hv3, sr_54_38 hv3, sr_54_40 hv3, sr_54_43 hv3, sr_54_44 hv3, sr_54_45 hv3, sr_54_46 hv3, sr_54_47 hv3, sk_71 hv3, sn_71 hv3, f12]
      exact k1
    · rw [if_neg (by decide), if_neg (by decide), if_neg (by decide)] at k1
      simp (disch := omega) only [e_243_62, e_243_63, e_243_66, e_243_67, e_243_70, e_243_71, e_243_72, e_243_75, e_243_76, e_243_77, e_243_80, e_243_81, e_243_84, e_243_85, e_243_86, e_243_89, e_243_90, e_243_91, e_243_94, e_243_95, e_243_98, e_243_99, e_243_100, e_243_103, e_243_104, e_243_107, e_243_108, e_243_109, n10, n01, Nat.lt_irrefl, Nat.not_lt_zero, ne_eq, Nat.add_zero, Nat.one_ne_zero, Nat.zero_ne_one, Nat.reduceEqDiff, bI_T, bI_F, bI_0, bI_1, bI_01, not_and_self, true_and, and_true, not_true_eq_false, not_false_eq_true, false_imp_iff, true_imp_iff, imp_self, gPv_n, gPv_i, gPv_r, gPv_0, Option.toList_some, Option.toList_none, List.singleton_append, List.cons_append, List.nil_append, List.length_nil, List.length_cons, Nat.zero_le, Nat.reduceAdd, Nat.reduceLeDiff, or_true, true_or, false_or, or_false, and_self, and_false, false_and, implies_true, Option.some.injEq, exists_eq_left', nL, nI_add, nI_mul, nI_clamp, nI_ltI, nI_leI, nI_eq, nI_pos, nI_pos', Nat.reduceAdd, Nat.reduceMul, Nat.reducePow, sk_54 hv3, sr_54_2 hv3, sr_54_3 hv3, sr_54_4 hv3, sr_54_5 hv3, sr_54_7 hv3, sr_54_8 hv3, sr_54_9 hv3, sr_54_12 hv3, sr_54_13 hv3, sr_54_14 hv3, sr_54_22 hv3, sr_54_25 hv3, sr_54_26 hv3, sr_54_27 hv3, sr_54_34 hv3, sr_54_35 hv3, sr_54_36 hv3, sr_54_37 hv3, sr_54_38 hv3, sr_54_40 hv3, sr_54_43 hv3, sr_54_44 hv3, sr_54_45 hv3, sr_54_46 hv3, sr_54_47 hv3, sk_72 hv3, sn_72 hv3, f12]
      exact k1
end
/-! class and model mean the same -/
section
variable {A : Nat → Int32}
theorem sM_St {f : Nat} (hf : f < hn A) : sM A f = St A f := by
  rw [sM, tb_mk]
  simp [hf]
theorem rc_dy {E : Nat → Nat} {n f t : Nat} (hE : ∀ h, E h < 4096) (hf : f < 12) : (rc (fun h => ad (E h) 0) n (ad (2 ^ f) 0)).testBit t = true ↔ ∃ d, (sq E n (2 ^ f) d).testBit t = true := by
  have a0 : ∀ x, ad x 0 = x := fun x => by
    refine Nat.eq_of_testBit_eq ?_
    intro j
    rw [tb_ad]
    simp
  have hF : ∀ h, ad (E h) 0 < 4096 := fun h => by rw [a0]; exact hE h
  have hS : ad (2 ^ f) 0 < 4096 := by rw [a0]; exact Nat.pow_lt_pow_right (by decide) hf
  constructor
  · intro h
    refine rc_min (C := fun j => ∃ d, (sq E n (2 ^ f) d).testBit j = true) ?_ ?_ h
    · intro h hn ⟨d, hd⟩ j hj
      simp only [a0] at hj
      exact ⟨d + 1, tb_sp1.mpr (Or.inr ⟨h, hn, hd, hj⟩)⟩
    · intro j hj
      rw [a0] at hj
      exact ⟨0, hj⟩
  · rintro ⟨d, hd⟩
    have : ∀ d j, (sq E n (2 ^ f) d).testBit j = true → (rc (fun h => ad (E h) 0) n (ad (2 ^ f) 0)).testBit j = true := by
      intro d
      induction d with
      | zero =>
        intro j hj
        refine rc_sub ?_
        rw [a0]
        exact hj
      | succ d ih =>
        intro j hj
        rcases tb_sp1.mp hj with h | ⟨h, h1, h2, h3⟩
        · exact ih j h
        · refine rc_cl hF hS h1 (ih h h2) ?_
          simp only [a0]
          exact h3
    exact this d t hd
theorem Wk_st {t : Nat} : ∀ s h a, Wk (eM A) (wM A) t s h a → sM A h = true → sM A t = true := by
  intro s
  induction s with
  | zero => intro h a hw hs; rw [← hw.1]; exact hs
  | succ s ih =>
    intro h a hw hs
    obtain ⟨k, b, he, hb, _⟩ := hw
    exact ih k b hb (eM_h he).2.2.2.2
theorem nw_st {t h : Nat} (hs : sM A h = false) (ht : h ≠ t) : ∀ a s, ¬ Wk (eM A) (wM A) t s h a := by
  intro a s hw
  cases s with
  | zero => exact ht hw.1
  | succ s =>
    obtain ⟨k, b, he, hb, _⟩ := hw
    rw [(eM_h he).2.2.2.1] at hs
    exact absurd hs (by simp)
theorem fl_ns {t h : Nat} (k : sM A h = false ∨ sM A t = false) : 16777216 ≤ fl (mM A) 12 h t := by
  rcases k with k | k
  · by_cases c : h = t
    · rw [c] at k
      exact fl_no k 12 h
    · exact fl_nw (nw_st k c)
  · exact fl_no k 12 h
theorem cm_nw {f t : Nat} (wh : Wh A) (hf : f < hn A) (hc : cmB A (opn A (A 249)) f t 0 = false) : 16777216 ≤ fl (mM A) 12 f t := by
  rw [cmB, Bool.and_eq_false_iff] at hc
  rcases hc with hc | hc
  · exact fl_ns (Or.inl ((sM_St hf).trans hc))
  · refine fl_nw (fun a s hw => ?_)
    have := (rc_Wk (t := t) wh hf).mpr ⟨s, a, hw⟩
    rw [this] at hc
    exact absurd hc (by simp)
theorem cm_dy {f t : Nat} (wh : Wh A) (hf : f < hn A) : (rc (fun h => ad (opn A (A 249) h) 0) (hn A) (ad (2 ^ f) 0)).testBit t = true ↔ ∃ d, dyO (opn A (A 249)) (hn A) (2 ^ f) t 12 = some d := by
  have h12 := hn_le wh
  rw [rc_dy (fun h => opn_lt wh) (by omega)]
  constructor
  · rintro ⟨d, hd⟩
    obtain ⟨e, e1, e2⟩ := sq_pig (fun h => EdG_n (EdG_o wh) h) (Nat.pow_lt_pow_right (by decide) hf) hd
    cases q : dyO (opn A (A 249)) (hn A) (2 ^ f) t 12 with
    | some d => exact ⟨d, rfl⟩
    | none =>
      have := fo_none _ _ q e (by omega) (by omega)
      rw [e2] at this
      exact absurd this (by simp)
  · rintro ⟨d, hd⟩
    exact ⟨d, (fo_in _ _ _ hd).1⟩
def cV (A : Nat → Int32) (f t y : Nat) : Int32 := if y = 0 then (if sM A f = true then foI (dyO (opn A (A 249)) (hn A) (2 ^ f) t 12) else -nI 1) else if y = 1 then (if sM A f = true then ctO (opn A (A 249)) (hn A) f t else nI 0) else if y = 2 then sT A f t else sV A f t
theorem cV_F {f t y : Nat} (wh : Wh A) (hf : f < hn A) (hc : cmB A (opn A (A 249)) f t 0 = false) : cV A f t y = if y = 1 then nI 0 else -nI 1 := by
  have nw := cm_nw wh hf hc
  have dn : sM A f = true → dyO (opn A (A 249)) (hn A) (2 ^ f) t 12 = none := by
    intro hs
    rw [cmB, ← sM_St hf, hs, Bool.true_and] at hc
    cases q : dyO (opn A (A 249)) (hn A) (2 ^ f) t 12 with
    | none => rfl
    | some d =>
      rw [(cm_dy wh hf).mpr ⟨d, q⟩] at hc
      exact absurd hc (by simp)
  by_cases y0 : y = 0
  · rw [cV, if_pos y0, if_neg (show ¬ y = 1 by omega)]
    by_cases hs : sM A f = true
    · rw [if_pos hs, dn hs]; rfl
    · rw [if_neg hs]
  · rw [cV, if_neg y0]
    by_cases y1 : y = 1
    · rw [if_pos y1, if_pos y1]
      by_cases hs : sM A f = true
      · rw [if_pos hs, ctO, dn hs]
      · rw [if_neg hs]
    · rw [if_neg y1, if_neg y1, sT, sV, if_neg (show ¬ fl (mM A) 12 f t < 16777216 by omega), if_neg (show ¬ fl (mM A) 12 f t < 16777216 by omega)]
      split <;> rfl
theorem cm_lw {f t : Nat} {α β : Nat → Nat} (wh : Wh A) (hf : f < hn A) (ht : t < hn A) (hc : cmB A (opn A (A 249)) f t 0 = true) (hO : DsO A t α β) : sM A f = true ∧ sM A t = true ∧ α f < 1000000 ∧ Lw (eM A) (wM A) t f (α f) (β f) ∧ fl (mM A) 12 f t = 64 * α f + β f := by
  rw [cmB, Bool.and_eq_true] at hc
  have hs : sM A f = true := (sM_St hf).trans hc.1
  obtain ⟨s, a, hw⟩ := (rc_Wk wh hf).mp hc.2
  have hst := Wk_st s f a hw hs
  rcases DsO_lw wh hO hf with ⟨_, q⟩ | ⟨q1, q2⟩
  · exact absurd hw (q a s)
  · exact ⟨hs, hst, q1, q2, fl_yes wh hst hf q2⟩
theorem cV_T {B f t y : Nat} {α β : Nat → Nat} {τ : gS} (wh : Wh A) (hf : f < hn A) (ht : t < hn A) (hc : cmB A (opn A (A 249)) f t 0 = true) (hN : CwN B A (opn A (A 249)) f (hn A) τ) (hD : DsI B A t α β τ) (hO : DsO A t α β) : (if y = 0 then gI τ (B + 69) t else if y = 1 then gI τ (B + 70) t else if y = 2 then gI τ (B + 71) f else gI τ (B + 72) f) = cV A f t y := by
  have h12 := hn_le wh
  obtain ⟨hs, hst, q1, q2, q3⟩ := cm_lw wh hf ht hc hO
  obtain ⟨b1, b2⟩ := Lw_b wh hf q2
  have hc2 := hc
  rw [cmB, Bool.and_eq_true] at hc2
  obtain ⟨dd, hdd⟩ := (cm_dy wh hf).mp hc2.2
  have dd1 : dyO (opn A (A 249)) (hn A) (2 ^ f) t (hn A + 1) = some dd := by
    rw [dy_big (fun h => EdG_n (EdG_o wh) h) (Nat.pow_lt_pow_right (by decide) hf) (by omega), ← dy_big (fun h => EdG_n (EdG_o wh) h) (Nat.pow_lt_pow_right (by decide) hf) (show hn A ≤ 12 by omega)]
    exact hdd
  have hle := dy_le dd1
  by_cases y0 : y = 0
  · rw [cV, if_pos y0, if_pos y0, if_pos hs, (hN t ht).1, dd1, hdd]
  · rw [cV, if_neg y0, if_neg y0]
    by_cases y1 : y = 1
    · rw [if_pos y1, if_pos y1, if_pos hs, (hN t ht).2, ctO, hdd]
      obtain ⟨k, hk⟩ : ∃ k, hn A = dd + k := ⟨hn A - dd, by omega⟩
      rw [hk]
      rw [← hk]
      have e := ct_st (E := opn A (A 249)) (n := hn A) (f := f) (d := dd) (j := t) (fo_in _ _ _ hdd).1 k
      rw [← hk] at e
      exact e
    · rw [if_neg y1, if_neg y1]
      by_cases y2 : y = 2
      · have e : (64 * α f + β f) / 64 = α f := by omega
        rw [if_pos y2, if_pos y2, (hD.1 f hf).1, sT, q3, if_pos (show 64 * α f + β f < 16777216 by omega), e]
      · have e : (64 * α f + β f) % 64 = β f := by omega
        rw [if_neg y2, if_neg y2, (hD.1 f hf).2, sV, q3, if_pos (show 64 * α f + β f < 16777216 by omega), e]
end
section
variable {CV : Nat → (Nat → Int32) → (Nat → Nat → Int32) → Prop} {G : gG}
set_option maxHeartbeats 2000000 in
theorem ob_comes (hcv : CVl CV) (h2 : ∀ A W, CV 2 A W ↔ ∀ a b, a < 12 → b < 12 → W 6 (12 * a + b) = nI (mM A a b) ∧ W 7 (12 * a + b) = nI (fl (mM A) 12 a b)) : gOb (Inv LSx CV MVx G) (gb G) (gB G) (gB G + 54) 132 243 3 := by
  intro σ k as hl hk hI
  obtain ⟨p0, p1, p2, rfl⟩ := len3 hl
  have hv := Inv_Sh hI
  have hb := Inv_b hI
  obtain ⟨own, cc, v, hc, ha, hX, hm⟩ := Inv_ctx hI hk
  obtain ⟨z30, z32⟩ := Inv_30 hI
  have w1 := hX.2.2.1
  have h12 := hn_le w1
  have hn2 := hn_eq w1
  have e5 := hc.2.1.2.1.1.1
  by_cases h0 : nI 0 ≤ p0 ∧ p0 < nI (hn (gI σ (gB G + 56)))
  · by_cases h1 : nI 0 ≤ p1 ∧ p1 < nI (hn (gI σ (gB G + 56)))
    · obtain ⟨a, ha1, rfl⟩ := in_lt (by omega) h0
      obtain ⟨b, hb1, rfl⟩ := in_lt (by omega) h1
      have a12 : a < 12 := by omega
      have b12 : b < 12 := by omega
      have mod : ∀ (τ : gS) (y : Nat), y ≤ 3 → Sm (fun a => gB G + 25 ≤ a ∧ a < gB G + 50) σ τ → Ca CV (gB G) (gI σ (gB G + 56)) τ cc →
          (gSc (gb G) σ τ ∧ gK τ (gB G + 54) = 13) ∧ ∃ v : Int32, Value.int (cV (gI σ (gB G + 56)) a b y) = Value.int v ∧ wc 1000 243 [.ref (gB G + 54), .int (nI a), .int (nI b), .int (nI y)] τ (fun r2 σ2 => r2 = some (.int v) ∧ Inv LSx CV MVx G σ2 (k + 1)) := by
        intro τ y hy hS haT
        have XT := MX_S hX hS (by omega)
        refine ⟨⟨gSc_S hS (by omega), sk_54 XT.1⟩, _, rfl, ?_⟩
        refine t_comes (d := 930) XT (Mc_S hm hS (fun a ha => by omega)) (by rw [hS.2.2.2.2.2.2.1 _ (by omega)]; exact z30) (by rw [hS.2.2.2.2.2.2.1 _ (by omega)]; exact z32) ha1 hb1 hy ?_ ?_
        · intro τ' hq hcm
          exact ⟨by rw [cV_F w1 ha1 hcm], Inv_QM hk hI hm hS haT hq⟩
        · intro τ' α β hq _ hcm hN hD hO
          exact ⟨by rw [cV_T w1 ha1 hb1 hcm hN hD hO], Inv_QM hk hI hm hS haT hq⟩
      have hE := EdG_o (dy := gI σ (gB G + 56) 249) w1
      by_cases h3 : nI 0 ≤ p2 ∧ p2 ≤ nI 3
      · obtain ⟨y, hy, rfl⟩ := in_nI (by omega) h3
        have hy' : y = 0 ∨ y = 1 ∨ y = 2 ∨ y = 3 := by omega
        rcases hy' with rfl | rfl | rfl | rfl
        · simp (disch := first | omega | (simp only [IvS_I, IvS_J, IvS_r]; assumption)) only [List.map_cons, List.map_nil, Value.int.injEq, gSc_r, gSc_I, n10, n01, Nat.lt_irrefl, Nat.not_lt_zero, ne_eq, Nat.add_zero, Nat.one_ne_zero, Nat.zero_ne_one, Nat.reduceEqDiff, bI_T, bI_F, bI_0, bI_1, bI_01, not_and_self, true_and, and_true, not_true_eq_false, not_false_eq_true, false_imp_iff, true_imp_iff, imp_self, gPv_n, gPv_i, gPv_r, gPv_0, Option.toList_some, Option.toList_none, List.singleton_append, List.cons_append, List.nil_append, List.length_nil, List.length_cons, Nat.zero_le, Nat.reduceAdd, Nat.reduceLeDiff, or_true, true_or, false_or, or_false, and_self, and_false, false_and, implies_true, Option.some.injEq, exists_eq_left', nL, nI_add, nI_mul, nI_clamp, nI_ltI, nI_leI, nI_eq, nI_pos, nI_pos', Nat.reduceAdd, Nat.reduceMul, Nat.reducePow, ti_0, ti_1, ti_2, ti_3, ti_4, ti_5, ti_6, ti_7, ti_8, ti_9, ti_10, ti_11, ti_12, ti_13, ti_14, ti_15, Int.reduceLT, Int.reduceSub, Int.reduceToNat, Int.sub_zero, Int.toNat_zero, Int.toNat_one, List.getElem?_cons_succ, List.getElem?_cons_zero, Int.lt_irrefl, c_132, e_132_0, e_132_1, e_132_4, e_132_5, e_132_8, e_132_11, e_132_12, e_132_15, e_132_16, e_132_19, e_132_22, e_132_23, e_132_24, e_132_25, e_132_56, e_132_57, e_132_60, e_132_61, e_132_64, sk_0 hv, sr_0_0 hv, sr_0_1 hv, sr_0_2 hv, sr_0_4 hv, sr_0_7 hv, sr_0_9 hv, sr_0_10 hv, sr_0_11 hv, sr_0_12 hv, sr_0_13 hv, sr_0_14 hv, sk_1 hv, sr_1_0 hv, sr_1_1 hv, sr_1_2 hv, sr_1_3 hv, sr_1_4 hv, sr_1_7 hv, sr_1_9 hv, sr_1_14 hv, sr_1_15 hv, sr_1_16 hv, sk_25 hv, sr_25_0 hv, sr_25_1 hv, sr_25_2 hv, sr_25_3 hv, sr_25_4 hv, sr_25_5 hv, sk_33 hv, sr_33_0 hv, sr_33_1 hv, sr_33_2 hv, sr_33_3 hv, s_has (sk_1 hv), e5, hn2, ha1, hb1]
          refine s_openRows (d := 992) hcv hc ha ?_
          intro τ hS hcT haT hr
          have hvT := hcT.1
          simp (disch := omega) only [e_132_67, e_132_68, e_132_69, n10, n01, Nat.lt_irrefl, Nat.not_lt_zero, ne_eq, Nat.add_zero, Nat.one_ne_zero, Nat.zero_ne_one, Nat.reduceEqDiff, bI_T, bI_F, bI_0, bI_1, bI_01, not_and_self, true_and, and_true, not_true_eq_false, not_false_eq_true, false_imp_iff, true_imp_iff, imp_self, gPv_n, gPv_i, gPv_r, gPv_0, Option.toList_some, Option.toList_none, List.singleton_append, List.cons_append, List.nil_append, List.length_nil, List.length_cons, Nat.zero_le, Nat.reduceAdd, Nat.reduceLeDiff, or_true, true_or, false_or, or_false, and_self, and_false, false_and, implies_true, Option.some.injEq, exists_eq_left', nL, nI_add, nI_mul, nI_clamp, nI_ltI, nI_leI, nI_eq, nI_pos, nI_pos', Nat.reduceAdd, Nat.reduceMul, Nat.reducePow, sk_33 hvT, sr_33_0 hvT, sr_33_1 hvT, sr_33_2 hvT, sr_33_3 hvT]
          refine s_countWays (d := 996) hcT hE hr ha1 hb1 ?_
          intro τ2 hS2 r4 r5
          have hv2 : IvS (gB G) τ2 := fr_IvS hS2.1 hS2.2.1 hS2.2.2.1 hvT
          have hS02 : Sm (fun a => gB G + 25 ≤ a ∧ a < gB G + 50) σ τ2 := Sm_trans (Sm_mono hS (fun a ha => by omega)) (Sm_mono hS2 (fun a ha => by simp only [cwP] at ha; omega))
          have ha2 := Ca_P hcv haT hS2 (fun a ha => by simp only [cwP] at ha; omega)
          have m := mod τ2 0 (by omega) hS02 ha2
          rw [cV, if_pos rfl, ← r4] at m
          simp (disch := omega) only [e_132_72, e_132_73, e_132_76, e_132_79, n10, n01, Nat.lt_irrefl, Nat.not_lt_zero, ne_eq, Nat.add_zero, Nat.one_ne_zero, Nat.zero_ne_one, Nat.reduceEqDiff, bI_T, bI_F, bI_0, bI_1, bI_01, not_and_self, true_and, and_true, not_true_eq_false, not_false_eq_true, false_imp_iff, true_imp_iff, imp_self, gPv_n, gPv_i, gPv_r, gPv_0, Option.toList_some, Option.toList_none, List.singleton_append, List.cons_append, List.nil_append, List.length_nil, List.length_cons, Nat.zero_le, Nat.reduceAdd, Nat.reduceLeDiff, or_true, true_or, false_or, or_false, and_self, and_false, false_and, implies_true, Option.some.injEq, exists_eq_left', nL, nI_add, nI_mul, nI_clamp, nI_ltI, nI_leI, nI_eq, nI_pos, nI_pos', Nat.reduceAdd, Nat.reduceMul, Nat.reducePow, sk_0 hv2, sr_0_0 hv2, sr_0_1 hv2, sr_0_2 hv2, sr_0_4 hv2, sr_0_7 hv2, sr_0_9 hv2, sr_0_10 hv2, sr_0_11 hv2, sr_0_12 hv2, sr_0_13 hv2, sr_0_14 hv2, sk_33 hv2, sr_33_0 hv2, sr_33_1 hv2, sr_33_2 hv2, sr_33_3 hv2]
          exact m
        · simp (disch := first | omega | (simp only [IvS_I, IvS_J, IvS_r]; assumption)) only [List.map_cons, List.map_nil, Value.int.injEq, gSc_r, gSc_I, n10, n01, Nat.lt_irrefl, Nat.not_lt_zero, ne_eq, Nat.add_zero, Nat.one_ne_zero, Nat.zero_ne_one, Nat.reduceEqDiff, bI_T, bI_F, bI_0, bI_1, bI_01, not_and_self, true_and, and_true, not_true_eq_false, not_false_eq_true, false_imp_iff, true_imp_iff, imp_self, gPv_n, gPv_i, gPv_r, gPv_0, Option.toList_some, Option.toList_none, List.singleton_append, List.cons_append, List.nil_append, List.length_nil, List.length_cons, Nat.zero_le, Nat.reduceAdd, Nat.reduceLeDiff, or_true, true_or, false_or, or_false, and_self, and_false, false_and, implies_true, Option.some.injEq, exists_eq_left', nL, nI_add, nI_mul, nI_clamp, nI_ltI, nI_leI, nI_eq, nI_pos, nI_pos', Nat.reduceAdd, Nat.reduceMul, Nat.reducePow, ti_0, ti_1, ti_2, ti_3, ti_4, ti_5, ti_6, ti_7, ti_8, ti_9, ti_10, ti_11, ti_12, ti_13, ti_14, ti_15, Int.reduceLT, Int.reduceSub, Int.reduceToNat, Int.sub_zero, Int.toNat_zero, Int.toNat_one, List.getElem?_cons_succ, List.getElem?_cons_zero, Int.lt_irrefl, c_132, e_132_0, e_132_1, e_132_4, e_132_5, e_132_8, e_132_11, e_132_12, e_132_15, e_132_16, e_132_19, e_132_22, e_132_23, e_132_24, e_132_25, e_132_80, e_132_81, e_132_84, e_132_85, e_132_88, sk_0 hv, sr_0_0 hv, sr_0_1 hv, sr_0_2 hv, sr_0_4 hv, sr_0_7 hv, sr_0_9 hv, sr_0_10 hv, sr_0_11 hv, sr_0_12 hv, sr_0_13 hv, sr_0_14 hv, sk_1 hv, sr_1_0 hv, sr_1_1 hv, sr_1_2 hv, sr_1_3 hv, sr_1_4 hv, sr_1_7 hv, sr_1_9 hv, sr_1_14 hv, sr_1_15 hv, sr_1_16 hv, sk_25 hv, sr_25_0 hv, sr_25_1 hv, sr_25_2 hv, sr_25_3 hv, sr_25_4 hv, sr_25_5 hv, sk_33 hv, sr_33_0 hv, sr_33_1 hv, sr_33_2 hv, sr_33_3 hv, s_has (sk_1 hv), e5, hn2, ha1, hb1]
          refine s_openRows (d := 992) hcv hc ha ?_
          intro τ hS hcT haT hr
          have hvT := hcT.1
          simp (disch := omega) only [e_132_91, e_132_92, e_132_93, n10, n01, Nat.lt_irrefl, Nat.not_lt_zero, ne_eq, Nat.add_zero, Nat.one_ne_zero, Nat.zero_ne_one, Nat.reduceEqDiff, bI_T, bI_F, bI_0, bI_1, bI_01, not_and_self, true_and, and_true, not_true_eq_false, not_false_eq_true, false_imp_iff, true_imp_iff, imp_self, gPv_n, gPv_i, gPv_r, gPv_0, Option.toList_some, Option.toList_none, List.singleton_append, List.cons_append, List.nil_append, List.length_nil, List.length_cons, Nat.zero_le, Nat.reduceAdd, Nat.reduceLeDiff, or_true, true_or, false_or, or_false, and_self, and_false, false_and, implies_true, Option.some.injEq, exists_eq_left', nL, nI_add, nI_mul, nI_clamp, nI_ltI, nI_leI, nI_eq, nI_pos, nI_pos', Nat.reduceAdd, Nat.reduceMul, Nat.reducePow, sk_33 hvT, sr_33_0 hvT, sr_33_1 hvT, sr_33_2 hvT, sr_33_3 hvT]
          refine s_countWays (d := 996) hcT hE hr ha1 hb1 ?_
          intro τ2 hS2 r4 r5
          have hv2 : IvS (gB G) τ2 := fr_IvS hS2.1 hS2.2.1 hS2.2.2.1 hvT
          have hS02 : Sm (fun a => gB G + 25 ≤ a ∧ a < gB G + 50) σ τ2 := Sm_trans (Sm_mono hS (fun a ha => by omega)) (Sm_mono hS2 (fun a ha => by simp only [cwP] at ha; omega))
          have ha2 := Ca_P hcv haT hS2 (fun a ha => by simp only [cwP] at ha; omega)
          have m := mod τ2 1 (by omega) hS02 ha2
          rw [cV, if_neg (by decide), if_pos rfl, ← r5] at m
          simp (disch := omega) only [e_132_96, e_132_97, e_132_100, e_132_103, n10, n01, Nat.lt_irrefl, Nat.not_lt_zero, ne_eq, Nat.add_zero, Nat.one_ne_zero, Nat.zero_ne_one, Nat.reduceEqDiff, bI_T, bI_F, bI_0, bI_1, bI_01, not_and_self, true_and, and_true, not_true_eq_false, not_false_eq_true, false_imp_iff, true_imp_iff, imp_self, gPv_n, gPv_i, gPv_r, gPv_0, Option.toList_some, Option.toList_none, List.singleton_append, List.cons_append, List.nil_append, List.length_nil, List.length_cons, Nat.zero_le, Nat.reduceAdd, Nat.reduceLeDiff, or_true, true_or, false_or, or_false, and_self, and_false, false_and, implies_true, Option.some.injEq, exists_eq_left', nL, nI_add, nI_mul, nI_clamp, nI_ltI, nI_leI, nI_eq, nI_pos, nI_pos', Nat.reduceAdd, Nat.reduceMul, Nat.reducePow, sk_0 hv2, sr_0_0 hv2, sr_0_1 hv2, sr_0_2 hv2, sr_0_4 hv2, sr_0_7 hv2, sr_0_9 hv2, sr_0_10 hv2, sr_0_11 hv2, sr_0_12 hv2, sr_0_13 hv2, sr_0_14 hv2, sk_33 hv2, sr_33_0 hv2, sr_33_1 hv2, sr_33_2 hv2, sr_33_3 hv2]
          exact m
        · simp (disch := first | omega | (simp only [IvS_I, IvS_J, IvS_r]; assumption)) only [List.map_cons, List.map_nil, Value.int.injEq, gSc_r, gSc_I, n10, n01, Nat.lt_irrefl, Nat.not_lt_zero, ne_eq, Nat.add_zero, Nat.one_ne_zero, Nat.zero_ne_one, Nat.reduceEqDiff, bI_T, bI_F, bI_0, bI_1, bI_01, not_and_self, true_and, and_true, not_true_eq_false, not_false_eq_true, false_imp_iff, true_imp_iff, imp_self, gPv_n, gPv_i, gPv_r, gPv_0, Option.toList_some, Option.toList_none, List.singleton_append, List.cons_append, List.nil_append, List.length_nil, List.length_cons, Nat.zero_le, Nat.reduceAdd, Nat.reduceLeDiff, or_true, true_or, false_or, or_false, and_self, and_false, false_and, implies_true, Option.some.injEq, exists_eq_left', nL, nI_add, nI_mul, nI_clamp, nI_ltI, nI_leI, nI_eq, nI_pos, nI_pos', Nat.reduceAdd, Nat.reduceMul, Nat.reducePow, ti_0, ti_1, ti_2, ti_3, ti_4, ti_5, ti_6, ti_7, ti_8, ti_9, ti_10, ti_11, ti_12, ti_13, ti_14, ti_15, Int.reduceLT, Int.reduceSub, Int.reduceToNat, Int.sub_zero, Int.toNat_zero, Int.toNat_one, List.getElem?_cons_succ, List.getElem?_cons_zero, Int.lt_irrefl, c_132, e_132_0, e_132_1, e_132_4, e_132_5, e_132_8, e_132_11, e_132_12, e_132_15, e_132_16, e_132_19, e_132_22, e_132_23, e_132_24, e_132_25, e_132_104, e_132_105, e_132_108, e_132_109, e_132_112, sk_0 hv, sr_0_0 hv, sr_0_1 hv, sr_0_2 hv, sr_0_4 hv, sr_0_7 hv, sr_0_9 hv, sr_0_10 hv, sr_0_11 hv, sr_0_12 hv, sr_0_13 hv, sr_0_14 hv, sk_1 hv, sr_1_0 hv, sr_1_1 hv, sr_1_2 hv, sr_1_3 hv, sr_1_4 hv, sr_1_7 hv, sr_1_9 hv, sr_1_14 hv, sr_1_15 hv, sr_1_16 hv, sk_25 hv, sr_25_0 hv, sr_25_1 hv, sr_25_2 hv, sr_25_3 hv, sr_25_4 hv, sr_25_5 hv, sk_33 hv, sr_33_0 hv, sr_33_1 hv, sr_33_2 hv, sr_33_3 hv, s_has (sk_1 hv), e5, hn2, ha1, hb1]
          refine s_openRows (d := 992) hcv hc ha ?_
          intro τ hS hcT haT hr
          have hvT := hcT.1
          simp (disch := omega) only [e_132_115, n10, n01, Nat.lt_irrefl, Nat.not_lt_zero, ne_eq, Nat.add_zero, Nat.one_ne_zero, Nat.zero_ne_one, Nat.reduceEqDiff, bI_T, bI_F, bI_0, bI_1, bI_01, not_and_self, true_and, and_true, not_true_eq_false, not_false_eq_true, false_imp_iff, true_imp_iff, imp_self, gPv_n, gPv_i, gPv_r, gPv_0, Option.toList_some, Option.toList_none, List.singleton_append, List.cons_append, List.nil_append, List.length_nil, List.length_cons, Nat.zero_le, Nat.reduceAdd, Nat.reduceLeDiff, or_true, true_or, false_or, or_false, and_self, and_false, false_and, implies_true, Option.some.injEq, exists_eq_left', nL, nI_add, nI_mul, nI_clamp, nI_ltI, nI_leI, nI_eq, nI_pos, nI_pos', Nat.reduceAdd, Nat.reduceMul, Nat.reducePow, sk_25 hvT, sr_25_0 hvT, sr_25_1 hvT, sr_25_2 hvT, sr_25_3 hvT, sr_25_4 hvT, sr_25_5 hvT]
          refine s_measure (d := 994) hcv h2 hcT haT hr ?_
          intro τ2 hS2 hcT2 haT2 hM2
          have hv2 := hcT2.1
          have hS02 : Sm (fun a => gB G + 25 ≤ a ∧ a < gB G + 50) σ τ2 := Sm_trans (Sm_mono hS (fun a ha => by omega)) (Sm_mono hS2 (fun a ha => by omega))
          have m := mod τ2 2 (by omega) hS02 haT2
          rw [cV, if_neg (by decide), if_neg (by decide), if_pos rfl] at m
          simp (disch := omega) only [e_132_118, e_132_119, e_132_122, e_132_123, e_132_124, e_132_127, n10, n01, Nat.lt_irrefl, Nat.not_lt_zero, ne_eq, Nat.add_zero, Nat.one_ne_zero, Nat.zero_ne_one, Nat.reduceEqDiff, bI_T, bI_F, bI_0, bI_1, bI_01, not_and_self, true_and, and_true, not_true_eq_false, not_false_eq_true, false_imp_iff, true_imp_iff, imp_self, gPv_n, gPv_i, gPv_r, gPv_0, Option.toList_some, Option.toList_none, List.singleton_append, List.cons_append, List.nil_append, List.length_nil, List.length_cons, Nat.zero_le, Nat.reduceAdd, Nat.reduceLeDiff, or_true, true_or, false_or, or_false, and_self, and_false, false_and, implies_true, Option.some.injEq, exists_eq_left', nL, nI_add, nI_mul, nI_clamp, nI_ltI, nI_leI, nI_eq, nI_pos, nI_pos', Nat.reduceAdd, Nat.reduceMul, Nat.reducePow, sk_0 hv2, sr_0_0 hv2, sr_0_1 hv2, sr_0_2 hv2, sr_0_4 hv2, sr_0_7 hv2, sr_0_9 hv2, sr_0_10 hv2, sr_0_11 hv2, sr_0_12 hv2, sr_0_13 hv2, sr_0_14 hv2, sk_25 hv2, sr_25_0 hv2, sr_25_1 hv2, sr_25_2 hv2, sr_25_3 hv2, sr_25_4 hv2, sr_25_5 hv2, s_shT hv2 hM2 a12 b12]
          exact m
        · simp (disch := first | omega | (simp only [IvS_I, IvS_J, IvS_r]; assumption)) only [List.map_cons, List.map_nil, Value.int.injEq, gSc_r, gSc_I, n10, n01, Nat.lt_irrefl, Nat.not_lt_zero, ne_eq, Nat.add_zero, Nat.one_ne_zero, Nat.zero_ne_one, Nat.reduceEqDiff, bI_T, bI_F, bI_0, bI_1, bI_01, not_and_self, true_and, and_true, not_true_eq_false, not_false_eq_true, false_imp_iff, true_imp_iff, imp_self, gPv_n, gPv_i, gPv_r, gPv_0, Option.toList_some, Option.toList_none, List.singleton_append, List.cons_append, List.nil_append, List.length_nil, List.length_cons, Nat.zero_le, Nat.reduceAdd, Nat.reduceLeDiff, or_true, true_or, false_or, or_false, and_self, and_false, false_and, implies_true, Option.some.injEq, exists_eq_left', nL, nI_add, nI_mul, nI_clamp, nI_ltI, nI_leI, nI_eq, nI_pos, nI_pos', Nat.reduceAdd, Nat.reduceMul, Nat.reducePow, ti_0, ti_1, ti_2, ti_3, ti_4, ti_5, ti_6, ti_7, ti_8, ti_9, ti_10, ti_11, ti_12, ti_13, ti_14, ti_15, Int.reduceLT, Int.reduceSub, Int.reduceToNat, Int.sub_zero, Int.toNat_zero, Int.toNat_one, List.getElem?_cons_succ, List.getElem?_cons_zero, Int.lt_irrefl, c_132, e_132_0, e_132_1, e_132_4, e_132_5, e_132_8, e_132_11, e_132_12, e_132_15, e_132_16, e_132_19, e_132_22, e_132_23, e_132_24, e_132_25, e_132_128, e_132_129, e_132_132, e_132_133, e_132_136, sk_0 hv, sr_0_0 hv, sr_0_1 hv, sr_0_2 hv, sr_0_4 hv, sr_0_7 hv, sr_0_9 hv, sr_0_10 hv, sr_0_11 hv, sr_0_12 hv, sr_0_13 hv, sr_0_14 hv, sk_1 hv, sr_1_0 hv, sr_1_1 hv, sr_1_2 hv, sr_1_3 hv, sr_1_4 hv, sr_1_7 hv, sr_1_9 hv, sr_1_14 hv, sr_1_15 hv, sr_1_16 hv, sk_25 hv, sr_25_0 hv, sr_25_1 hv, sr_25_2 hv, sr_25_3 hv, sr_25_4 hv, sr_25_5 hv, sk_33 hv, sr_33_0 hv, sr_33_1 hv, sr_33_2 hv, sr_33_3 hv, s_has (sk_1 hv), e5, hn2, ha1, hb1]
          refine s_openRows (d := 992) hcv hc ha ?_
          intro τ hS hcT haT hr
          have hvT := hcT.1
          simp (disch := omega) only [e_132_139, n10, n01, Nat.lt_irrefl, Nat.not_lt_zero, ne_eq, Nat.add_zero, Nat.one_ne_zero, Nat.zero_ne_one, Nat.reduceEqDiff, bI_T, bI_F, bI_0, bI_1, bI_01, not_and_self, true_and, and_true, not_true_eq_false, not_false_eq_true, false_imp_iff, true_imp_iff, imp_self, gPv_n, gPv_i, gPv_r, gPv_0, Option.toList_some, Option.toList_none, List.singleton_append, List.cons_append, List.nil_append, List.length_nil, List.length_cons, Nat.zero_le, Nat.reduceAdd, Nat.reduceLeDiff, or_true, true_or, false_or, or_false, and_self, and_false, false_and, implies_true, Option.some.injEq, exists_eq_left', nL, nI_add, nI_mul, nI_clamp, nI_ltI, nI_leI, nI_eq, nI_pos, nI_pos', Nat.reduceAdd, Nat.reduceMul, Nat.reducePow, sk_25 hvT, sr_25_0 hvT, sr_25_1 hvT, sr_25_2 hvT, sr_25_3 hvT, sr_25_4 hvT, sr_25_5 hvT]
          refine s_measure (d := 994) hcv h2 hcT haT hr ?_
          intro τ2 hS2 hcT2 haT2 hM2
          have hv2 := hcT2.1
          have hS02 : Sm (fun a => gB G + 25 ≤ a ∧ a < gB G + 50) σ τ2 := Sm_trans (Sm_mono hS (fun a ha => by omega)) (Sm_mono hS2 (fun a ha => by omega))
          have m := mod τ2 3 (by omega) hS02 haT2
          rw [cV, if_neg (by decide), if_neg (by decide), if_neg (by decide)] at m
          simp (disch := omega) only [e_132_142, e_132_143, e_132_146, e_132_147, e_132_148, e_132_151, n10, n01, Nat.lt_irrefl, Nat.not_lt_zero, ne_eq, Nat.add_zero, Nat.one_ne_zero, Nat.zero_ne_one, Nat.reduceEqDiff, bI_T, bI_F, bI_0, bI_1, bI_01, not_and_self, true_and, and_true, not_true_eq_false, not_false_eq_true, false_imp_iff, true_imp_iff, imp_self, gPv_n, gPv_i, gPv_r, gPv_0, Option.toList_some, Option.toList_none, List.singleton_append, List.cons_append, List.nil_append, List.length_nil, List.length_cons, Nat.zero_le, Nat.reduceAdd, Nat.reduceLeDiff, or_true, true_or, false_or, or_false, and_self, and_false, false_and, implies_true, Option.some.injEq, exists_eq_left', nL, nI_add, nI_mul, nI_clamp, nI_ltI, nI_leI, nI_eq, nI_pos, nI_pos', Nat.reduceAdd, Nat.reduceMul, Nat.reducePow, sk_0 hv2, sr_0_0 hv2, sr_0_1 hv2, sr_0_2 hv2, sr_0_4 hv2, sr_0_7 hv2, sr_0_9 hv2, sr_0_10 hv2, sr_0_11 hv2, sr_0_12 hv2, sr_0_13 hv2, sr_0_14 hv2, sk_25 hv2, sr_25_0 hv2, sr_25_1 hv2, sr_25_2 hv2, sr_25_3 hv2, sr_25_4 hv2, sr_25_5 hv2, s_shV hv2 hM2 a12 b12]
          exact m
      · have h3' := nin (by omega) h3
        have h3'' : p2.toInt < 0 ∨ 3 < p2.toInt := h3'
        simp (disch := first | omega | (simp only [IvS_I, IvS_J, IvS_r]; assumption)) only [List.map_cons, List.map_nil, Value.int.injEq, gSc_r, gSc_I, n10, n01, Nat.lt_irrefl, Nat.not_lt_zero, ne_eq, Nat.add_zero, Nat.one_ne_zero, Nat.zero_ne_one, Nat.reduceEqDiff, bI_T, bI_F, bI_0, bI_1, bI_01, not_and_self, true_and, and_true, not_true_eq_false, not_false_eq_true, false_imp_iff, true_imp_iff, imp_self, gPv_n, gPv_i, gPv_r, gPv_0, Option.toList_some, Option.toList_none, List.singleton_append, List.cons_append, List.nil_append, List.length_nil, List.length_cons, Nat.zero_le, Nat.reduceAdd, Nat.reduceLeDiff, or_true, true_or, false_or, or_false, and_self, and_false, false_and, implies_true, Option.some.injEq, exists_eq_left', nL, nI_eq, nI_ltI, nI_leI, c_132, e_132_0, e_132_1, e_132_4, e_132_5, e_132_8, e_132_11, e_132_12, e_132_15, e_132_16, e_132_19, e_132_22, e_132_23, e_132_24, e_132_25, e_132_152, e_132_153, c_243, e_243_0, e_243_1, e_243_2, e_243_5, e_243_8, e_243_9, e_243_10, e_243_13, e_243_16, e_243_17, e_243_18, e_243_19, e_243_22, e_243_25, e_243_26, sk_0 hv, sr_0_0 hv, sr_0_1 hv, sr_0_2 hv, sr_0_4 hv, sr_0_7 hv, sr_0_9 hv, sr_0_10 hv, sr_0_11 hv, sr_0_12 hv, sr_0_13 hv, sr_0_14 hv, sk_1 hv, sr_1_0 hv, sr_1_1 hv, sr_1_2 hv, sr_1_3 hv, sr_1_4 hv, sr_1_7 hv, sr_1_9 hv, sr_1_14 hv, sr_1_15 hv, sr_1_16 hv, sk_54 hv, sr_54_2 hv, sr_54_3 hv, sr_54_4 hv, sr_54_5 hv, sr_54_7 hv, sr_54_8 hv, sr_54_9 hv, sr_54_12 hv, sr_54_13 hv, sr_54_14 hv, sr_54_22 hv, sr_54_25 hv, sr_54_26 hv, sr_54_27 hv, sr_54_34 hv, sr_54_35 hv, sr_54_36 hv, sr_54_37 hv, sr_54_38 hv, sr_54_40 hv, sr_54_43 hv, sr_54_44 hv, sr_54_45 hv, sr_54_46 hv, sr_54_47 hv, s_has (sk_1 hv), t_isHouse hv, t_lies, e5, hn2, le_sub1, ha1, hb1, h3, h3'']
        exact Inv_up hI
    · simp (disch := first | omega | (simp only [IvS_I, IvS_J, IvS_r]; assumption)) only [List.map_cons, List.map_nil, Value.int.injEq, gSc_r, gSc_I, n10, n01, Nat.lt_irrefl, Nat.not_lt_zero, ne_eq, Nat.add_zero, Nat.one_ne_zero, Nat.zero_ne_one, Nat.reduceEqDiff, bI_T, bI_F, bI_0, bI_1, bI_01, not_and_self, true_and, and_true, not_true_eq_false, not_false_eq_true, false_imp_iff, true_imp_iff, imp_self, gPv_n, gPv_i, gPv_r, gPv_0, Option.toList_some, Option.toList_none, List.singleton_append, List.cons_append, List.nil_append, List.length_nil, List.length_cons, Nat.zero_le, Nat.reduceAdd, Nat.reduceLeDiff, or_true, true_or, false_or, or_false, and_self, and_false, false_and, implies_true, Option.some.injEq, exists_eq_left', nL, c_132, e_132_0, e_132_1, e_132_4, e_132_5, e_132_8, e_132_11, e_132_12, e_132_15, e_132_16, e_132_19, e_132_22, e_132_23, c_243, e_243_0, e_243_1, e_243_2, e_243_5, e_243_8, e_243_9, e_243_10, e_243_13, e_243_16, e_243_17, e_243_18, e_243_19, e_243_22, e_243_25, e_243_26, sk_0 hv, sr_0_0 hv, sr_0_1 hv, sr_0_2 hv, sr_0_4 hv, sr_0_7 hv, sr_0_9 hv, sr_0_10 hv, sr_0_11 hv, sr_0_12 hv, sr_0_13 hv, sr_0_14 hv, sk_1 hv, sr_1_0 hv, sr_1_1 hv, sr_1_2 hv, sr_1_3 hv, sr_1_4 hv, sr_1_7 hv, sr_1_9 hv, sr_1_14 hv, sr_1_15 hv, sr_1_16 hv, sk_54 hv, sr_54_2 hv, sr_54_3 hv, sr_54_4 hv, sr_54_5 hv, sr_54_7 hv, sr_54_8 hv, sr_54_9 hv, sr_54_12 hv, sr_54_13 hv, sr_54_14 hv, sr_54_22 hv, sr_54_25 hv, sr_54_26 hv, sr_54_27 hv, sr_54_34 hv, sr_54_35 hv, sr_54_36 hv, sr_54_37 hv, sr_54_38 hv, sr_54_40 hv, sr_54_43 hv, sr_54_44 hv, sr_54_45 hv, sr_54_46 hv, sr_54_47 hv, s_has (sk_1 hv), t_isHouse hv, e5, hn2, le_sub1, h0, h1]
      exact Inv_up hI
  · simp (disch := first | omega | (simp only [IvS_I, IvS_J, IvS_r]; assumption)) only [List.map_cons, List.map_nil, Value.int.injEq, gSc_r, gSc_I, n10, n01, Nat.lt_irrefl, Nat.not_lt_zero, ne_eq, Nat.add_zero, Nat.one_ne_zero, Nat.zero_ne_one, Nat.reduceEqDiff, bI_T, bI_F, bI_0, bI_1, bI_01, not_and_self, true_and, and_true, not_true_eq_false, not_false_eq_true, false_imp_iff, true_imp_iff, imp_self, gPv_n, gPv_i, gPv_r, gPv_0, Option.toList_some, Option.toList_none, List.singleton_append, List.cons_append, List.nil_append, List.length_nil, List.length_cons, Nat.zero_le, Nat.reduceAdd, Nat.reduceLeDiff, or_true, true_or, false_or, or_false, and_self, and_false, false_and, implies_true, Option.some.injEq, exists_eq_left', nL, c_132, e_132_0, e_132_1, e_132_4, e_132_5, e_132_8, e_132_11, e_132_12, e_132_15, e_132_16, e_132_19, e_132_22, e_132_23, c_243, e_243_0, e_243_1, e_243_2, e_243_5, e_243_8, e_243_9, e_243_10, e_243_13, e_243_16, e_243_17, e_243_18, e_243_19, e_243_22, e_243_25, e_243_26, sk_0 hv, sr_0_0 hv, sr_0_1 hv, sr_0_2 hv, sr_0_4 hv, sr_0_7 hv, sr_0_9 hv, sr_0_10 hv, sr_0_11 hv, sr_0_12 hv, sr_0_13 hv, sr_0_14 hv, sk_1 hv, sr_1_0 hv, sr_1_1 hv, sr_1_2 hv, sr_1_3 hv, sr_1_4 hv, sr_1_7 hv, sr_1_9 hv, sr_1_14 hv, sr_1_15 hv, sr_1_16 hv, sk_54 hv, sr_54_2 hv, sr_54_3 hv, sr_54_4 hv, sr_54_5 hv, sr_54_7 hv, sr_54_8 hv, sr_54_9 hv, sr_54_12 hv, sr_54_13 hv, sr_54_14 hv, sr_54_22 hv, sr_54_25 hv, sr_54_26 hv, sr_54_27 hv, sr_54_34 hv, sr_54_35 hv, sr_54_36 hv, sr_54_37 hv, sr_54_38 hv, sr_54_40 hv, sr_54_43 hv, sr_54_44 hv, sr_54_45 hv, sr_54_46 hv, sr_54_47 hv, s_has (sk_1 hv), t_isHouse hv, e5, hn2, le_sub1, h0]
    exact Inv_up hI
end
