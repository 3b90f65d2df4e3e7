/-! the class asks the law in force -/
section
variable {B p : Nat} {W : Nat → Int32} {σ : gS} {L : List zC}
theorem WdI_S {P : Nat → Prop} {τ : gS} (h : WdI B W σ) (hP : ¬ P (B + 27)) (hS : Sm P σ τ) : WdI B W τ := by
  intro j hj
  rw [hS.2.2.2.2.2.2.1 (B + 27) hP]
  exact h j hj
theorem rk_pl : ∀ a, a = B + 26 ∨ a = B + 28 → a < B + 80 := by intro a ha; omega
theorem rk_27 : ¬ (B + 27 = B + 26 ∨ B + 27 = B + 28) := by omega
theorem s_barsL {d : Nat} {Q : Option Value → gS → Prop} (hv : IvS B σ) (h : LwO B p σ L) (hW : WdI B W σ) : ∀ m i τ, i + m = L.length → Sm (fun a => a = B + 26 ∨ a = B + 28) σ τ →
    (∀ τ', Sm (fun a => a = B + 26 ∨ a = B + 28) σ τ' → Q (some (.int (bI ((L.drop i).any (fun cl => !cl.1 && zHo cl W) = true)))) τ') → wp (d + 2) pr_64 Q 2 [some (.ref (B + 26)), some (.ref p), some (.int (nI i))] [] τ := by
  have hl12 : L.length ≤ 12 := h.2.1.choose_spec.choose_spec.1
  intro m
  induction m with
  | zero =>
    intro i τ hi hS K
    have hO := LwO_S h rk_pl hS
    have hp := hO.1.1
    have h3 : gI τ p 3 = nI L.length := hO.2.1.choose_spec.choose_spec.2.2.2.1
    have z : L.length ≤ i := by omega
    have K := K τ hS
    rw [List.drop_eq_nil_of_le z] at K
    simp only [List.any_nil, Bool.false_eq_true, bI_F] at K
    simp (disch := omega) only [e_64_2, e_64_3, e_64_3n, e_64_4, e_64_7, e_64_10, e_64_10n, e_64_11, e_64_12, e_64_15, e_64_18, e_64_19, e_64_19n, e_64_20, e_64_21, e_64_24, e_64_27, e_64_28, e_64_29, e_64_32, e_64_35, e_64_36, n10, n01, Nat.lt_irrefl, Nat.not_lt_zero, ne_eq, Nat.add_zero, Nat.one_ne_zero, Nat.zero_ne_one, Nat.reduceEqDiff, bI_T, bI_F, bI_0, bI_1, bI_01, not_and_self, true_and, and_true, not_true_eq_false, not_false_eq_true, false_imp_iff, true_imp_iff, imp_self, gPv_n, gPv_i, gPv_r, gPv_0, Option.toList_some, Option.toList_none, List.singleton_append, List.cons_append, List.nil_append, List.length_nil, List.length_cons, Nat.zero_le, Nat.reduceAdd, Nat.reduceLeDiff, or_true, true_or, false_or, or_false, and_self, and_false, false_and, implies_true, Option.some.injEq, exists_eq_left', nL, nI_add, nI_mul, nI_clamp, nI_ltI, nI_leI, nI_eq, nI_pos, nI_pos', Nat.reduceAdd, Nat.reduceMul, Nat.reducePow, hp, h3, z]
    exact K
  | succ m ih =>
    intro i τ hi hS K
    have hO := LwO_S h rk_pl hS
    have hWt := WdI_S hW rk_27 hS
    have hvt : IvS B τ := fr_IvS hS.1 hS.2.1 hS.2.2.1 hv
    have hp := hO.1.1
    have h3 : gI τ p 3 = nI L.length := hO.2.1.choose_spec.choose_spec.2.2.2.1
    have z : ¬ L.length ≤ i := by omega
    have hlt : i < L.length := by omega
    have hi' : L[i]? = some L[i] := List.getElem?_eq_getElem hlt
    generalize hcl : L[i] = cl at hi'
    have hd : L.drop i = cl :: L.drop (i + 1) := by rw [List.drop_eq_getElem_cons hlt, hcl]
    rw [hd] at K
    simp only [List.any_cons] at K
    rw [e_64_2]
    by_cases hc : cl.1 = true
    · simp only [hc, Bool.not_true, Bool.false_and, Bool.false_or] at K
      simp (disch := omega) only [e_64_3, e_64_3n, e_64_4, e_64_7, e_64_10, e_64_10n, e_64_11, e_64_12, e_64_15, e_64_18, e_64_19, e_64_19n, e_64_20, e_64_21, e_64_24, e_64_27, e_64_28, e_64_29, e_64_32, n10, n01, Nat.lt_irrefl, Nat.not_lt_zero, ne_eq, Nat.add_zero, Nat.one_ne_zero, Nat.zero_ne_one, Nat.reduceEqDiff, bI_T, bI_F, bI_0, bI_1, bI_01, not_and_self, true_and, and_true, not_true_eq_false, not_false_eq_true, false_imp_iff, true_imp_iff, imp_self, gPv_n, gPv_i, gPv_r, gPv_0, Option.toList_some, Option.toList_none, List.singleton_append, List.cons_append, List.nil_append, List.length_nil, List.length_cons, Nat.zero_le, Nat.reduceAdd, Nat.reduceLeDiff, or_true, true_or, false_or, or_false, and_self, and_false, false_and, implies_true, Option.some.injEq, exists_eq_left', nL, nI_add, nI_mul, nI_clamp, nI_ltI, nI_leI, nI_eq, nI_pos, nI_pos', Nat.reduceAdd, Nat.reduceMul, Nat.reducePow, hp, h3, z, s_isTakes hO hi', hc]
      exact ih (i + 1) τ (by omega) hS K
    · have hc' : cl.1 = false := by simpa using hc
      simp only [hc', Bool.not_false, Bool.true_and] at K
      simp (disch := omega) only [e_64_3, e_64_3n, e_64_4, e_64_7, e_64_10, e_64_10n, e_64_11, e_64_12, e_64_15, e_64_18, e_64_19, e_64_19n, e_64_20, e_64_21, n10, n01, Nat.lt_irrefl, Nat.not_lt_zero, ne_eq, Nat.add_zero, Nat.one_ne_zero, Nat.zero_ne_one, Nat.reduceEqDiff, bI_T, bI_F, bI_0, bI_1, bI_01, not_and_self, true_and, and_true, not_true_eq_false, not_false_eq_true, false_imp_iff, true_imp_iff, imp_self, gPv_n, gPv_i, gPv_r, gPv_0, Option.toList_some, Option.toList_none, List.singleton_append, List.cons_append, List.nil_append, List.length_nil, List.length_cons, Nat.zero_le, Nat.reduceAdd, Nat.reduceLeDiff, or_true, true_or, false_or, or_false, and_self, and_false, false_and, implies_true, Option.some.injEq, exists_eq_left', nL, nI_add, nI_mul, nI_clamp, nI_ltI, nI_leI, nI_eq, nI_pos, nI_pos', Nat.reduceAdd, Nat.reduceMul, Nat.reducePow, sk_26 hvt, sr_26_0 hvt, sr_26_1 hvt, hp, h3, z, s_isTakes hO hi', hc, hc', Bool.false_eq_true]
      refine s_holds hvt hO hWt hi' ?_
      intro τ' hS' _
      have hS2 := Sm_trans hS hS'
      by_cases hh : zHo cl W = true
      · have K := K τ' hS2
        simp only [hh, Bool.true_or, bI_T] at K
        simp (disch := omega) only [e_64_24, e_64_27, e_64_28, e_64_29, e_64_32, n10, n01, Nat.lt_irrefl, Nat.not_lt_zero, ne_eq, Nat.add_zero, Nat.one_ne_zero, Nat.zero_ne_one, Nat.reduceEqDiff, bI_T, bI_F, bI_0, bI_1, bI_01, not_and_self, true_and, and_true, not_true_eq_false, not_false_eq_true, false_imp_iff, true_imp_iff, imp_self, gPv_n, gPv_i, gPv_r, gPv_0, Option.toList_some, Option.toList_none, List.singleton_append, List.cons_append, List.nil_append, List.length_nil, List.length_cons, Nat.zero_le, Nat.reduceAdd, Nat.reduceLeDiff, or_true, true_or, false_or, or_false, and_self, and_false, false_and, implies_true, Option.some.injEq, exists_eq_left', nL, nI_add, nI_mul, nI_clamp, nI_ltI, nI_leI, nI_eq, nI_pos, nI_pos', Nat.reduceAdd, Nat.reduceMul, Nat.reducePow, hh]
        exact K
      · have hh' : zHo cl W = false := by simpa using hh
        simp only [hh', Bool.false_or] at K
        simp (disch := omega) only [e_64_24, e_64_27, e_64_28, e_64_29, e_64_32, n10, n01, Nat.lt_irrefl, Nat.not_lt_zero, ne_eq, Nat.add_zero, Nat.one_ne_zero, Nat.zero_ne_one, Nat.reduceEqDiff, bI_T, bI_F, bI_0, bI_1, bI_01, not_and_self, true_and, and_true, not_true_eq_false, not_false_eq_true, false_imp_iff, true_imp_iff, imp_self, gPv_n, gPv_i, gPv_r, gPv_0, Option.toList_some, Option.toList_none, List.singleton_append, List.cons_append, List.nil_append, List.length_nil, List.length_cons, Nat.zero_le, Nat.reduceAdd, Nat.reduceLeDiff, or_true, true_or, false_or, or_false, and_self, and_false, false_and, implies_true, Option.some.injEq, exists_eq_left', nL, nI_add, nI_mul, nI_clamp, nI_ltI, nI_leI, nI_eq, nI_pos, nI_pos', Nat.reduceAdd, Nat.reduceMul, Nat.reducePow, hh', Bool.false_eq_true]
        exact ih (i + 1) τ' (by omega) hS2 K
theorem s_bars {d : Nat} {Q : Option Value → gS → Prop} (hv : IvS B σ) (h : LwO B p σ L) (hW : WdI B W σ) (K : ∀ τ', Sm (fun a => a = B + 26 ∨ a = B + 28) σ τ' → Q (some (.int (bI (zBar L W = true)))) τ') : wc (d + 3) 64 [.ref (B + 26), .ref p] σ Q := by
  simp (disch := omega) only [c_64, e_64_0, e_64_1, n10, n01, Nat.lt_irrefl, Nat.not_lt_zero, ne_eq, Nat.add_zero, Nat.one_ne_zero, Nat.zero_ne_one, Nat.reduceEqDiff, bI_T, bI_F, bI_0, bI_1, bI_01, not_and_self, true_and, and_true, not_true_eq_false, not_false_eq_true, false_imp_iff, true_imp_iff, imp_self, gPv_n, gPv_i, gPv_r, gPv_0, Option.toList_some, Option.toList_none, List.singleton_append, List.cons_append, List.nil_append, List.length_nil, List.length_cons, Nat.zero_le, Nat.reduceAdd, Nat.reduceLeDiff, or_true, true_or, false_or, or_false, and_self, and_false, false_and, implies_true, Option.some.injEq, exists_eq_left', nL]
  exact s_barsL hv h hW L.length 0 σ (by omega) (Sm_refl _ _) K
theorem zClp_c {v : Int64} : ((if (if v < 99 then v else 99) < 1 then 1 else (if v < 99 then v else 99)) : Int64).toInt32 = zClp (some v) := by
  simp only [zClp]
  by_cases c1 : v < 1
  · have c2 : v < 99 := Int64.lt_trans c1 (by decide)
    rw [if_pos c2, if_pos c1, if_pos c1]
    rfl
  · rw [if_neg c1]
    by_cases c3 : 99 < v
    · have c2 : ¬ v < 99 := Int64.not_lt.mpr (Int64.le_of_lt c3)
      rw [if_neg c2, if_pos c3]
      rfl
    · rw [if_neg c3]
      by_cases c2 : v < 99
      · rw [if_pos c2, if_neg c1]
      · have : v = 99 := Int64.le_antisymm (Int64.not_lt.mp c3) (Int64.not_lt.mp c2)
        subst this
        rfl
theorem s_takesL {d : Nat} {Q : Option Value → gS → Prop} (hv : IvS B σ) (h : LwO B p σ L) (hW : WdI B W σ) : ∀ i τ, i ≤ L.length → Sm (fun a => a = B + 26 ∨ a = B + 28) σ τ →
    (∀ τ', Sm (fun a => a = B + 26 ∨ a = B + 28) σ τ' → Q (some (.int ((L.take i).foldl (zTkF W) 1))) τ') → wp (d + 2) pr_65 Q 7 [some (.ref (B + 26)), some (.ref p), some (.int (nI i - nI 1))] [] τ := by
  have hl12 : L.length ≤ 12 := h.2.1.choose_spec.choose_spec.1
  intro i
  induction i with
  | zero =>
    intro τ hi hS K
    have z : nI 0 - nI 1 < nI 0 := by decide
    have K := K τ hS
    simp only [List.take_zero, List.foldl_nil] at K
    simp (disch := omega) only [e_65_7, e_65_8, e_65_52, e_65_53, n10, n01, Nat.lt_irrefl, Nat.not_lt_zero, ne_eq, Nat.add_zero, Nat.one_ne_zero, Nat.zero_ne_one, Nat.reduceEqDiff, bI_T, bI_F, bI_0, bI_1, bI_01, not_and_self, true_and, and_true, not_true_eq_false, not_false_eq_true, false_imp_iff, true_imp_iff, imp_self, gPv_n, gPv_i, gPv_r, gPv_0, Option.toList_some, Option.toList_none, List.singleton_append, List.cons_append, List.nil_append, List.length_nil, List.length_cons, Nat.zero_le, Nat.reduceAdd, Nat.reduceLeDiff, or_true, true_or, false_or, or_false, and_self, and_false, false_and, implies_true, Option.some.injEq, exists_eq_left', nL, z]
    exact K
  | succ i ih =>
    intro τ hi hS K
    have hO := LwO_S h rk_pl hS
    have hWt := WdI_S hW rk_27 hS
    have hvt : IvS B τ := fr_IvS hS.1 hS.2.1 hS.2.2.1 hv
    have hp := hO.1.1
    have z1 : nI (i + 1) - nI 1 = nI i := nI_sub (by omega)
    have z2 : nI i + -nI 1 = nI i - nI 1 := (Int32.sub_eq_add_neg _ _).symm
    have hlt : i < L.length := by omega
    have hi' : L[i]? = some L[i] := List.getElem?_eq_getElem hlt
    generalize hcl : L[i] = cl at hi'
    have ht : L.take (i + 1) = L.take i ++ [cl] := by rw [List.take_succ_eq_append_getElem hlt, hcl]
    rw [ht] at K
    simp only [List.foldl_append, List.foldl_cons, List.foldl_nil] at K
    rw [z1, e_65_7]
    by_cases hc : cl.1 = true
    · simp (disch := omega) only [e_65_8, e_65_11, e_65_11n, e_65_12, e_65_13, e_65_16, e_65_19, e_65_20, e_65_20n, e_65_21, e_65_22, n10, n01, Nat.lt_irrefl, Nat.not_lt_zero, ne_eq, Nat.add_zero, Nat.one_ne_zero, Nat.zero_ne_one, Nat.reduceEqDiff, bI_T, bI_F, bI_0, bI_1, bI_01, not_and_self, true_and, and_true, not_true_eq_false, not_false_eq_true, false_imp_iff, true_imp_iff, imp_self, gPv_n, gPv_i, gPv_r, gPv_0, Option.toList_some, Option.toList_none, List.singleton_append, List.cons_append, List.nil_append, List.length_nil, List.length_cons, Nat.zero_le, Nat.reduceAdd, Nat.reduceLeDiff, or_true, true_or, false_or, or_false, and_self, and_false, false_and, implies_true, Option.some.injEq, exists_eq_left', nL, nI_add, nI_mul, nI_clamp, nI_ltI, nI_leI, nI_eq, nI_pos, nI_pos', Nat.reduceAdd, Nat.reduceMul, Nat.reducePow, sk_26 hvt, sr_26_0 hvt, sr_26_1 hvt, hp, s_isTakes hO hi', hc]
      refine s_holds hvt hO hWt hi' ?_
      intro τ' hS' hq
      have hS2 := Sm_trans hS hS'
      have hvt' : IvS B τ' := fr_IvS hS2.1 hS2.2.1 hS2.2.2.1 hv
      by_cases hh : zHo cl W = true
      · have K := K τ' hS2
        obtain ⟨v, e1, e2⟩ := hq hh hc
        have e3 : zTkF W (List.foldl (zTkF W) 1 (List.take i L)) cl = zClp (some v) := by
          simp only [zTkF, hc, hh, Bool.and_self, if_true, e1]
        rw [e3, ← zClp_c] at K
        simp (disch := omega) only [e_65_25, e_65_28, e_65_29, e_65_32, e_65_33, e_65_36, e_65_37, e_65_38, e_65_41, e_65_44, e_65_45, n10, n01, Nat.lt_irrefl, Nat.not_lt_zero, ne_eq, Nat.add_zero, Nat.one_ne_zero, Nat.zero_ne_one, Nat.reduceEqDiff, bI_T, bI_F, bI_0, bI_1, bI_01, not_and_self, true_and, and_true, not_true_eq_false, not_false_eq_true, false_imp_iff, true_imp_iff, imp_self, gPv_n, gPv_i, gPv_r, gPv_0, Option.toList_some, Option.toList_none, List.singleton_append, List.cons_append, List.nil_append, List.length_nil, List.length_cons, Nat.zero_le, Nat.reduceAdd, Nat.reduceLeDiff, or_true, true_or, false_or, or_false, and_self, and_false, false_and, implies_true, Option.some.injEq, exists_eq_left', nL, nI_add, nI_mul, nI_clamp, nI_ltI, nI_leI, nI_eq, nI_pos, nI_pos', Nat.reduceAdd, Nat.reduceMul, Nat.reducePow, sk_26 hvt', sr_26_0 hvt', sr_26_1 hvt', sk_28 hvt', sn_28 hvt', hh, e2, Nat.reduceLT]
        exact K
      · have hh' : zHo cl W = false := by simpa using hh
        have e3 : zTkF W (List.foldl (zTkF W) 1 (List.take i L)) cl = List.foldl (zTkF W) 1 (List.take i L) := by
          simp only [zTkF, hh', Bool.and_false, Bool.false_eq_true, if_false]
        rw [e3] at K
        simp (disch := omega) only [e_65_25, e_65_46, e_65_49, n10, n01, Nat.lt_irrefl, Nat.not_lt_zero, ne_eq, Nat.add_zero, Nat.one_ne_zero, Nat.zero_ne_one, Nat.reduceEqDiff, bI_T, bI_F, bI_0, bI_1, bI_01, not_and_self, true_and, and_true, not_true_eq_false, not_false_eq_true, false_imp_iff, true_imp_iff, imp_self, gPv_n, gPv_i, gPv_r, gPv_0, Option.toList_some, Option.toList_none, List.singleton_append, List.cons_append, List.nil_append, List.length_nil, List.length_cons, Nat.zero_le, Nat.reduceAdd, Nat.reduceLeDiff, or_true, true_or, false_or, or_false, and_self, and_false, false_and, implies_true, Option.some.injEq, exists_eq_left', nL, hh', Bool.false_eq_true, z2]
        exact ih τ' (by omega) hS2 K
    · have hc' : cl.1 = false := by simpa using hc
      have e3 : zTkF W (List.foldl (zTkF W) 1 (List.take i L)) cl = List.foldl (zTkF W) 1 (List.take i L) := by
        simp only [zTkF, hc', Bool.false_and, Bool.false_eq_true, if_false]
      rw [e3] at K
      simp (disch := omega) only [e_65_8, e_65_11, e_65_11n, e_65_12, e_65_13, e_65_16, e_65_46, e_65_49, n10, n01, Nat.lt_irrefl, Nat.not_lt_zero, ne_eq, Nat.add_zero, Nat.one_ne_zero, Nat.zero_ne_one, Nat.reduceEqDiff, bI_T, bI_F, bI_0, bI_1, bI_01, not_and_self, true_and, and_true, not_true_eq_false, not_false_eq_true, false_imp_iff, true_imp_iff, imp_self, gPv_n, gPv_i, gPv_r, gPv_0, Option.toList_some, Option.toList_none, List.singleton_append, List.cons_append, List.nil_append, List.length_nil, List.length_cons, Nat.zero_le, Nat.reduceAdd, Nat.reduceLeDiff, or_true, true_or, false_or, or_false, and_self, and_false, false_and, implies_true, Option.some.injEq, exists_eq_left', nL, nI_ltI, hp, s_isTakes hO hi', hc', Bool.false_eq_true, z2]
      exact ih τ (by omega) hS K
theorem s_takes {d : Nat} {Q : Option Value → gS → Prop} (hv : IvS B σ) (h : LwO B p σ L) (hW : WdI B W σ) (K : ∀ τ', Sm (fun a => a = B + 26 ∨ a = B + 28) σ τ' → Q (some (.int (zTak L W))) τ') : wc (d + 3) 65 [.ref (B + 26), .ref p] σ Q := by
  have hp := h.1.1
  have h3 : gI σ p 3 = nI L.length := h.2.1.choose_spec.choose_spec.2.2.2.1
  simp (disch := omega) only [c_65, e_65_0, e_65_0n, e_65_1, e_65_4, e_65_5, e_65_6, n10, n01, Nat.lt_irrefl, Nat.not_lt_zero, ne_eq, Nat.add_zero, Nat.one_ne_zero, Nat.zero_ne_one, Nat.reduceEqDiff, bI_T, bI_F, bI_0, bI_1, bI_01, not_and_self, true_and, and_true, not_true_eq_false, not_false_eq_true, false_imp_iff, true_imp_iff, imp_self, gPv_n, gPv_i, gPv_r, gPv_0, Option.toList_some, Option.toList_none, List.singleton_append, List.cons_append, List.nil_append, List.length_nil, List.length_cons, Nat.zero_le, Nat.reduceAdd, Nat.reduceLeDiff, or_true, true_or, false_or, or_false, and_self, and_false, false_and, implies_true, Option.some.injEq, exists_eq_left', nL, hp, h3]
  refine s_takesL hv h hW L.length σ (Nat.le_refl _) (Sm_refl _ _) ?_
  rw [List.take_length]
  exact K
end
/-- the class's town, its laws -/
def Ctx (B : Nat) (own : Nat → Nat) (σ : gS) (A : Nat → Int32) : Prop := IvS B σ ∧ I4 LSx own (B + 1) σ A ∧ ∀ a, own a ≠ 0 → B + 80 ≤ a
theorem Ctx_S {B : Nat} {own : Nat → Nat} {σ τ : gS} {A : Nat → Int32} (h : Ctx B own σ A) (hS : Sm (fun a => B + 25 ≤ a ∧ a < B + 54) σ τ) : Ctx B own τ A := by
  obtain ⟨h1, h2, h3⟩ := h
  refine ⟨fr_IvS hS.1 hS.2.1 hS.2.2.1 h1, fr_I4 hS.1 hS.2.1 hS.2.2.1 ?_ ?_ h2, h3⟩
  · intro o ho
    exact hS.2.2.2.2.2.2.1 _ (by omega)
  · intro a ha
    have := h3 a (by omega)
    exact hS.2.2.2.2.2.2.1 _ (by omega)
theorem Ctx_L {B : Nat} {own : Nat → Nat} {σ : gS} {A : Nat → Int32} (h : Ctx B own σ A) : (A 255 = -nI 1 ∧ lawL A = []) ∨ ∃ f p L, A 255 = nI f ∧ f < 6 ∧ gR σ (B + 8) f = some p ∧ LwO B p σ L ∧ lawL A = L ∧ TokOK (lwCo A f) (lwVa A f) (an A (256 + f)) L ∧ A (256 + f) = nI (an A (256 + f)) := by
  obtain ⟨h1, ⟨⟨w1, w2, w3, w4, w5⟩, ⟨t1, t2, t3, t4, t5⟩, lw⟩, h3⟩ := h
  rcases w5.2.1 with hm | ⟨f, hf, hlt⟩
  · exact Or.inl ⟨hm, if_pos hm⟩
  · have h6 := (an_le w5.1 (by omega)).1
    obtain ⟨p, hp, ⟨o1, o2, o3, o4⟩, ho, L, hT, hC⟩ := lw.1 f hlt
    have hne : ¬ A 255 = -nI 1 := by rw [hf]; exact fun z => ng_ne 1 f (by omega) (by omega) (by omega) z.symm
    refine Or.inr ⟨f, p, L, hf, by omega, hp, ⟨ho, hC, h3 p (by omega)⟩, ?_, hT, ?_⟩
    · rw [lawL, if_neg hne, an_v hf (by omega)]
      exact lawAt_e hT
    · obtain ⟨n, e, hn⟩ := w5.2.2 f hlt
      rw [an_v e (by omega)]
      exact e
theorem Ctx_ok {B : Nat} {own : Nat → Nat} {σ : gS} {A : Nat → Int32} (h : Ctx B own σ A) : LawOK A := by
  rcases Ctx_L h with ⟨h1, _⟩ | ⟨f, p, L, h1, h2, h3, h4, h5, h6, h7⟩
  · exact Or.inl h1
  · exact Or.inr ⟨f, L, h1, h2, h7, h6⟩
