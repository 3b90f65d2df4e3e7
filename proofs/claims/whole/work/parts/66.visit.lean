/-! questions: visit, visits -/
def QM (B : Nat) (A : Nat → Int32) (v : Nat) (σ τ : gS) : Prop := Sm (fun a => a = B + 54 ∨ B + 61 ≤ a ∧ a < B + 78) σ τ ∧ (∀ j, j = 0 ∨ j = 1 ∨ j = 6 ∨ j = 10 ∨ j = 11 ∨ j = 48 → gI τ (B + 54) j = gI σ (B + 54) j) ∧ (gI τ (B + 54) 30 = -nI 1 ∧ gI τ (B + 54) 32 = -nI 1) ∧ gI τ (B + 54) 28 = nI v ∧ gI τ (B + 54) 29 = A 249 ∧ MVx A (A 249) (gI τ (B + 66)) (gI τ (B + 67)) (gI τ (B + 68))
section
variable {B : Nat} {own : Nat → Nat} {σ : gS} {A : Nat → Int32} {d v : Nat} {Q : Option Value → gS → Prop}
theorem Mc_S {P : Nat → Prop} {τ : gS} (h : Mc B A σ v) (hS : Sm P σ τ) (hP : ∀ a, P a → a < B + 54) : Mc B A τ v := by
  have e : ∀ a, B + 54 ≤ a → gI τ a = gI σ a := fun a ha => hS.2.2.2.2.2.2.1 a (fun z => absurd (hP a z) (by omega))
  simp only [Mc, e (B + 54) (by omega), e (B + 66) (by omega), e (B + 67) (by omega), e (B + 68) (by omega)]
  exact h
theorem QM_S {P : Nat → Prop} {τ τ' : gS} (h : QM B A v σ τ) (hS : Sm P τ τ') (hP : ∀ a, P a → B + 61 ≤ a ∧ a < B + 66 ∨ B + 69 ≤ a ∧ a < B + 78) : QM B A v σ τ' := by
  have e : ∀ a, ¬ (B + 61 ≤ a ∧ a < B + 66 ∨ B + 69 ≤ a ∧ a < B + 78) → gI τ' a = gI τ a := fun a ha => hS.2.2.2.2.2.2.1 a (fun z => ha (hP a z))
  obtain ⟨h1, h2⟩ := h
  refine ⟨Sm_trans h1 (Sm_mono hS (fun a ha => by have := hP a ha; omega)), ?_⟩
  rw [e (B + 54) (by omega), e (B + 66) (by omega), e (B + 67) (by omega), e (B + 68) (by omega)]
  exact h2
theorem QM_I {τ : gS} {j : Nat} {x : Int32} (h : QM B A v σ τ) (hj : j ≠ 0 ∧ j ≠ 1 ∧ j ≠ 6 ∧ j ≠ 10 ∧ j ≠ 11 ∧ j ≠ 48 ∧ j ≠ 30 ∧ j ≠ 32 ∧ j ≠ 28 ∧ j ≠ 29) : QM B A v σ (sI τ (B + 54) j x) := by
  obtain ⟨h1, h2, h3, h4, h5, h6⟩ := h
  refine ⟨Sm_I h1 (Or.inl rfl), ?_, ⟨by rw [rI_nk (by omega)]; exact h3.1, by rw [rI_nk (by omega)]; exact h3.2⟩, by rw [rI_nk (by omega)]; exact h4, by rw [rI_nk (by omega)]; exact h5, by rw [rI_ne (by omega), rI_ne (by omega), rI_ne (by omega)]; exact h6⟩
  intro i hi
  rw [rI_nk (by omega)]
  exact h2 i hi
theorem QM_asks {τ τ' : gS} (h : QM B A v σ τ) (hS : Sm (fun a => a = B + 54 ∨ a = B + 65) τ τ') (hf : ∀ j, j ≠ 19 → j ≠ 20 → j ≠ 21 → j ≠ 23 → j ≠ 24 → gI τ' (B + 54) j = gI τ (B + 54) j) : QM B A v σ τ' := by
  obtain ⟨h1, h2, h3, h4, h5, h6⟩ := h
  have e : ∀ a, a ≠ B + 54 → a ≠ B + 65 → gI τ' a = gI τ a := fun a z1 z2 => hS.2.2.2.2.2.2.1 a (by omega)
  refine ⟨Sm_trans h1 (Sm_mono hS (fun a ha => by omega)), ?_, ⟨by rw [hf 30 (by omega) (by omega) (by omega) (by omega) (by omega)]; exact h3.1, by rw [hf 32 (by omega) (by omega) (by omega) (by omega) (by omega)]; exact h3.2⟩, by rw [hf 28 (by omega) (by omega) (by omega) (by omega) (by omega)]; exact h4, by rw [hf 29 (by omega) (by omega) (by omega) (by omega) (by omega)]; exact h5, by rw [e (B + 66) (by omega) (by omega), e (B + 67) (by omega) (by omega), e (B + 68) (by omega) (by omega)]; exact h6⟩
  intro i hi
  rw [hf i (by omega) (by omega) (by omega) (by omega) (by omega)]
  exact h2 i hi
theorem QM_X {τ : gS} (X : MX B σ A) (h : QM B A v σ τ) : MX B τ A := MX_S X h.1 (by omega)
theorem t_look (X : MX B σ A) (hm : Mc B A σ v) (h30 : gI σ (B + 54) 30 = -nI 1) (h32 : gI σ (B + 54) 32 = -nI 1) (K : ∀ τ, QM B A v σ τ → Q none τ) : wc (d + 69) 234 [.ref (B + 54)] σ Q := by
  refine t_looks X hm ?_
  intro τ h1 h2 h3 h4 h5
  refine K τ ⟨Sm_mono h1 (fun a ha => by omega), ?_, ⟨?_, ?_⟩, h3, h4, h5⟩
  · intro j hj
    exact h2 j (by omega) (by omega) (by omega) (by omega) (by omega) (by omega) (by omega)
  · rw [h2 30 (by omega) (by omega) (by omega) (by omega) (by omega) (by omega) (by omega)]; exact h30
  · rw [h2 32 (by omega) (by omega) (by omega) (by omega) (by omega) (by omega) (by omega)]; exact h32
end
section
variable {CV : Nat → (Nat → Int32) → (Nat → Nat → Int32) → Prop} {G : gG} {σ : gS} {k : Nat}
theorem Inv_30 (hI : Inv LSx CV MVx G σ k) : gI σ (gB G + 54) 30 = -nI 1 ∧ gI σ (gB G + 54) 32 = -nI 1 := by
  obtain ⟨own, i1, i2, i3, i4, i5, i6, i7, i8, i9, i10, i11⟩ := hI
  exact ⟨i11.1, i11.2.1⟩
theorem Inv_QM {σ1 σ2 : gS} {cc v : Nat} (hk : k < 512) (hI : Inv LSx CV MVx G σ k) (hm : Mc (gB G) (gI σ (gB G + 56)) σ v) (hS1 : Sm (fun a => gB G + 25 ≤ a ∧ a < gB G + 50) σ σ1) (hCa : Ca CV (gB G) (gI σ (gB G + 56)) σ1 cc) (hq : QM (gB G) (gI σ (gB G + 56)) v σ1 σ2) : Inv LSx CV MVx G σ2 (k + 1) := by
  obtain ⟨h1, h2, h3, h4, h5, h6⟩ := hq
  have e54 : gI σ1 (gB G + 54) = gI σ (gB G + 54) := hS1.2.2.2.2.2.2.1 _ (by omega)
  refine Inv_qry hk hI hS1 hCa h1 ?_ (Or.inr ⟨h4.trans hm.1.symm, by rw [h5]; exact h6⟩)
  intro j hj
  obtain ⟨z1, z2⟩ := Inv_30 hI
  rcases hj with hj | hj | hj | hj | hj | hj | hj | hj
  · rw [h2 j (by omega), e54]
  · rw [h2 j (by omega), e54]
  · rw [h2 j (by omega), e54]
  · rw [h2 j (by omega), e54]
  · rw [h2 j (by omega), e54]
  · rw [hj, h3.1, z1]
  · rw [hj, h3.2, z2]
  · rw [h2 j (by omega), e54]
/-- the class has been asked, the model not -/
theorem Inv_Q1 {σ1 : gS} {cc : Nat} (hk : k < 512) (hI : Inv LSx CV MVx G σ k) (hS1 : Sm (fun a => gB G + 25 ≤ a ∧ a < gB G + 50) σ σ1) (hCa : Ca CV (gB G) (gI σ (gB G + 56)) σ1 cc) : Inv LSx CV MVx G σ1 (k + 1) := by
  have e : ∀ a, gB G + 50 ≤ a → gI σ1 a = gI σ a := fun a ha => hS1.2.2.2.2.2.2.1 a (by omega)
  refine Inv_qry hk hI hS1 hCa (Sm_refl _ _) (fun j _ => by rw [e _ (by omega)]) (Or.inl ⟨by rw [e _ (by omega)], by rw [e _ (by omega)], e _ (by omega), e _ (by omega), e _ (by omega)⟩)
theorem ob_visits (hcv : CVl CV) : gOb (Inv LSx CV MVx G) (gb G) (gB G) (gB G + 54) 131 236 1 := by
  intro σ k as hl hk hI
  obtain ⟨p0, rfl⟩ := len1 hl
  have hv := Inv_Sh hI
  have hb := Inv_b hI
  obtain ⟨own, cc, v, hc, ha, hX, hm⟩ := Inv_ctx hI hk
  obtain ⟨z30, z32⟩ := Inv_30 hI
  have w1 := hX.2.2.1
  have h12 := hn_le w1
  have hn2 := hn_eq w1
  have e5 := hc.2.1.2.1.1.1
  by_cases h0 : nI 0 ≤ p0 ∧ p0 < nI (hn (gI σ (gB G + 56)))
  · obtain ⟨a, ha1, rfl⟩ := in_lt (by omega) h0
    have a12 : a < 12 := by omega
    simp (disch := first | omega | (simp only [IvS_I, IvS_J, IvS_r]; assumption)) only [List.map_cons, List.map_nil, Value.int.injEq, gSc_r, gSc_I, n10, n01, Nat.lt_irrefl, Nat.not_lt_zero, ne_eq, Nat.add_zero, Nat.one_ne_zero, Nat.zero_ne_one, Nat.reduceEqDiff, bI_T, bI_F, bI_0, bI_1, bI_01, not_and_self, true_and, and_true, not_true_eq_false, not_false_eq_true, false_imp_iff, true_imp_iff, imp_self, gPv_n, gPv_i, gPv_r, gPv_0, Option.toList_some, Option.toList_none, List.singleton_append, List.cons_append, List.nil_append, List.length_nil, List.length_cons, Nat.zero_le, Nat.reduceAdd, Nat.reduceLeDiff, or_true, true_or, false_or, or_false, and_self, and_false, false_and, implies_true, Option.some.injEq, exists_eq_left', nL, nI_add, nI_mul, nI_clamp, nI_ltI, nI_leI, nI_eq, nI_pos, nI_pos', Nat.reduceAdd, Nat.reduceMul, Nat.reducePow, c_131, e_131_0, e_131_1, e_131_4, e_131_5, e_131_8, e_131_11, e_131_12, e_131_15, sk_0 hv, sr_0_0 hv, sr_0_1 hv, sr_0_2 hv, sr_0_4 hv, sr_0_7 hv, sr_0_9 hv, sr_0_10 hv, sr_0_11 hv, sr_0_12 hv, sr_0_13 hv, sr_0_14 hv, sk_1 hv, sr_1_0 hv, sr_1_1 hv, sr_1_2 hv, sr_1_3 hv, sr_1_4 hv, sr_1_7 hv, sr_1_9 hv, sr_1_14 hv, sr_1_15 hv, sr_1_16 hv, sk_25 hv, sr_25_0 hv, sr_25_1 hv, sr_25_2 hv, sr_25_3 hv, sr_25_4 hv, sr_25_5 hv, s_has (sk_1 hv), e5, hn2, ha1]
    refine s_openRows (d := 992) hcv hc ha ?_
    intro τ hS hcT haT hr
    have hvT := hcT.1
    have ra := hr a a12
    have hS1 : Sm (fun a => gB G + 25 ≤ a ∧ a < gB G + 50) σ τ := Sm_mono hS (fun a ha => by omega)
    simp (disch := omega) only [e_131_18, e_131_19, e_131_20, e_131_23, e_131_24, n10, n01, Nat.lt_irrefl, Nat.not_lt_zero, ne_eq, Nat.add_zero, Nat.one_ne_zero, Nat.zero_ne_one, Nat.reduceEqDiff, bI_T, bI_F, bI_0, bI_1, bI_01, not_and_self, true_and, and_true, not_true_eq_false, not_false_eq_true, false_imp_iff, true_imp_iff, imp_self, gPv_n, gPv_i, gPv_r, gPv_0, Option.toList_some, Option.toList_none, List.singleton_append, List.cons_append, List.nil_append, List.length_nil, List.length_cons, Nat.zero_le, Nat.reduceAdd, Nat.reduceLeDiff, or_true, true_or, false_or, or_false, and_self, and_false, false_and, implies_true, Option.some.injEq, exists_eq_left', nL, nI_add, nI_mul, nI_clamp, nI_ltI, nI_leI, nI_eq, nI_pos, nI_pos', Nat.reduceAdd, Nat.reduceMul, Nat.reducePow, sk_29 hvT, sn_29 hvT, a12, ra]
    refine ⟨⟨gSc_S hS (by omega), sk_54 hvT⟩, _, rfl, ?_⟩
    have XT := MX_S hX hS (by omega)
    have e250 : gI τ (gB G + 56) 250 = nI (hn (gI σ (gB G + 56))) := by rw [XT.2.1]; exact hn2
    simp (disch := first | omega | (simp only [IvS_I, IvS_J, IvS_r]; assumption)) only [List.map_cons, List.map_nil, Value.int.injEq, gSc_r, gSc_I, n10, n01, Nat.lt_irrefl, Nat.not_lt_zero, ne_eq, Nat.add_zero, Nat.one_ne_zero, Nat.zero_ne_one, Nat.reduceEqDiff, bI_T, bI_F, bI_0, bI_1, bI_01, not_and_self, true_and, and_true, not_true_eq_false, not_false_eq_true, false_imp_iff, true_imp_iff, imp_self, gPv_n, gPv_i, gPv_r, gPv_0, Option.toList_some, Option.toList_none, List.singleton_append, List.cons_append, List.nil_append, List.length_nil, List.length_cons, Nat.zero_le, Nat.reduceAdd, Nat.reduceLeDiff, or_true, true_or, false_or, or_false, and_self, and_false, false_and, implies_true, Option.some.injEq, exists_eq_left', nL, nI_add, nI_mul, nI_clamp, nI_ltI, nI_leI, nI_eq, nI_pos, nI_pos', Nat.reduceAdd, Nat.reduceMul, Nat.reducePow, c_236, e_236_0, e_236_1, e_236_2, e_236_5, e_236_8, e_236_9, e_236_10, e_236_11, sk_54 hvT, sr_54_2 hvT, sr_54_3 hvT, sr_54_4 hvT, sr_54_5 hvT, sr_54_7 hvT, sr_54_8 hvT, sr_54_9 hvT, sr_54_12 hvT, sr_54_13 hvT, sr_54_14 hvT, sr_54_22 hvT, sr_54_25 hvT, sr_54_26 hvT, sr_54_27 hvT, sr_54_34 hvT, sr_54_35 hvT, sr_54_36 hvT, sr_54_37 hvT, sr_54_38 hvT, sr_54_40 hvT, sr_54_43 hvT, sr_54_44 hvT, sr_54_45 hvT, sr_54_46 hvT, sr_54_47 hvT, t_isHouse hvT, e250, le_sub1, ha1]
    refine t_look (d := 930) XT (Mc_S hm hS (fun a ha => by omega)) (by rw [hS.2.2.2.2.2.2.1 _ (by omega)]; exact z30) (by rw [hS.2.2.2.2.2.2.1 _ (by omega)]; exact z32) ?_
    intro τ2 hq
    have hv2 := (QM_X XT hq).1
    have r2 := hq.2.2.2.2.2.1 a ha1
    simp (disch := omega) only [e_236_14, e_236_15, e_236_18, e_236_19, e_236_20, n10, n01, Nat.lt_irrefl, Nat.not_lt_zero, ne_eq, Nat.add_zero, Nat.one_ne_zero, Nat.zero_ne_one, Nat.reduceEqDiff, bI_T, bI_F, bI_0, bI_1, bI_01, not_and_self, true_and, and_true, not_true_eq_false, not_false_eq_true, false_imp_iff, true_imp_iff, imp_self, gPv_n, gPv_i, gPv_r, gPv_0, Option.toList_some, Option.toList_none, List.singleton_append, List.cons_append, List.nil_append, List.length_nil, List.length_cons, Nat.zero_le, Nat.reduceAdd, Nat.reduceLeDiff, or_true, true_or, false_or, or_false, and_self, and_false, false_and, implies_true, Option.some.injEq, exists_eq_left', nL, nI_add, nI_mul, nI_clamp, nI_ltI, nI_leI, nI_eq, nI_pos, nI_pos', Nat.reduceAdd, Nat.reduceMul, Nat.reducePow, sk_54 hv2, sr_54_2 hv2, sr_54_3 hv2, sr_54_4 hv2, sr_54_5 hv2, sr_54_7 hv2, sr_54_8 hv2, sr_54_9 hv2, sr_54_12 hv2, sr_54_13 hv2, sr_54_14 hv2, sr_54_22 hv2, sr_54_25 hv2, sr_54_26 hv2, sr_54_27 hv2, sr_54_34 hv2, sr_54_35 hv2, sr_54_36 hv2, sr_54_37 hv2, sr_54_38 hv2, sr_54_40 hv2, sr_54_43 hv2, sr_54_44 hv2, sr_54_45 hv2, sr_54_46 hv2, sr_54_47 hv2, sk_66 hv2, sn_66 hv2, a12, r2]
    exact Inv_QM hk hI hm hS1 haT hq
  · simp (disch := first | omega | (simp only [IvS_I, IvS_J, IvS_r]; assumption)) only [List.map_cons, List.map_nil, Value.int.injEq, gSc_r, gSc_I, n10, n01, Nat.lt_irrefl, Nat.not_lt_zero, ne_eq, Nat.add_zero, Nat.one_ne_zero, Nat.zero_ne_one, Nat.reduceEqDiff, bI_T, bI_F, bI_0, bI_1, bI_01, not_and_self, true_and, and_true, not_true_eq_false, not_false_eq_true, false_imp_iff, true_imp_iff, imp_self, gPv_n, gPv_i, gPv_r, gPv_0, Option.toList_some, Option.toList_none, List.singleton_append, List.cons_append, List.nil_append, List.length_nil, List.length_cons, Nat.zero_le, Nat.reduceAdd, Nat.reduceLeDiff, or_true, true_or, false_or, or_false, and_self, and_false, false_and, implies_true, Option.some.injEq, exists_eq_left', nL, c_131, e_131_0, e_131_1, e_131_4, e_131_5, e_131_8, e_131_11, e_131_12, e_131_15, e_131_18, e_131_19, e_131_20, e_131_23, e_131_24, c_236, e_236_0, e_236_1, e_236_2, e_236_5, e_236_8, e_236_9, sk_0 hv, sr_0_0 hv, sr_0_1 hv, sr_0_2 hv, sr_0_4 hv, sr_0_7 hv, sr_0_9 hv, sr_0_10 hv, sr_0_11 hv, sr_0_12 hv, sr_0_13 hv, sr_0_14 hv, sk_1 hv, sr_1_0 hv, sr_1_1 hv, sr_1_2 hv, sr_1_3 hv, sr_1_4 hv, sr_1_7 hv, sr_1_9 hv, sr_1_14 hv, sr_1_15 hv, sr_1_16 hv, sk_54 hv, sr_54_2 hv, sr_54_3 hv, sr_54_4 hv, sr_54_5 hv, sr_54_7 hv, sr_54_8 hv, sr_54_9 hv, sr_54_12 hv, sr_54_13 hv, sr_54_14 hv, sr_54_22 hv, sr_54_25 hv, sr_54_26 hv, sr_54_27 hv, sr_54_34 hv, sr_54_35 hv, sr_54_36 hv, sr_54_37 hv, sr_54_38 hv, sr_54_40 hv, sr_54_43 hv, sr_54_44 hv, sr_54_45 hv, sr_54_46 hv, sr_54_47 hv, s_has (sk_1 hv), t_isHouse hv, e5, hn2, le_sub1, h0]
    exact Inv_up hI
end
