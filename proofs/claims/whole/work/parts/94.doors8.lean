/-! doors: the obligation -/
theorem DX_u {C : Nat → Bool} {n p : Nat} {f : Nat → Nat → Nat} {nd wy nd' wy' : Int32} {pk pk' : Nat → Int32} (h : DX C n f p nd wy pk) (h' : DX C n f p nd' wy' pk') : nd' = nd ∧ wy' = wy ∧ (nd = -nI 1 ∨ nd = nI n ∧ ∀ t, t < 2 * n → pk' t = pk t) := by
  obtain ⟨a1, a2⟩ := h
  obtain ⟨b1, b2⟩ := h'
  refine ⟨?_, b1.trans a1.symm, ?_⟩
  · cases c : fo C p 0 with
    | none => rw [c] at a2 b2; exact Eq.trans b2 (Eq.symm a2)
    | some r => rw [c] at a2 b2; exact b2.1.trans a2.1.symm
  · cases c : fo C p 0 with
    | none => rw [c] at a2; exact Or.inl a2
    | some r => rw [c] at a2 b2; exact Or.inr ⟨a2.1, fun t ht => (b2.2 t ht).trans (a2.2 t ht).symm⟩
theorem DrR_u {A : Nat → Int32} {nd wy nd' wy' : Int32} {pk pk' : Nat → Int32} (h : DrR A nd wy pk) (h' : DrR A nd' wy' pk') : nd' = nd ∧ wy' = wy ∧ (nd = -nI 1 ∨ ∃ n, n ≤ 2 ∧ nd = nI n ∧ ∀ t, t < 2 * n → pk' t = pk t) := by
  rw [DrR] at h h'
  by_cases w : wsB A (opn A (A 249)) = true
  · rw [if_pos w] at h h'
    exact ⟨h'.1.trans h.1.symm, h'.2.trans h.2.symm, Or.inr ⟨0, by omega, h.1, fun t ht => absurd ht (by omega)⟩⟩
  · rw [if_neg w] at h h'
    by_cases c : cn (o1 A) 144 0 ≠ 0
    · rw [if_pos c] at h h'
      obtain ⟨a, b, e⟩ := DX_u h h'
      exact ⟨a, b, e.imp id (fun z => ⟨1, by omega, z.1, z.2⟩)⟩
    · rw [if_neg c] at h h'
      obtain ⟨a, b, e⟩ := DX_u h h'
      exact ⟨a, b, e.imp id (fun z => ⟨2, by omega, z.1, z.2⟩)⟩
section
variable {CV : Nat → (Nat → Int32) → (Nat → Nat → Int32) → Prop} {B : Nat} {own : Nat → Nat} {σ : gS} {A : Nat → Int32} {d cc : Nat} {Q : Option Value → gS → Prop} {E : Nat → Nat} {G : gG}
theorem s_search (hl : CVl CV) (h3 : ∀ A W, CV 3 A W ↔ DrR A (W 12 7) (W 12 8) (W 16)) (hc : Ctx B own σ A) (ha : Ca CV B A σ cc) (hO : ∀ j, j < 12 → gI σ (B + 29) j = nI (opn A (A 249) j)) (hW : ∀ j, j < 12 → gI σ (B + 30) j = nI (wdn A (A 249) j)) (K : ∀ τ, Sm (fun a => B + 37 ≤ a ∧ a ≤ B + 41) σ τ → Ca CV B A τ cc → DrR A (gI τ (B + 37) 7) (gI τ (B + 37) 8) (gI τ (B + 41)) → Q none τ) : wc (d + 7) 13 [.ref (B + 37), .ref (B + 29), .ref (B + 30)] σ Q := by
  have hv := hc.1
  have e17 := ha.1
  have cc1 := ha.2.1
  have n12 : (12 : Nat) ≤ 12 := by omega
  have n12' : ¬ (12 : Nat) < 12 := by omega
  have k29 := sk_29 hv
  have k30 := sk_30 hv
  have k38 := sk_38 hv
  by_cases c : gI σ (B + 37) 6 = nI cc
  · have := (ha.2.2 3 (by omega)).2 c
    rw [h3, cw_r (by omega), cw_r (by omega)] at this
    simp (disch := omega) only [c_13, e_13_0, e_13_1, e_13_4, e_13_5, e_13_8, e_13_11, e_13_28, n10, n01, Nat.lt_irrefl, Nat.not_lt_zero, ne_eq, Nat.add_zero, Nat.one_ne_zero, Nat.zero_ne_one, Nat.reduceEqDiff, bI_T, bI_F, bI_0, bI_1, bI_01, not_and_self, true_and, and_true, not_true_eq_false, not_false_eq_true, false_imp_iff, true_imp_iff, imp_self, gPv_n, gPv_i, gPv_r, gPv_0, Option.toList_some, Option.toList_none, List.singleton_append, List.cons_append, List.nil_append, List.length_nil, List.length_cons, Nat.zero_le, Nat.reduceAdd, Nat.reduceLeDiff, or_true, true_or, false_or, or_false, and_self, and_false, false_and, implies_true, Option.some.injEq, exists_eq_left', nL, sk_1 hv, sr_1_0 hv, sr_1_1 hv, sr_1_2 hv, sr_1_3 hv, sr_1_4 hv, sr_1_7 hv, sr_1_9 hv, sr_1_14 hv, sr_1_15 hv, sr_1_16 hv, sk_37 hv, sr_37_0 hv, sr_37_1 hv, sr_37_2 hv, sr_37_3 hv, sr_37_5 hv, e17, c]
    exact K σ (Sm_refl _ _) ha this
  · have fin : ∀ τ', Sm (fun a => B + 37 ≤ a ∧ a ≤ B + 41) σ τ' → gI τ' (B + 37) 6 = nI cc → DrR A (gI τ' (B + 37) 7) (gI τ' (B + 37) 8) (gI τ' (B + 41)) → Q none τ' := by
      intro τ f1 f3 hr
      refine K τ f1 (Ca_G hl ha (by rw [f1.2.2.2.2.2.2.1 (B + 1) (by omega)]) ?_) hr
      intro i hi
      have eo : ∀ a, ¬ (B + 37 ≤ a ∧ a ≤ B + 41) → gI τ a = gI σ a := fun a ha => f1.2.2.2.2.2.2.1 a ha
      rcases i6 hi with rfl | rfl | rfl | rfl | rfl | rfl
      case inr.inr.inr.inl =>
        refine Or.inr ⟨f3, ?_⟩
        rw [h3, cw_r (by omega), cw_r (by omega)]
        exact hr
      all_goals
        refine Or.inl ⟨?_, ?_⟩
        · simp only [cO_v]
          rw [eo _ (by omega)]
        · intro o ho
          simp only [cR, List.getD_cons_zero, List.getD_cons_succ, List.mem_cons, List.not_mem_nil, or_false] at ho
          exact eo _ (by omega)
    simp (disch := omega) only [c_13, e_13_0, e_13_1, e_13_4, e_13_5, e_13_8, e_13_11, e_13_14, e_13_14n, e_13_15, e_13_16, e_13_18, e_13_21, e_13_21n, e_13_22, e_13_23, e_13_25, e_13_28, e_13_29, e_13_30, e_13_31, e_13_34, e_13_37, e_13_40, e_13_41, e_13_42, e_13_45, e_13_46, e_13_47, e_13_50, e_13_50n, e_13_51, e_13_52, e_13_53, e_13_56, e_13_57, e_13_59, n10, n01, Nat.lt_irrefl, Nat.not_lt_zero, ne_eq, Nat.add_zero, Nat.one_ne_zero, Nat.zero_ne_one, Nat.reduceEqDiff, bI_T, bI_F, bI_0, bI_1, bI_01, not_and_self, true_and, and_true, not_true_eq_false, not_false_eq_true, false_imp_iff, true_imp_iff, imp_self, gPv_n, gPv_i, gPv_r, gPv_0, Option.toList_some, Option.toList_none, List.singleton_append, List.cons_append, List.nil_append, List.length_nil, List.length_cons, Nat.zero_le, Nat.reduceAdd, Nat.reduceLeDiff, or_true, true_or, false_or, or_false, and_self, and_false, false_and, implies_true, Option.some.injEq, exists_eq_left', nL, nI_add, nI_mul, nI_clamp, nI_ltI, nI_leI, nI_eq, nI_pos, nI_pos', Nat.reduceAdd, Nat.reduceMul, Nat.reducePow, sk_1 hv, sr_1_0 hv, sr_1_1 hv, sr_1_2 hv, sr_1_3 hv, sr_1_4 hv, sr_1_7 hv, sr_1_9 hv, sr_1_14 hv, sr_1_15 hv, sr_1_16 hv, sk_29 hv, sn_29 hv, sk_30 hv, sn_30 hv, sk_37 hv, sr_37_0 hv, sr_37_1 hv, sr_37_2 hv, sr_37_3 hv, sr_37_5 hv, sk_38 hv, sn_38 hv, nI_of_len, n12, n12', e17, c, n_K_I, n_K_J, n_K_R, n_K_r, n_N_I, n_N_J, n_N_R, n_N_r, n_R_I, n_R_J, n_R_r, n_J_I, n_J_R, n_J_r, n_I_J, n_I_R, n_n_I, n_n_J, n_n_R, n_n_r, n_w_I, n_w_J, n_w_R, n_w_r, n_T_I, n_T_J, n_T_R, n_T_r, rI_ne, rI_nk, rI_eq, rr_ne, rr_eq, n_J_J, n_R_R, Nat.add_left_cancel_iff, Nat.add_right_cancel_iff, Nat.add_eq_left, Nat.left_eq_add, Nat.reduceEqDiff, Nat.reduceAdd, Nat.zero_ne_one, Nat.one_ne_zero, false_and, and_false, true_and, and_true, and_self, if_false, if_true, ↓reduceIte]
    refine s_sr0 (cc := cc) hc hW hO ?_ ?_ ?_ ?_ ?_ fin
    · exact Sm_r (Sm_I (Sm_I (Sm_I (Sm_refl _ _) ⟨by omega, by omega⟩) ⟨by omega, by omega⟩) ⟨by omega, by omega⟩) ⟨by omega, by omega⟩
    · intro j hj
      have : 0 ≤ j ∧ j < 0 + 12 := by omega
      rw [rr_eq, va_cpy, if_pos this, Nat.sub_zero, Nat.zero_add]
      exact hO j hj
    · rw [rr_ne (by omega), rI_nk (by omega), rI_nk (by omega), rI_eq]
    · rw [rr_ne (by omega), rI_nk (by omega), rI_eq]
    · rw [rr_ne (by omega), rI_eq]
set_option maxHeartbeats 2000000 in
theorem ob_doors (hcv : CVl CV) (h3 : ∀ A W, CV 3 A W ↔ DrR A (W 12 7) (W 12 8) (W 16)) : gOb (Inv LSx CV MVx G) (gb G) (gB G) (gB G + 54) 139 255 1 := by
  intro σ k as hl hk hI
  obtain ⟨p0, rfl⟩ := len1 hl
  have hv := Inv_Sh hI
  have hb := Inv_b hI
  obtain ⟨own, cc, v, hc, ha, hX, hm⟩ := Inv_ctx hI hk
  obtain ⟨z30, z32⟩ := Inv_30 hI
  have w1 := hX.2.2.1
  have w4 := hc.2.1.1.2.2.2.1
  by_cases h0 : nI 0 ≤ p0 ∧ p0 ≤ nI 5
  · obtain ⟨y, hy5, rfl⟩ := in_nI (by omega) h0
    simp (disch := first | omega | (simp only [IvS_I, IvS_J, IvS_r]; assumption)) only [List.map_cons, List.map_nil, Value.int.injEq, gSc_r, gSc_I, n10, n01, Nat.lt_irrefl, Nat.not_lt_zero, ne_eq, Nat.add_zero, Nat.one_ne_zero, Nat.zero_ne_one, Nat.reduceEqDiff, bI_T, bI_F, bI_0, bI_1, bI_01, not_and_self, true_and, and_true, not_true_eq_false, not_false_eq_true, false_imp_iff, true_imp_iff, imp_self, gPv_n, gPv_i, gPv_r, gPv_0, Option.toList_some, Option.toList_none, List.singleton_append, List.cons_append, List.nil_append, List.length_nil, List.length_cons, Nat.zero_le, Nat.reduceAdd, Nat.reduceLeDiff, or_true, true_or, false_or, or_false, and_self, and_false, false_and, implies_true, Option.some.injEq, exists_eq_left', nL, nI_add, nI_mul, nI_clamp, nI_ltI, nI_leI, nI_eq, nI_pos, nI_pos', Nat.reduceAdd, Nat.reduceMul, Nat.reducePow, c_139, e_139_0, e_139_1, e_139_2, e_139_3, e_139_6, e_139_9, e_139_10, e_139_11, e_139_12, e_139_15, e_139_16, e_139_19, sk_0 hv, sr_0_0 hv, sr_0_1 hv, sr_0_2 hv, sr_0_4 hv, sr_0_7 hv, sr_0_9 hv, sr_0_10 hv, sr_0_11 hv, sr_0_12 hv, sr_0_13 hv, sr_0_14 hv, sk_1 hv, sr_1_0 hv, sr_1_1 hv, sr_1_2 hv, sr_1_3 hv, sr_1_4 hv, sr_1_7 hv, sr_1_9 hv, sr_1_14 hv, sr_1_15 hv, sr_1_16 hv, sk_25 hv, sr_25_0 hv, sr_25_1 hv, sr_25_2 hv, sr_25_3 hv, sr_25_4 hv, sr_25_5 hv, sk_37 hv, sr_37_0 hv, sr_37_1 hv, sr_37_2 hv, sr_37_3 hv, sr_37_5 hv, s_within, hy5]
    refine s_openRows (d := 992) hcv hc ha ?_
    intro τ hS hcT haT hr
    have hvT := hcT.1
    simp (disch := omega) only [e_139_22, e_139_23, e_139_26, n10, n01, Nat.lt_irrefl, Nat.not_lt_zero, ne_eq, Nat.add_zero, Nat.one_ne_zero, Nat.zero_ne_one, Nat.reduceEqDiff, bI_T, bI_F, bI_0, bI_1, bI_01, not_and_self, true_and, and_true, not_true_eq_false, not_false_eq_true, false_imp_iff, true_imp_iff, imp_self, gPv_n, gPv_i, gPv_r, gPv_0, Option.toList_some, Option.toList_none, List.singleton_append, List.cons_append, List.nil_append, List.length_nil, List.length_cons, Nat.zero_le, Nat.reduceAdd, Nat.reduceLeDiff, or_true, true_or, false_or, or_false, and_self, and_false, false_and, implies_true, Option.some.injEq, exists_eq_left', nL, nI_add, nI_mul, nI_clamp, nI_ltI, nI_leI, nI_eq, nI_pos, nI_pos', Nat.reduceAdd, Nat.reduceMul, Nat.reducePow, sk_0 hvT, sr_0_0 hvT, sr_0_1 hvT, sr_0_2 hvT, sr_0_4 hvT, sr_0_7 hvT, sr_0_9 hvT, sr_0_10 hvT, sr_0_11 hvT, sr_0_12 hvT, sr_0_13 hvT, sr_0_14 hvT, sk_25 hvT, sr_25_0 hvT, sr_25_1 hvT, sr_25_2 hvT, sr_25_3 hvT, sr_25_4 hvT, sr_25_5 hvT]
    refine s_rowsByDoor (d := 993) hcv hcT haT ?_
    intro τ1 hS1 hcT1 haT1 hr1
    have hvT1 := hcT1.1
    have hr' : ∀ j, j < 12 → gI τ1 (gB G + 29) j = nI (opn (gI σ (gB G + 56)) (gI σ (gB G + 56) 249) j) := fun j hj => by rw [hS1.2.2.2.2.2.2.1 _ (by omega)]; exact hr j hj
    simp (disch := omega) only [e_139_29, n10, n01, Nat.lt_irrefl, Nat.not_lt_zero, ne_eq, Nat.add_zero, Nat.one_ne_zero, Nat.zero_ne_one, Nat.reduceEqDiff, bI_T, bI_F, bI_0, bI_1, bI_01, not_and_self, true_and, and_true, not_true_eq_false, not_false_eq_true, false_imp_iff, true_imp_iff, imp_self, gPv_n, gPv_i, gPv_r, gPv_0, Option.toList_some, Option.toList_none, List.singleton_append, List.cons_append, List.nil_append, List.length_nil, List.length_cons, Nat.zero_le, Nat.reduceAdd, Nat.reduceLeDiff, or_true, true_or, false_or, or_false, and_self, and_false, false_and, implies_true, Option.some.injEq, exists_eq_left', nL, nI_add, nI_mul, nI_clamp, nI_ltI, nI_leI, nI_eq, nI_pos, nI_pos', Nat.reduceAdd, Nat.reduceMul, Nat.reducePow, sk_0 hvT1, sr_0_0 hvT1, sr_0_1 hvT1, sr_0_2 hvT1, sr_0_4 hvT1, sr_0_7 hvT1, sr_0_9 hvT1, sr_0_10 hvT1, sr_0_11 hvT1, sr_0_12 hvT1, sr_0_13 hvT1, sr_0_14 hvT1, sk_37 hvT1, sr_37_0 hvT1, sr_37_1 hvT1, sr_37_2 hvT1, sr_37_3 hvT1, sr_37_5 hvT1]
    refine s_search (d := 992) hcv h3 hcT1 haT1 hr' hr1 ?_
    intro τ2 hS2 haT2 hf
    have hvT2 : IvS (gB G) τ2 := fr_IvS hS2.1 hS2.2.1 hS2.2.2.1 hvT1
    have hS02 : Sm (fun a => gB G + 25 ≤ a ∧ a < gB G + 50) σ τ2 := Sm_trans (Sm_trans (Sm_mono hS (fun a ha => by omega)) (Sm_mono hS1 (fun a ha => by omega))) (Sm_mono hS2 (fun a ha => by omega))
    have XT := MX_S hX hS02 (by omega)
    have mod : ∀ x : Int32, (∀ τ3, IvS (gB G) τ3 → DrR (gI σ (gB G + 56)) (gI τ3 (gB G + 54) 41) (gI τ3 (gB G + 54) 42) (gI τ3 (gB G + 74)) → Inv LSx CV MVx G τ3 (k + 1) → wp 999 pr_255 (fun r2 σ2 => r2 = some (.int x) ∧ Inv LSx CV MVx G σ2 (k + 1)) 15 [some (.ref (gB G + 54)), some (.int (nI y))] [] τ3) → (gSc (gb G) σ τ2 ∧ gK τ2 (gB G + 54) = 13) ∧ ∃ v : Int32, Value.int x = Value.int v ∧ wc 1000 255 [.ref (gB G + 54), .int (nI y)] τ2 (fun r2 σ2 => r2 = some (.int v) ∧ Inv LSx CV MVx G σ2 (k + 1)) := by
      intro x hx
      refine ⟨⟨gSc_S hS02 (by omega), sk_54 hvT2⟩, x, rfl, ?_⟩
      simp (disch := first | omega | (simp only [IvS_I, IvS_J, IvS_r]; assumption)) only [n10, n01, Nat.lt_irrefl, Nat.not_lt_zero, ne_eq, Nat.add_zero, Nat.one_ne_zero, Nat.zero_ne_one, Nat.reduceEqDiff, bI_T, bI_F, bI_0, bI_1, bI_01, not_and_self, true_and, and_true, not_true_eq_false, not_false_eq_true, false_imp_iff, true_imp_iff, imp_self, gPv_n, gPv_i, gPv_r, gPv_0, Option.toList_some, Option.toList_none, List.singleton_append, List.cons_append, List.nil_append, List.length_nil, List.length_cons, Nat.zero_le, Nat.reduceAdd, Nat.reduceLeDiff, or_true, true_or, false_or, or_false, and_self, and_false, false_and, implies_true, Option.some.injEq, exists_eq_left', nL, nI_add, nI_mul, nI_clamp, nI_ltI, nI_leI, nI_eq, nI_pos, nI_pos', Nat.reduceAdd, Nat.reduceMul, Nat.reducePow, c_255, e_255_0, e_255_1, e_255_2, e_255_3, e_255_6, e_255_9, e_255_10, e_255_11, e_255_12, sk_54 hvT2, sr_54_2 hvT2, sr_54_3 hvT2, sr_54_4 hvT2, sr_54_5 hvT2, sr_54_7 hvT2, sr_54_8 hvT2, sr_54_9 hvT2, sr_54_12 hvT2, sr_54_13 hvT2, sr_54_14 hvT2, sr_54_22 hvT2, sr_54_25 hvT2, sr_54_26 hvT2, sr_54_27 hvT2, sr_54_34 hvT2, sr_54_35 hvT2, sr_54_36 hvT2, sr_54_37 hvT2, sr_54_38 hvT2, sr_54_40 hvT2, sr_54_43 hvT2, sr_54_44 hvT2, sr_54_45 hvT2, sr_54_46 hvT2, sr_54_47 hvT2, t_lies, hy5]
      refine t_seeks (d := 929) XT w4 (Mc_S hm hS02 (fun a ha => by omega)) (by rw [hS02.2.2.2.2.2.2.1 _ (by omega)]; exact z30) (by rw [hS02.2.2.2.2.2.2.1 _ (by omega)]; exact z32) ?_
      intro τ3 hq hr3
      simp (disch := omega) only [n10, n01, Nat.lt_irrefl, Nat.not_lt_zero, ne_eq, Nat.add_zero, Nat.one_ne_zero, Nat.zero_ne_one, Nat.reduceEqDiff, bI_T, bI_F, bI_0, bI_1, bI_01, not_and_self, true_and, and_true, not_true_eq_false, not_false_eq_true, false_imp_iff, true_imp_iff, imp_self, gPv_n, gPv_i, gPv_r, gPv_0, Option.toList_some, Option.toList_none, List.singleton_append, List.cons_append, List.nil_append, List.length_nil, List.length_cons, Nat.zero_le, Nat.reduceAdd, Nat.reduceLeDiff, or_true, true_or, false_or, or_false, and_self, and_false, false_and, implies_true, Option.some.injEq, exists_eq_left', nL]
      exact hx τ3 (QM_X XT hq).1 hr3 (Inv_QM hk hI hm hS02 haT2 hq)
    by_cases y0 : y = 0
    · simp (disch := omega) only [e_139_32, e_139_33, e_139_36, e_139_37, e_139_40, e_139_43, n10, n01, Nat.lt_irrefl, Nat.not_lt_zero, ne_eq, Nat.add_zero, Nat.one_ne_zero, Nat.zero_ne_one, Nat.reduceEqDiff, bI_T, bI_F, bI_0, bI_1, bI_01, not_and_self, true_and, and_true, not_true_eq_false, not_false_eq_true, false_imp_iff, true_imp_iff, imp_self, gPv_n, gPv_i, gPv_r, gPv_0, Option.toList_some, Option.toList_none, List.singleton_append, List.cons_append, List.nil_append, List.length_nil, List.length_cons, Nat.zero_le, Nat.reduceAdd, Nat.reduceLeDiff, or_true, true_or, false_or, or_false, and_self, and_false, false_and, implies_true, Option.some.injEq, exists_eq_left', nL, nI_add, nI_mul, nI_clamp, nI_ltI, nI_leI, nI_eq, nI_pos, nI_pos', Nat.reduceAdd, Nat.reduceMul, Nat.reducePow, sk_0 hvT2, sr_0_0 hvT2, sr_0_1 hvT2, sr_0_2 hvT2, sr_0_4 hvT2, sr_0_7 hvT2, sr_0_9 hvT2, sr_0_10 hvT2, sr_0_11 hvT2, sr_0_12 hvT2, sr_0_13 hvT2, sr_0_14 hvT2, sk_37 hvT2, sr_37_0 hvT2, sr_37_1 hvT2, sr_37_2 hvT2, sr_37_3 hvT2, sr_37_5 hvT2, y0]
      subst y0
      refine mod _ ?_
      intro τ3 hv3 hr3 hI3
      obtain ⟨u1, u2, u3⟩ := DrR_u hf hr3
      simp (disch := omega) only [e_255_15, e_255_16, e_255_19, e_255_20, e_255_23, n10, n01, Nat.lt_irrefl, Nat.not_lt_zero, ne_eq, Nat.add_zero, Nat.one_ne_zero, Nat.zero_ne_one, Nat.reduceEqDiff, bI_T, bI_F, bI_0, bI_1, bI_01, not_and_self, true_and, and_true, not_true_eq_false, not_false_eq_true, false_imp_iff, true_imp_iff, imp_self, gPv_n, gPv_i, gPv_r, gPv_0, Option.toList_some, Option.toList_none, List.singleton_append, List.cons_append, List.nil_append, List.length_nil, List.length_cons, Nat.zero_le, Nat.reduceAdd, Nat.reduceLeDiff, or_true, true_or, false_or, or_false, and_self, and_false, false_and, implies_true, Option.some.injEq, exists_eq_left', nL, nI_add, nI_mul, nI_clamp, nI_ltI, nI_leI, nI_eq, nI_pos, nI_pos', Nat.reduceAdd, Nat.reduceMul, Nat.reducePow, sk_54 hv3, sr_54_2 hv3, sr_54_3 hv3, sr_54_4 hv3, sr_54_5 hv3, sr_54_7 hv3, sr_54_8 hv3, sr_54_9 hv3, sr_54_12 hv3, sr_54_13 hv3, sr_54_14 hv3, sr_54_22 hv3, sr_54_25 hv3, sr_54_26 hv3, sr_54_27 hv3, sr_54_34 hv3, sr_54_35 hv3, sr_54_36 hv3, sr_54_37 hv3, sr_54_38 hv3, sr_54_40 hv3, sr_54_43 hv3, sr_54_44 hv3, sr_54_45 hv3, sr_54_46 hv3, sr_54_47 hv3, u1]
      exact hI3
    · by_cases y5 : y = 5
      · simp (disch := omega) only [e_139_32, e_139_33, e_139_36, e_139_37, e_139_40, e_139_43, e_139_44, e_139_45, e_139_46, e_139_49, e_139_50, e_139_53, e_139_56, e_139_69, n10, n01, Nat.lt_irrefl, Nat.not_lt_zero, ne_eq, Nat.add_zero, Nat.one_ne_zero, Nat.zero_ne_one, Nat.reduceEqDiff, bI_T, bI_F, bI_0, bI_1, bI_01, not_and_self, true_and, and_true, not_true_eq_false, not_false_eq_true, false_imp_iff, true_imp_iff, imp_self, gPv_n, gPv_i, gPv_r, gPv_0, Option.toList_some, Option.toList_none, List.singleton_append, List.cons_append, List.nil_append, List.length_nil, List.length_cons, Nat.zero_le, Nat.reduceAdd, Nat.reduceLeDiff, or_true, true_or, false_or, or_false, and_self, and_false, false_and, implies_true, Option.some.injEq, exists_eq_left', nL, nI_add, nI_mul, nI_clamp, nI_ltI, nI_leI, nI_eq, nI_pos, nI_pos', Nat.reduceAdd, Nat.reduceMul, Nat.reducePow, sk_0 hvT2, sr_0_0 hvT2, sr_0_1 hvT2, sr_0_2 hvT2, sr_0_4 hvT2, sr_0_7 hvT2, sr_0_9 hvT2, sr_0_10 hvT2, sr_0_11 hvT2, sr_0_12 hvT2, sr_0_13 hvT2, sr_0_14 hvT2, sk_37 hvT2, sr_37_0 hvT2, sr_37_1 hvT2, sr_37_2 hvT2, sr_37_3 hvT2, sr_37_5 hvT2, y0, y5]
        subst y5
        refine mod _ ?_
        intro τ3 hv3 hr3 hI3
        obtain ⟨u1, u2, u3⟩ := DrR_u hf hr3
        simp (disch := omega) only [e_255_15, e_255_16, e_255_19, e_255_20, e_255_23, e_255_24, e_255_25, e_255_26, e_255_29, e_255_30, e_255_33, e_255_36, e_255_37, e_255_38, e_255_39, e_255_40, e_255_41, e_255_42, e_255_45, e_255_48, e_255_49, e_255_52, e_255_53, e_255_54, e_255_55, e_255_56, e_255_59, e_255_60, n10, n01, Nat.lt_irrefl, Nat.not_lt_zero, ne_eq, Nat.add_zero, Nat.one_ne_zero, Nat.zero_ne_one, Nat.reduceEqDiff, bI_T, bI_F, bI_0, bI_1, bI_01, not_and_self, true_and, and_true, not_true_eq_false, not_false_eq_true, false_imp_iff, true_imp_iff, imp_self, gPv_n, gPv_i, gPv_r, gPv_0, Option.toList_some, Option.toList_none, List.singleton_append, List.cons_append, List.nil_append, List.length_nil, List.length_cons, Nat.zero_le, Nat.reduceAdd, Nat.reduceLeDiff, or_true, true_or, false_or, or_false, and_self, and_false, false_and, implies_true, Option.some.injEq, exists_eq_left', nL, nI_add, nI_mul, nI_clamp, nI_ltI, nI_leI, nI_eq, nI_pos, nI_pos', Nat.reduceAdd, Nat.reduceMul, Nat.reducePow, sk_54 hv3, sr_54_2 hv3, sr_54_3 hv3, sr_54_4 hv3, sr_54_5 hv3, sr_54_7 hv3, sr_54_8 hv3, sr_54_9 hv3, sr_54_12 hv3, sr_54_13 hv3, sr_54_14 hv3, sr_54_22 hv3, sr_54_25 hv3, sr_54_26 hv3, sr_54_27 hv3, sr_54_34 hv3, sr_54_35 hv3, sr_54_36 hv3, sr_54_37 hv3, sr_54_38 hv3, sr_54_40 hv3, sr_54_43 hv3, sr_54_44 hv3, sr_54_45 hv3, sr_54_46 hv3, sr_54_47 hv3, u2, Nat.reduceEqDiff]
        exact hI3
      · obtain ⟨t, rfl⟩ : ∃ t, y = t + 1 := ⟨y - 1, by omega⟩
        have k41 := sk_41 hvT2
        have et : nI (t + 1) - nI 1 = nI t := by rw [nI_sub (by omega), Nat.add_sub_cancel]
        have y5' : ¬ t + 1 = 5 := y5
        have t4 : t < 4 := by omega
        have t4' : ¬ 4 ≤ t := by omega
        have hlt : ∀ k : Nat, k < 100 → -nI 1 < nI k := fun k hk => by
          rw [Int32.lt_iff_toInt_lt, nI_toInt (by omega)]
          have : (-nI 1).toInt = -1 := by decide
          omega
        have lk := hlt ((t + 1 + 1) / 2) (by omega)
        obtain ⟨_, _, u0⟩ := DrR_u hf hf
        rcases u0 with u0 | ⟨n, n2, u0, _⟩
        · simp (disch := omega) only [e_139_32, e_139_33, e_139_36, e_139_37, e_139_40, e_139_43, e_139_44, e_139_45, e_139_46, e_139_59, e_139_60, e_139_63, e_139_64, e_139_65, e_139_66, e_139_69, c_12, e_12_0, e_12_1, e_12_4, e_12_5, e_12_40, e_12_41, n10, n01, Nat.lt_irrefl, Nat.not_lt_zero, ne_eq, Nat.add_zero, Nat.one_ne_zero, Nat.zero_ne_one, Nat.reduceEqDiff, bI_T, bI_F, bI_0, bI_1, bI_01, not_and_self, true_and, and_true, not_true_eq_false, not_false_eq_true, false_imp_iff, true_imp_iff, imp_self, gPv_n, gPv_i, gPv_r, gPv_0, Option.toList_some, Option.toList_none, List.singleton_append, List.cons_append, List.nil_append, List.length_nil, List.length_cons, Nat.zero_le, Nat.reduceAdd, Nat.reduceLeDiff, or_true, true_or, false_or, or_false, and_self, and_false, false_and, implies_true, Option.some.injEq, exists_eq_left', nL, nI_add, nI_mul, nI_clamp, nI_ltI, nI_leI, nI_eq, nI_pos, nI_pos', Nat.reduceAdd, Nat.reduceMul, Nat.reducePow, sk_0 hvT2, sr_0_0 hvT2, sr_0_1 hvT2, sr_0_2 hvT2, sr_0_4 hvT2, sr_0_7 hvT2, sr_0_9 hvT2, sr_0_10 hvT2, sr_0_11 hvT2, sr_0_12 hvT2, sr_0_13 hvT2, sr_0_14 hvT2, sk_37 hvT2, sr_37_0 hvT2, sr_37_1 hvT2, sr_37_2 hvT2, sr_37_3 hvT2, sr_37_5 hvT2, sk_41 hvT2, sn_41 hvT2, y0, y5', et, u0]
          refine mod _ ?_
          intro τ3 hv3 hr3 hI3
          obtain ⟨u1, u2, u3⟩ := DrR_u hf hr3
          rw [u0] at u1
          simp (disch := omega) only [e_255_15, e_255_16, e_255_19, e_255_20, e_255_23, e_255_24, e_255_25, e_255_26, e_255_29, e_255_30, e_255_33, e_255_36, e_255_37, e_255_38, e_255_39, e_255_40, e_255_41, e_255_42, e_255_45, e_255_48, e_255_49, e_255_52, e_255_53, e_255_54, e_255_55, e_255_56, e_255_59, e_255_60, n10, n01, Nat.lt_irrefl, Nat.not_lt_zero, ne_eq, Nat.add_zero, Nat.one_ne_zero, Nat.zero_ne_one, Nat.reduceEqDiff, bI_T, bI_F, bI_0, bI_1, bI_01, not_and_self, true_and, and_true, not_true_eq_false, not_false_eq_true, false_imp_iff, true_imp_iff, imp_self, gPv_n, gPv_i, gPv_r, gPv_0, Option.toList_some, Option.toList_none, List.singleton_append, List.cons_append, List.nil_append, List.length_nil, List.length_cons, Nat.zero_le, Nat.reduceAdd, Nat.reduceLeDiff, or_true, true_or, false_or, or_false, and_self, and_false, false_and, implies_true, Option.some.injEq, exists_eq_left', nL, nI_add, nI_mul, nI_clamp, nI_ltI, nI_leI, nI_eq, nI_pos, nI_pos', Nat.reduceAdd, Nat.reduceMul, Nat.reducePow, sk_54 hv3, sr_54_2 hv3, sr_54_3 hv3, sr_54_4 hv3, sr_54_5 hv3, sr_54_7 hv3, sr_54_8 hv3, sr_54_9 hv3, sr_54_12 hv3, sr_54_13 hv3, sr_54_14 hv3, sr_54_22 hv3, sr_54_25 hv3, sr_54_26 hv3, sr_54_27 hv3, sr_54_34 hv3, sr_54_35 hv3, sr_54_36 hv3, sr_54_37 hv3, sr_54_38 hv3, sr_54_40 hv3, sr_54_43 hv3, sr_54_44 hv3, sr_54_45 hv3, sr_54_46 hv3, sr_54_47 hv3, u1, y0, y5', nI_div, lk]
          exact hI3
        · have nn1 : ¬ nI n = -nI 1 := fun z => ng_ne 1 n (by omega) (by omega) (by omega) z.symm
          by_cases ct : n * 2 ≤ t
          · have ct2 : n < (t + 1 + 1) / 2 := by omega
            simp (disch := omega) only [e_139_32, e_139_33, e_139_36, e_139_37, e_139_40, e_139_43, e_139_44, e_139_45, e_139_46, e_139_59, e_139_60, e_139_63, e_139_64, e_139_65, e_139_66, e_139_69, c_12, e_12_0, e_12_1, e_12_4, e_12_5, e_12_8, e_12_9, e_12_12, e_12_13, e_12_14, e_12_17, e_12_18, e_12_19, e_12_22, e_12_23, e_12_24, e_12_27, e_12_28, e_12_31, e_12_32, e_12_35, e_12_36, e_12_37, e_12_40, e_12_41, n10, n01, Nat.lt_irrefl, Nat.not_lt_zero, ne_eq, Nat.add_zero, Nat.one_ne_zero, Nat.zero_ne_one, Nat.reduceEqDiff, bI_T, bI_F, bI_0, bI_1, bI_01, not_and_self, true_and, and_true, not_true_eq_false, not_false_eq_true, false_imp_iff, true_imp_iff, imp_self, gPv_n, gPv_i, gPv_r, gPv_0, Option.toList_some, Option.toList_none, List.singleton_append, List.cons_append, List.nil_append, List.length_nil, List.length_cons, Nat.zero_le, Nat.reduceAdd, Nat.reduceLeDiff, or_true, true_or, false_or, or_false, and_self, and_false, false_and, implies_true, Option.some.injEq, exists_eq_left', nL, nI_add, nI_mul, nI_clamp, nI_ltI, nI_leI, nI_eq, nI_pos, nI_pos', Nat.reduceAdd, Nat.reduceMul, Nat.reducePow, sk_0 hvT2, sr_0_0 hvT2, sr_0_1 hvT2, sr_0_2 hvT2, sr_0_4 hvT2, sr_0_7 hvT2, sr_0_9 hvT2, sr_0_10 hvT2, sr_0_11 hvT2, sr_0_12 hvT2, sr_0_13 hvT2, sr_0_14 hvT2, sk_37 hvT2, sr_37_0 hvT2, sr_37_1 hvT2, sr_37_2 hvT2, sr_37_3 hvT2, sr_37_5 hvT2, sk_41 hvT2, sn_41 hvT2, y0, y5', et, u0, nn1, ct]
            refine mod _ ?_
            intro τ3 hv3 hr3 hI3
            obtain ⟨u1, u2, u3⟩ := DrR_u hf hr3
            rw [u0] at u1
            simp (disch := omega) only [e_255_15, e_255_16, e_255_19, e_255_20, e_255_23, e_255_24, e_255_25, e_255_26, e_255_29, e_255_30, e_255_33, e_255_36, e_255_37, e_255_38, e_255_39, e_255_40, e_255_41, e_255_42, e_255_45, e_255_48, e_255_49, e_255_52, e_255_53, e_255_54, e_255_55, e_255_56, e_255_59, e_255_60, n10, n01, Nat.lt_irrefl, Nat.not_lt_zero, ne_eq, Nat.add_zero, Nat.one_ne_zero, Nat.zero_ne_one, Nat.reduceEqDiff, bI_T, bI_F, bI_0, bI_1, bI_01, not_and_self, true_and, and_true, not_true_eq_false, not_false_eq_true, false_imp_iff, true_imp_iff, imp_self, gPv_n, gPv_i, gPv_r, gPv_0, Option.toList_some, Option.toList_none, List.singleton_append, List.cons_append, List.nil_append, List.length_nil, List.length_cons, Nat.zero_le, Nat.reduceAdd, Nat.reduceLeDiff, or_true, true_or, false_or, or_false, and_self, and_false, false_and, implies_true, Option.some.injEq, exists_eq_left', nL, nI_add, nI_mul, nI_clamp, nI_ltI, nI_leI, nI_eq, nI_pos, nI_pos', Nat.reduceAdd, Nat.reduceMul, Nat.reducePow, sk_54 hv3, sr_54_2 hv3, sr_54_3 hv3, sr_54_4 hv3, sr_54_5 hv3, sr_54_7 hv3, sr_54_8 hv3, sr_54_9 hv3, sr_54_12 hv3, sr_54_13 hv3, sr_54_14 hv3, sr_54_22 hv3, sr_54_25 hv3, sr_54_26 hv3, sr_54_27 hv3, sr_54_34 hv3, sr_54_35 hv3, sr_54_36 hv3, sr_54_37 hv3, sr_54_38 hv3, sr_54_40 hv3, sr_54_43 hv3, sr_54_44 hv3, sr_54_45 hv3, sr_54_46 hv3, sr_54_47 hv3, u1, y0, y5', nI_div, ct2]
            exact hI3
          · have ct2 : ¬ n < (t + 1 + 1) / 2 := by omega
            simp (disch := omega) only [e_139_32, e_139_33, e_139_36, e_139_37, e_139_40, e_139_43, e_139_44, e_139_45, e_139_46, e_139_59, e_139_60, e_139_63, e_139_64, e_139_65, e_139_66, e_139_69, c_12, e_12_0, e_12_1, e_12_4, e_12_5, e_12_8, e_12_9, e_12_12, e_12_13, e_12_14, e_12_17, e_12_18, e_12_19, e_12_22, e_12_23, e_12_24, e_12_27, e_12_28, e_12_31, e_12_32, e_12_35, e_12_36, e_12_37, e_12_40, e_12_41, n10, n01, Nat.lt_irrefl, Nat.not_lt_zero, ne_eq, Nat.add_zero, Nat.one_ne_zero, Nat.zero_ne_one, Nat.reduceEqDiff, bI_T, bI_F, bI_0, bI_1, bI_01, not_and_self, true_and, and_true, not_true_eq_false, not_false_eq_true, false_imp_iff, true_imp_iff, imp_self, gPv_n, gPv_i, gPv_r, gPv_0, Option.toList_some, Option.toList_none, List.singleton_append, List.cons_append, List.nil_append, List.length_nil, List.length_cons, Nat.zero_le, Nat.reduceAdd, Nat.reduceLeDiff, or_true, true_or, false_or, or_false, and_self, and_false, false_and, implies_true, Option.some.injEq, exists_eq_left', nL, nI_add, nI_mul, nI_clamp, nI_ltI, nI_leI, nI_eq, nI_pos, nI_pos', Nat.reduceAdd, Nat.reduceMul, Nat.reducePow, sk_0 hvT2, sr_0_0 hvT2, sr_0_1 hvT2, sr_0_2 hvT2, sr_0_4 hvT2, sr_0_7 hvT2, sr_0_9 hvT2, sr_0_10 hvT2, sr_0_11 hvT2, sr_0_12 hvT2, sr_0_13 hvT2, sr_0_14 hvT2, sk_37 hvT2, sr_37_0 hvT2, sr_37_1 hvT2, sr_37_2 hvT2, sr_37_3 hvT2, sr_37_5 hvT2, sk_41 hvT2, sn_41 hvT2, nI_of_len, y0, y5', et, u0, nn1, ct, t4, t4']
            refine mod _ ?_
            intro τ3 hv3 hr3 hI3
            obtain ⟨u1, u2, u3⟩ := DrR_u hf hr3
            rw [u0] at u1 u3
            have e74 : gI τ3 (gB G + 74) t = gI τ2 (gB G + 41) t := by
              rcases u3 with u3 | ⟨n', _, u3, u4⟩
              · exact absurd u3 nn1
              · have := (nI_eq (by omega) (by omega)).mp u3
                exact u4 t (by omega)
            simp (disch := omega) only [e_255_15, e_255_16, e_255_19, e_255_20, e_255_23, e_255_24, e_255_25, e_255_26, e_255_29, e_255_30, e_255_33, e_255_36, e_255_37, e_255_38, e_255_39, e_255_40, e_255_41, e_255_42, e_255_45, e_255_48, e_255_49, e_255_52, e_255_53, e_255_54, e_255_55, e_255_56, e_255_59, e_255_60, n10, n01, Nat.lt_irrefl, Nat.not_lt_zero, ne_eq, Nat.add_zero, Nat.one_ne_zero, Nat.zero_ne_one, Nat.reduceEqDiff, bI_T, bI_F, bI_0, bI_1, bI_01, not_and_self, true_and, and_true, not_true_eq_false, not_false_eq_true, false_imp_iff, true_imp_iff, imp_self, gPv_n, gPv_i, gPv_r, gPv_0, Option.toList_some, Option.toList_none, List.singleton_append, List.cons_append, List.nil_append, List.length_nil, List.length_cons, Nat.zero_le, Nat.reduceAdd, Nat.reduceLeDiff, or_true, true_or, false_or, or_false, and_self, and_false, false_and, implies_true, Option.some.injEq, exists_eq_left', nL, nI_add, nI_mul, nI_clamp, nI_ltI, nI_leI, nI_eq, nI_pos, nI_pos', Nat.reduceAdd, Nat.reduceMul, Nat.reducePow, sk_54 hv3, sr_54_2 hv3, sr_54_3 hv3, sr_54_4 hv3, sr_54_5 hv3, sr_54_7 hv3, sr_54_8 hv3, sr_54_9 hv3, sr_54_12 hv3, sr_54_13 hv3, sr_54_14 hv3, sr_54_22 hv3, sr_54_25 hv3, sr_54_26 hv3, sr_54_27 hv3, sr_54_34 hv3, sr_54_35 hv3, sr_54_36 hv3, sr_54_37 hv3, sr_54_38 hv3, sr_54_40 hv3, sr_54_43 hv3, sr_54_44 hv3, sr_54_45 hv3, sr_54_46 hv3, sr_54_47 hv3, sk_74 hv3, sn_74 hv3, u1, y0, y5', nI_div, ct2, et, t4, e74]
            exact hI3
  · simp (disch := first | omega | (simp only [IvS_I, IvS_J, IvS_r]; assumption)) only [List.map_cons, List.map_nil, Value.int.injEq, gSc_r, gSc_I, n10, n01, Nat.lt_irrefl, Nat.not_lt_zero, ne_eq, Nat.add_zero, Nat.one_ne_zero, Nat.zero_ne_one, Nat.reduceEqDiff, bI_T, bI_F, bI_0, bI_1, bI_01, not_and_self, true_and, and_true, not_true_eq_false, not_false_eq_true, false_imp_iff, true_imp_iff, imp_self, gPv_n, gPv_i, gPv_r, gPv_0, Option.toList_some, Option.toList_none, List.singleton_append, List.cons_append, List.nil_append, List.length_nil, List.length_cons, Nat.zero_le, Nat.reduceAdd, Nat.reduceLeDiff, or_true, true_or, false_or, or_false, and_self, and_false, false_and, implies_true, Option.some.injEq, exists_eq_left', nL, c_139, e_139_0, e_139_1, e_139_2, e_139_3, e_139_6, e_139_9, e_139_10, c_255, e_255_0, e_255_1, e_255_2, e_255_3, e_255_6, e_255_9, e_255_10, sk_0 hv, sr_0_0 hv, sr_0_1 hv, sr_0_2 hv, sr_0_4 hv, sr_0_7 hv, sr_0_9 hv, sr_0_10 hv, sr_0_11 hv, sr_0_12 hv, sr_0_13 hv, sr_0_14 hv, sk_54 hv, sr_54_2 hv, sr_54_3 hv, sr_54_4 hv, sr_54_5 hv, sr_54_7 hv, sr_54_8 hv, sr_54_9 hv, sr_54_12 hv, sr_54_13 hv, sr_54_14 hv, sr_54_22 hv, sr_54_25 hv, sr_54_26 hv, sr_54_27 hv, sr_54_34 hv, sr_54_35 hv, sr_54_36 hv, sr_54_37 hv, sr_54_38 hv, sr_54_40 hv, sr_54_43 hv, sr_54_44 hv, sr_54_45 hv, sr_54_46 hv, sr_54_47 hv, s_within, t_lies, h0]
    exact Inv_up hI
end
