/-! floods: the obligation -/
section
variable {CV : Nat → (Nat → Int32) → (Nat → Nat → Int32) → Prop} {G : gG} {σ : gS} {k : Nat}
theorem Inv_fl {σ2 : gS} {cc v : Nat} (hk : k < 512) (hI : Inv LSx CV MVx G σ k) (hSm : Sm (fun a => gB G ≤ a ∧ a < gB G + 80) σ σ2) (hr : ∀ o, 1 ≤ o → o < 61 → ¬ (25 ≤ o ∧ o < 54) → o ≠ 54 → gI σ2 (gB G + o) = gI σ (gB G + o)) (hB : ∀ j, j ≠ 8 → gI σ2 (gB G) j = gI σ (gB G) j) (h8 : gI σ2 (gB G) 8 = nI 0) (hCa : Ca CV (gB G) (gI σ (gB G + 56)) σ2 cc)
    (hf : ∀ j, j = 6 ∨ j = 10 ∨ j = 11 ∨ j = 30 ∨ j = 32 → gI σ2 (gB G + 54) j = gI σ (gB G + 54) j) (h0 : gI σ2 (gB G + 54) 0 = nI 0) (hv : gI σ (gB G + 54) 1 = nI v) (hvl : v < 1000000) (h1 : gI σ2 (gB G + 54) 1 = nI (v + 1)) (h28 : gI σ2 (gB G + 54) 28 = -nI 1 ∨ ∃ a, gI σ2 (gB G + 54) 28 = nI a ∧ a ≤ v) (hI8 : I8 (gB G) σ2) : Inv LSx CV MVx G σ2 (k + 1) := by
  obtain ⟨own, i1, i2, i3, i4, i5, i6, i7, i8, i9, i10, i11⟩ := hI
  have hS' := hSm
  obtain ⟨s1, s2, s3, s4, s5, s6, s7, s8⟩ := hS'
  have hl : ∀ a, own a ≠ 0 → gI σ2 a = gI σ a := fun a ha => s7 a (by have := i2.1 a ha; omega)
  have e56 := hr 56 (by omega) (by omega) (by omega) (by omega)
  have e17 := hr 1 (by omega) (by omega) (by omega) (by omega)
  obtain ⟨⟨c, c1, c2, c3⟩, v', v1, v2, v3⟩ := i3
  have hvv : v' = v := by
    rw [v1, nI_eq (by omega) (by omega)] at hv
    exact hv
  subst hvv
  refine ⟨own, fr_I1 (Sm_mono hSm (fun a ha => ha.1)) i1, fr_I2 s1 s2 s3 s4 s5 i2, ?_, ?_, fr_I5 s1 s2 s3 (hr 57 (by omega) (by omega) (by omega) (by omega)) (hr 58 (by omega) (by omega) (by omega) (by omega)) (fun a ha _ => hl a ha) i5, ?_, ?_, hI8, ?_, ?_, ?_⟩
  · refine ⟨⟨c, by rw [e17]; exact c1, by omega, ?_⟩, v' + 1, h1, by omega, ?_⟩
    · have ec : cc = c := by
        have := hCa.1
        rw [e17, c1] at this
        have := hCa.2.1
        rw [nI_eq (by omega) (by omega)] at *
        omega
      intro i hi
      have h3 := (hCa.2.2 i hi).1
      rw [ec] at h3
      exact h3
    · rcases h28 with h28 | ⟨a, h28, ha⟩
      · exact Or.inl h28
      · exact Or.inr ⟨a, h28, by omega⟩
  · rw [e56]
    refine fr_I4 s1 s2 s3 ?_ (fun a ha => hl a (by omega)) i4
    intro o ho
    rw [Nat.add_assoc]
    exact hr (1 + o) (by omega) (by omega) (by omega) (by omega)
  · obtain ⟨q, q1, q2, q3, q4⟩ := i6
    exact ⟨q, q1, by rw [hB 3 (by omega)]; exact q2, by rw [hf 10 (by omega)]; exact q3, by rw [hr 19 (by omega) (by omega) (by omega) (by omega), hr 60 (by omega) (by omega) (by omega) (by omega)]; exact q4⟩
  · simp only [I7] at i7 ⊢
    rw [hB 5 (by omega), hB 6 (by omega), h8, h0, hf 11 (by omega), hf 6 (by omega), hr 24 (by omega) (by omega) (by omega) (by omega), hr 55 (by omega) (by omega) (by omega) (by omega)]
    exact ⟨i7.1, i7.2.1, rfl, i7.2.2.2⟩
  · intro c' hc' z
    rw [hCa.1] at z
    have := (hCa.2.2 c' hc').2 z
    rw [e56]
    exact this
  · intro z
    exfalso
    rw [h1] at z
    rcases h28 with h28 | ⟨a, h28, ha⟩
    · rw [h28] at z
      exact ng_ne 1 (v' + 1) (by omega) (by omega) (by omega) z
    · rw [h28, nI_eq (by omega) (by omega)] at z
      omega
  · obtain ⟨z1, z2, z3, z4⟩ := i11
    exact ⟨(hf 30 (by omega)).trans z1, (hf 32 (by omega)).trans z2, by rw [hr 59 (by omega) (by omega) (by omega) (by omega)]; exact z3, fr_I12 s1 s6 z4⟩
set_option maxHeartbeats 1000000 in
theorem ob_flood (hcv : CVl CV) : gOb (Inv LSx CV MVx G) (gb G) (gB G) (gB G + 54) 149 271 2 := by
  intro σ k as hl hk hI
  obtain ⟨p0, p1, rfl⟩ := len2 hl
  have hv := Inv_Sh hI
  have hb := Inv_b hI
  obtain ⟨own, cc, v, hc, ha, hX, hm⟩ := Inv_ctx hI hk
  obtain ⟨z30, z32⟩ := Inv_30 hI
  have w1 := hX.2.2.1
  have w3 := hc.2.1.1.2.2.1
  by_cases h0 : nI 0 ≤ p0 ∧ p0 ≤ nI 1000000
  · by_cases h1 : nI 1 ≤ p1 ∧ p1 ≤ nI 40
    · obtain ⟨seed, hs, rfl⟩ := in_nI (by omega) h0
      have h1' : nI 0 ≤ p1 ∧ p1 ≤ nI 40 := by
        refine ⟨?_, h1.2⟩
        have := h1.1
        rw [Int32.le_iff_toInt_le, nI_toInt (by omega)] at this ⊢
        omega
      obtain ⟨n, hn40, rfl⟩ := in_nI (by omega) h1'
      have hn1 : 1 ≤ n := by
        have := h1.1
        rw [nI_leI (by omega) (by omega)] at this
        exact this
      simp (disch := first | omega | (simp only [IvS_I, IvS_J, IvS_r]; assumption)) only [List.map_cons, List.map_nil, Value.int.injEq, gSc_r, gSc_I, n10, n01, Nat.lt_irrefl, Nat.not_lt_zero, ne_eq, Nat.add_zero, Nat.one_ne_zero, Nat.zero_ne_one, Nat.reduceEqDiff, bI_T, bI_F, bI_0, bI_1, bI_01, not_and_self, true_and, and_true, not_true_eq_false, not_false_eq_true, false_imp_iff, true_imp_iff, imp_self, gPv_n, gPv_i, gPv_r, gPv_0, Option.toList_some, Option.toList_none, List.singleton_append, List.cons_append, List.nil_append, List.length_nil, List.length_cons, Nat.zero_le, Nat.reduceAdd, Nat.reduceLeDiff, or_true, true_or, false_or, or_false, and_self, and_false, false_and, implies_true, Option.some.injEq, exists_eq_left', nL, nI_add, nI_mul, nI_clamp, nI_ltI, nI_leI, nI_eq, nI_pos, nI_pos', Nat.reduceAdd, Nat.reduceMul, Nat.reducePow, c_149, e_149_0, e_149_1, e_149_2, e_149_5, e_149_8, e_149_11, e_149_12, e_149_13, e_149_15, e_149_18, e_149_21, e_149_22, e_149_23, e_149_26, e_149_27, e_149_28, e_149_29, e_149_32, e_149_33, e_149_34, sk_0 hv, sr_0_0 hv, sr_0_1 hv, sr_0_2 hv, sr_0_4 hv, sr_0_7 hv, sr_0_9 hv, sr_0_10 hv, sr_0_11 hv, sr_0_12 hv, sr_0_13 hv, sr_0_14 hv, sk_50 hv, sr_50_0 hv, sr_50_1 hv, sr_50_2 hv, sr_50_3 hv, sr_50_4 hv, sr_50_5 hv, s_within, hs, hn1, hn40]
      refine s_rise (d := 992) hc hs hn40 ?_
      intro τ dl hF
      obtain ⟨hS, f6, f7, fR, _⟩ := hF
      have hcT := Ctx_F hc hS
      have hvT := hcT.1
      have haT := Ca_P hcv ha hS (fun a ha => by omega)
      simp (disch := first | omega | (simp only [IvS_I, IvS_J, IvS_r]; assumption)) only [n10, n01, Nat.lt_irrefl, Nat.not_lt_zero, ne_eq, Nat.add_zero, Nat.one_ne_zero, Nat.zero_ne_one, Nat.reduceEqDiff, bI_T, bI_F, bI_0, bI_1, bI_01, not_and_self, true_and, and_true, not_true_eq_false, not_false_eq_true, false_imp_iff, true_imp_iff, imp_self, gPv_n, gPv_i, gPv_r, gPv_0, Option.toList_some, Option.toList_none, List.singleton_append, List.cons_append, List.nil_append, List.length_nil, List.length_cons, Nat.zero_le, Nat.reduceAdd, Nat.reduceLeDiff, or_true, true_or, false_or, or_false, and_self, and_false, false_and, implies_true, Option.some.injEq, exists_eq_left', nL, nI_add, nI_mul, nI_clamp, nI_ltI, nI_leI, nI_eq, nI_pos, nI_pos', Nat.reduceAdd, Nat.reduceMul, Nat.reducePow, e_149_37, e_149_40, sk_0 hvT, sr_0_0 hvT, sr_0_1 hvT, sr_0_2 hvT, sr_0_4 hvT, sr_0_7 hvT, sr_0_9 hvT, sr_0_10 hvT, sr_0_11 hvT, sr_0_12 hvT, sr_0_13 hvT, sr_0_14 hvT, s_accept]
      have hS1 : Sm (fun a => FP (gB G) a ∨ a = gB G) σ (sI τ (gB G) 8 (nI 0)) := Sm_I (Sm_mono hS (fun a ha => Or.inl ha)) (Or.inr rfl)
      have hvT1 : IvS (gB G) (sI τ (gB G) 8 (nI 0)) := IvS_I.mpr hvT
      have XT : MX (gB G) (sI τ (gB G) 8 (nI 0)) (gI σ (gB G + 56)) := MX_S hX hS1 (by omega)
      have e54 : gI (sI τ (gB G) 8 (nI 0)) (gB G + 54) = gI σ (gB G + 54) := hS1.2.2.2.2.2.2.1 _ (by omega)
      have eo : ∀ o, 54 ≤ o → gI (sI τ (gB G) 8 (nI 0)) (gB G + o) = gI σ (gB G + o) := fun o ho => hS1.2.2.2.2.2.2.1 _ (by omega)
      refine ⟨⟨gSc_S hS1 (by omega), sk_54 hvT1⟩, _, rfl, ?_⟩
      simp (disch := first | omega | (simp only [IvS_I, IvS_J, IvS_r]; assumption)) only [n10, n01, Nat.lt_irrefl, Nat.not_lt_zero, ne_eq, Nat.add_zero, Nat.one_ne_zero, Nat.zero_ne_one, Nat.reduceEqDiff, bI_T, bI_F, bI_0, bI_1, bI_01, not_and_self, true_and, and_true, not_true_eq_false, not_false_eq_true, false_imp_iff, true_imp_iff, imp_self, gPv_n, gPv_i, gPv_r, gPv_0, Option.toList_some, Option.toList_none, List.singleton_append, List.cons_append, List.nil_append, List.length_nil, List.length_cons, Nat.zero_le, Nat.reduceAdd, Nat.reduceLeDiff, or_true, true_or, false_or, or_false, and_self, and_false, false_and, implies_true, Option.some.injEq, exists_eq_left', n_K_I, n_K_J, n_K_R, n_K_r, n_N_I, n_N_J, n_N_R, n_N_r, n_R_I, n_R_J, n_R_r, n_J_I, n_J_R, n_J_r, n_I_J, n_I_R, n_n_I, n_n_J, n_n_R, n_n_r, n_w_I, n_w_J, n_w_R, n_w_r, n_T_I, n_T_J, n_T_R, n_T_r, rI_ne, rI_nk, rI_eq, rr_ne, rr_eq, n_J_J, n_R_R, Nat.add_left_cancel_iff, Nat.add_right_cancel_iff, Nat.add_eq_left, Nat.left_eq_add, Nat.reduceEqDiff, Nat.reduceAdd, Nat.zero_ne_one, Nat.one_ne_zero, false_and, and_false, true_and, and_true, and_self, if_false, if_true, ↓reduceIte, nL, nI_add, nI_mul, nI_clamp, nI_ltI, nI_leI, nI_eq, nI_pos, nI_pos', Nat.reduceAdd, Nat.reduceMul, Nat.reducePow, c_271, e_271_0, e_271_1, e_271_2, e_271_4, e_271_7, e_271_10, e_271_11, e_271_12, e_271_14, e_271_17, e_271_20, e_271_21, e_271_22, e_271_25, e_271_26, e_271_27, e_271_28, e_271_31, e_271_32, e_271_33, e_271_36, e_271_37, e_271_38, e_271_39, sk_54 hvT1, sr_54_2 hvT1, sr_54_3 hvT1, sr_54_4 hvT1, sr_54_5 hvT1, sr_54_7 hvT1, sr_54_8 hvT1, sr_54_9 hvT1, sr_54_12 hvT1, sr_54_13 hvT1, sr_54_14 hvT1, sr_54_22 hvT1, sr_54_25 hvT1, sr_54_26 hvT1, sr_54_27 hvT1, sr_54_34 hvT1, sr_54_35 hvT1, sr_54_36 hvT1, sr_54_37 hvT1, sr_54_38 hvT1, sr_54_40 hvT1, sr_54_43 hvT1, sr_54_44 hvT1, sr_54_45 hvT1, sr_54_46 hvT1, sr_54_47 hvT1, sk_54 hvT, sr_54_2 hvT, sr_54_3 hvT, sr_54_4 hvT, sr_54_5 hvT, sr_54_7 hvT, sr_54_8 hvT, sr_54_9 hvT, sr_54_12 hvT, sr_54_13 hvT, sr_54_14 hvT, sr_54_22 hvT, sr_54_25 hvT, sr_54_26 hvT, sr_54_27 hvT, sr_54_34 hvT, sr_54_35 hvT, sr_54_36 hvT, sr_54_37 hvT, sr_54_38 hvT, sr_54_40 hvT, sr_54_43 hvT, sr_54_44 hvT, sr_54_45 hvT, sr_54_46 hvT, sr_54_47 hvT, t_lies, hs, hn1, hn40]
      have Sm0 : Sm (fun a => a = gB G + 54) (sI τ (gB G) 8 (nI 0)) (sI (sI (sI τ (gB G) 8 (nI 0)) (gB G + 54) 49 (nI seed)) (gB G + 54) 48 (nI n)) := Sm_I (Sm_I (Sm_refl _ _) rfl) rfl
      have fk : ∀ j, j ≠ 48 → j ≠ 49 → gI (sI (sI (sI τ (gB G) 8 (nI 0)) (gB G + 54) 49 (nI seed)) (gB G + 54) 48 (nI n)) (gB G + 54) j = gI σ (gB G + 54) j := by
        intro j h1 h2
        rw [rI_nk h1, rI_nk h2, e54]
      have X0 := MX_S XT Sm0 (by omega)
      have M0 : Mc (gB G) (gI σ (gB G + 56)) (sI (sI (sI τ (gB G) 8 (nI 0)) (gB G + 54) 49 (nI seed)) (gB G + 54) 48 (nI n)) v := by
        simp only [Mc, fk 1 (by omega) (by omega), fk 28 (by omega) (by omega), fk 29 (by omega) (by omega)]
        have q : ∀ o, 55 ≤ o → gI (sI (sI (sI τ (gB G) 8 (nI 0)) (gB G + 54) 49 (nI seed)) (gB G + 54) 48 (nI n)) (gB G + o) = gI σ (gB G + o) := by
          intro o ho
          rw [rI_ne (by omega), rI_ne (by omega)]
          exact eo o (by omega)
        rw [q 66 (by omega), q 67 (by omega), q 68 (by omega)]
        exact hm
      refine t_flL (d := 931) (v := v) X0 w3 (by rw [fk 30 (by omega) (by omega)]; exact z30) (by rw [fk 32 (by omega) (by omega)]; exact z32) hs hn40 n 0 _ _ _ (by omega) ⟨Sm_refl _ _, fun _ _ => rfl, by rw [rI_eq], by rw [rI_nk (by omega), rI_eq]; rfl, M0, fun j hj => absurd hj (by omega)⟩ ?_
      intro τ2 x5 x6 hF2
      obtain ⟨g1, g2, g48, g49, gM, gR⟩ := hF2
      have hv2 := (MX_S X0 g1 (by omega)).1
      have g1v : gI τ2 (gB G + 54) 1 = nI v := by rw [g2 1 (by omega), fk 1 (by omega) (by omega)]; exact hm.1
      simp (disch := first | omega | (simp only [IvS_I, IvS_J, IvS_r]; assumption)) only [n10, n01, Nat.lt_irrefl, Nat.not_lt_zero, ne_eq, Nat.add_zero, Nat.one_ne_zero, Nat.zero_ne_one, Nat.reduceEqDiff, bI_T, bI_F, bI_0, bI_1, bI_01, not_and_self, true_and, and_true, not_true_eq_false, not_false_eq_true, false_imp_iff, true_imp_iff, imp_self, gPv_n, gPv_i, gPv_r, gPv_0, Option.toList_some, Option.toList_none, List.singleton_append, List.cons_append, List.nil_append, List.length_nil, List.length_cons, Nat.zero_le, Nat.reduceAdd, Nat.reduceLeDiff, or_true, true_or, false_or, or_false, and_self, and_false, false_and, implies_true, Option.some.injEq, exists_eq_left', nL, nI_add, nI_mul, nI_clamp, nI_ltI, nI_leI, nI_eq, nI_pos, nI_pos', Nat.reduceAdd, Nat.reduceMul, Nat.reducePow, e_271_158, e_271_159, e_271_160, e_271_163, sk_54 hv2, sr_54_2 hv2, sr_54_3 hv2, sr_54_4 hv2, sr_54_5 hv2, sr_54_7 hv2, sr_54_8 hv2, sr_54_9 hv2, sr_54_12 hv2, sr_54_13 hv2, sr_54_14 hv2, sr_54_22 hv2, sr_54_25 hv2, sr_54_26 hv2, sr_54_27 hv2, sr_54_34 hv2, sr_54_35 hv2, sr_54_36 hv2, sr_54_37 hv2, sr_54_38 hv2, sr_54_40 hv2, sr_54_43 hv2, sr_54_44 hv2, sr_54_45 hv2, sr_54_46 hv2, sr_54_47 hv2, t_good hv2, g1v]
      have E2 : ∀ o, o ≠ 54 → ¬ (65 ≤ o ∧ o ≤ 68) → o ≠ 73 → o ≠ 78 → o ≠ 79 → gI τ2 (gB G + o) = gI (sI τ (gB G) 8 (nI 0)) (gB G + o) := by
        intro o h1 h2 h3 h4 h5
        rw [g1.2.2.2.2.2.2.1 _ (by omega), rI_ne (by omega), rI_ne (by omega)]
      have EB : gI τ2 (gB G) = gI (sI τ (gB G) 8 (nI 0)) (gB G) := by
        rw [g1.2.2.2.2.2.2.1 _ (by omega), rI_ne (by omega), rI_ne (by omega)]
      have Sf : Sm (fun a => gB G ≤ a ∧ a < gB G + 80) σ (sI (sI τ2 (gB G + 54) 0 (nI 0)) (gB G + 54) 1 (nI (v + 1))) := by
        refine Sm_I (Sm_I (Sm_trans (Sm_mono hS1 ?_) (Sm_trans (Sm_mono Sm0 ?_) (Sm_mono g1 ?_))) ⟨by omega, by omega⟩) ⟨by omega, by omega⟩
        · intro a ha; rcases ha with ha | ha <;> omega
        · intro a ha; omega
        · intro a ha; omega
      have Cf : Ca CV (gB G) (gI σ (gB G + 56)) (sI (sI τ2 (gB G + 54) 0 (nI 0)) (gB G + 54) 1 (nI (v + 1))) cc := by
        refine Ca_G hcv haT ?_ ?_
        · rw [rI_ne (by omega), rI_ne (by omega), E2 1 (by omega) (by omega) (by omega) (by omega) (by omega), rI_ne (by omega)]
        · intro i hi
          have ci := cO_in i hi
          refine Or.inl ⟨?_, ?_⟩
          · rw [rI_ne (by omega), rI_ne (by omega), E2 (cO i) (by omega) (by omega) (by omega) (by omega) (by omega), rI_ne (by omega)]
          · intro o ho
            have := cR_lt i hi o ho
            rw [rI_ne (by omega), rI_ne (by omega), E2 (25 + o) (by omega) (by omega) (by omega) (by omega) (by omega), rI_ne (by omega)]
      refine Inv_fl hk hI Sf ?_ ?_ ?_ Cf ?_ ?_ hm.1 hm.2.1 ?_ ?_ ?_
      · intro o h1 h2 h3 h4
        rw [rI_ne (by omega), rI_ne (by omega), E2 o (by omega) (by omega) (by omega) (by omega) (by omega)]
        exact hS1.2.2.2.2.2.2.1 _ (by omega)
      · intro j hj
        rw [rI_ne (by omega), rI_ne (by omega), EB, rI_nk hj, hS.2.2.2.2.2.2.1 _ (by omega)]
      · rw [rI_ne (by omega), rI_ne (by omega), EB, rI_eq]
      · intro j hj
        rw [rI_nk (by omega), rI_nk (by omega), g2 j (by omega), fk j (by omega) (by omega)]
      · rw [rI_nk (by omega), rI_eq]
      · rw [rI_eq]
      · rw [rI_nk (by omega), rI_nk (by omega)]
        exact gM.2.2.1
      · refine ⟨n, hn40, ?_, ?_, ?_⟩
        · rw [rI_ne (by omega), rI_ne (by omega), E2 50 (by omega) (by omega) (by omega) (by omega) (by omega), rI_ne (by omega)]
          exact f6
        · rw [rI_nk (by omega), rI_nk (by omega)]
          exact g48
        · intro j hj
          have r5 : ∀ o, o = 52 ∨ o = 53 → gI (sI (sI τ2 (gB G + 54) 0 (nI 0)) (gB G + 54) 1 (nI (v + 1))) (gB G + o) = gI τ (gB G + o) := by
            intro o ho
            rw [rI_ne (by omega), rI_ne (by omega), E2 o (by omega) (by omega) (by omega) (by omega) (by omega), rI_ne (by omega)]
          have r7 : ∀ o, 55 ≤ o → gI (sI (sI τ2 (gB G + 54) 0 (nI 0)) (gB G + 54) 1 (nI (v + 1))) (gB G + o) = gI τ2 (gB G + o) := by
            intro o ho
            rw [rI_ne (by omega), rI_ne (by omega)]
          rw [r5 52 (by omega), r5 53 (by omega), r7 78 (by omega), r7 79 (by omega), (fR j hj).1, (fR j hj).2, (gR j hj).1, (gR j hj).2]
          exact ⟨rfl, rfl⟩
    · simp (disch := first | omega | (simp only [IvS_I, IvS_J, IvS_r]; assumption)) only [List.map_cons, List.map_nil, Value.int.injEq, gSc_r, gSc_I, n10, n01, Nat.lt_irrefl, Nat.not_lt_zero, ne_eq, Nat.add_zero, Nat.one_ne_zero, Nat.zero_ne_one, Nat.reduceEqDiff, bI_T, bI_F, bI_0, bI_1, bI_01, not_and_self, true_and, and_true, not_true_eq_false, not_false_eq_true, false_imp_iff, true_imp_iff, imp_self, gPv_n, gPv_i, gPv_r, gPv_0, Option.toList_some, Option.toList_none, List.singleton_append, List.cons_append, List.nil_append, List.length_nil, List.length_cons, Nat.zero_le, Nat.reduceAdd, Nat.reduceLeDiff, or_true, true_or, false_or, or_false, and_self, and_false, false_and, implies_true, Option.some.injEq, exists_eq_left', n_K_I, n_K_J, n_K_R, n_K_r, n_N_I, n_N_J, n_N_R, n_N_r, n_R_I, n_R_J, n_R_r, n_J_I, n_J_R, n_J_r, n_I_J, n_I_R, n_n_I, n_n_J, n_n_R, n_n_r, n_w_I, n_w_J, n_w_R, n_w_r, n_T_I, n_T_J, n_T_R, n_T_r, rI_ne, rI_nk, rI_eq, rr_ne, rr_eq, n_J_J, n_R_R, Nat.add_left_cancel_iff, Nat.add_right_cancel_iff, Nat.add_eq_left, Nat.left_eq_add, Nat.reduceEqDiff, Nat.reduceAdd, Nat.zero_ne_one, Nat.one_ne_zero, false_and, and_false, true_and, and_true, and_self, if_false, if_true, ↓reduceIte, nL, c_149, e_149_0, e_149_1, e_149_2, e_149_5, e_149_8, e_149_11, e_149_12, e_149_13, e_149_15, e_149_18, e_149_21, e_149_22, e_149_23, e_149_26, c_271, e_271_0, e_271_1, e_271_2, e_271_4, e_271_7, e_271_10, e_271_11, e_271_12, e_271_14, e_271_17, e_271_20, e_271_21, e_271_22, e_271_25, sk_0 hv, sr_0_0 hv, sr_0_1 hv, sr_0_2 hv, sr_0_4 hv, sr_0_7 hv, sr_0_9 hv, sr_0_10 hv, sr_0_11 hv, sr_0_12 hv, sr_0_13 hv, sr_0_14 hv, sk_54 hv, sr_54_2 hv, sr_54_3 hv, sr_54_4 hv, sr_54_5 hv, sr_54_7 hv, sr_54_8 hv, sr_54_9 hv, sr_54_12 hv, sr_54_13 hv, sr_54_14 hv, sr_54_22 hv, sr_54_25 hv, sr_54_26 hv, sr_54_27 hv, sr_54_34 hv, sr_54_35 hv, sr_54_36 hv, sr_54_37 hv, sr_54_38 hv, sr_54_40 hv, sr_54_43 hv, sr_54_44 hv, sr_54_45 hv, sr_54_46 hv, sr_54_47 hv, s_within, t_lies, s_refuse_1, t_refuses_1, h0, h1]
      exact Inv_ref_1 hk hI
  · simp (disch := first | omega | (simp only [IvS_I, IvS_J, IvS_r]; assumption)) only [List.map_cons, List.map_nil, Value.int.injEq, gSc_r, gSc_I, n10, n01, Nat.lt_irrefl, Nat.not_lt_zero, ne_eq, Nat.add_zero, Nat.one_ne_zero, Nat.zero_ne_one, Nat.reduceEqDiff, bI_T, bI_F, bI_0, bI_1, bI_01, not_and_self, true_and, and_true, not_true_eq_false, not_false_eq_true, false_imp_iff, true_imp_iff, imp_self, gPv_n, gPv_i, gPv_r, gPv_0, Option.toList_some, Option.toList_none, List.singleton_append, List.cons_append, List.nil_append, List.length_nil, List.length_cons, Nat.zero_le, Nat.reduceAdd, Nat.reduceLeDiff, or_true, true_or, false_or, or_false, and_self, and_false, false_and, implies_true, Option.some.injEq, exists_eq_left', n_K_I, n_K_J, n_K_R, n_K_r, n_N_I, n_N_J, n_N_R, n_N_r, n_R_I, n_R_J, n_R_r, n_J_I, n_J_R, n_J_r, n_I_J, n_I_R, n_n_I, n_n_J, n_n_R, n_n_r, n_w_I, n_w_J, n_w_R, n_w_r, n_T_I, n_T_J, n_T_R, n_T_r, rI_ne, rI_nk, rI_eq, rr_ne, rr_eq, n_J_J, n_R_R, Nat.add_left_cancel_iff, Nat.add_right_cancel_iff, Nat.add_eq_left, Nat.left_eq_add, Nat.reduceEqDiff, Nat.reduceAdd, Nat.zero_ne_one, Nat.one_ne_zero, false_and, and_false, true_and, and_true, and_self, if_false, if_true, ↓reduceIte, nL, c_149, e_149_0, e_149_1, e_149_2, e_149_5, e_149_8, e_149_11, e_149_12, e_149_13, e_149_15, e_149_18, e_149_21, e_149_22, e_149_23, e_149_26, c_271, e_271_0, e_271_1, e_271_2, e_271_4, e_271_7, e_271_10, e_271_11, e_271_12, e_271_14, e_271_17, e_271_20, e_271_21, e_271_22, e_271_25, sk_0 hv, sr_0_0 hv, sr_0_1 hv, sr_0_2 hv, sr_0_4 hv, sr_0_7 hv, sr_0_9 hv, sr_0_10 hv, sr_0_11 hv, sr_0_12 hv, sr_0_13 hv, sr_0_14 hv, sk_54 hv, sr_54_2 hv, sr_54_3 hv, sr_54_4 hv, sr_54_5 hv, sr_54_7 hv, sr_54_8 hv, sr_54_9 hv, sr_54_12 hv, sr_54_13 hv, sr_54_14 hv, sr_54_22 hv, sr_54_25 hv, sr_54_26 hv, sr_54_27 hv, sr_54_34 hv, sr_54_35 hv, sr_54_36 hv, sr_54_37 hv, sr_54_38 hv, sr_54_40 hv, sr_54_43 hv, sr_54_44 hv, sr_54_45 hv, sr_54_46 hv, sr_54_47 hv, s_within, t_lies, s_refuse_1, t_refuses_1, h0]
    exact Inv_ref_1 hk hI
end
