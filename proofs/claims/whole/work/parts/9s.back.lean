/-! back -/
section
variable {CV : Nat → (Nat → Int32) → (Nat → Nat → Int32) → Prop} {G : gG} {σ τ : gS} {k : Nat}
theorem rT_8 : ∀ e ∈ rT, e.1 ≠ 8 ∧ e.1 ≠ 18 ∧ e.1 < 80 := by decide
theorem IvS_Sr {B : Nat} (hv : IvS B σ) (hS : Sr (B + 1) σ τ) : IvS B τ := by
  obtain ⟨h1, h2⟩ := hv
  refine ⟨fun o ho => by rw [hS.1, hS.2.1]; exact h1 o ho, fun e he => ?_⟩
  have := rT_8 e he
  rw [hS.2.2.1 _ (by omega)]
  exact h2 e he
theorem tw_1 {B : Nat} (hv : IvS B σ) : TwS (B + 1) σ ∧ TwF (B + 1) σ := by
  refine ⟨fun o ho => ?_, sr_1_0 hv, sr_1_1 hv, sr_1_2 hv, sr_1_3 hv, sr_1_4 hv, sr_1_7 hv, sr_1_9 hv, sr_1_14 hv, sr_1_15 hv, sr_1_16 hv, sr_9_0 hv, sr_9_1 hv, sr_12_0 hv, sr_12_1 hv, sr_15_0 hv, sr_15_1 hv⟩
  have := hv.1 (1 + o) (by omega)
  rw [← Nat.add_assoc] at this
  exact this
/-- behind back -/
theorem Inv_bk {own : Nat → Nat} (hk : k < 512) (i1 : I1 G σ k) (i2 : I2 (gB G) own σ k) (i3 : I3 (gB G) σ k) (i5 : I5 LSx (gB G) own σ) (i6 : I6 (gB G) σ) (i7 : I7 (gB G) σ) (i8 : I8 (gB G) σ) (i11 : I11 (gB G) σ)
    (hK : gK τ = gK σ) (hN : gN τ = gN σ) (hR : ∀ a, a ≠ gB G + 8 → gR τ a = gR σ a) (hn : gn τ = gn σ) (hw : gw τ = gw σ) (hT : gT τ = gT σ) (hI : ∀ a, a ≠ gB G → ¬ (gB G + 1 ≤ a ∧ a < gB G + 18) → a ≠ gB G + 54 → a ≠ gB G + 56 → gI τ a = gI σ a) (h0 : ∀ j, j ≠ 8 → gI τ (gB G) j = gI σ (gB G) j) (h08 : gI τ (gB G) 8 = nI 0) (h54 : ∀ j, j ≠ 0 → j ≠ 1 → gI τ (gB G + 54) j = gI σ (gB G + 54) j) (h540 : gI τ (gB G + 54) 0 = nI 0) (h541 : gI τ (gB G + 54) 1 = gI σ (gB G + 54) 1 + nI 1) (h17 : gI τ (gB G + 1) 17 = gI σ (gB G + 1) 17 + nI 1) (hv : IvS (gB G) τ)
    (h4 : I4 LSx own (gB G + 1) τ (gI τ (gB G + 56))) : Inv LSx CV MVx G τ (k + 1) := by
  have hb : gb G < gB G := i1.2.2.2.2.2.1
  have ol : ∀ a, own a ≠ 0 → gB G + 80 ≤ a := fun a ha => (i2.1 a ha).1
  have hl : ∀ a, own a ≠ 0 → gI τ a = gI σ a := fun a ha => hI a (by have := ol a ha; omega) (by have := ol a ha; omega) (by have := ol a ha; omega) (by have := ol a ha; omega)
  have rw' : ∀ o, 18 ≤ o → o < 80 → o ≠ 54 → o ≠ 56 → gI τ (gB G + o) = gI σ (gB G + o) := fun o h1 h2 h3 h4 => hI _ (by omega) (by omega) (by omega) (by omega)
  refine ⟨own, ?_, ?_, ?_, h4, ?_, ?_, ?_, ?_, ?_, ?_, ?_⟩
  · obtain ⟨w1, w2, w3, w4, w5, w6, w7, w8⟩ := i1
    exact ⟨hv, hT.trans w2, by rw [hK]; exact w3, by rw [hN]; exact w4, (hI _ (by omega) (by omega) (by omega) (by omega)).trans w5, w6, by rw [hn]; exact w7, by rw [hn]; omega⟩
  · obtain ⟨w1, l, s, w2, w3, w4, w5, w6, w7⟩ := i2
    exact ⟨by rw [hn]; exact w1, l, s, by rw [hR _ (by omega)]; exact w2, by rw [hK]; exact w3, by rw [hN]; exact w4, w5, w6, by rw [hw]; omega⟩
  · obtain ⟨⟨c, c1, c2, c3⟩, v, v1, v2, v3⟩ := i3
    refine ⟨⟨c + 1, by rw [h17, c1, nI_add], by omega, ?_⟩, v + 1, by rw [h541, v1, nI_add], by omega, ?_⟩
    · intro i hi
      have := cO_in i hi
      rw [rw' _ (by omega) (by omega) (by omega) (by omega)]
      rcases c3 i hi with z | ⟨a, z1, z2⟩
      · exact Or.inl z
      · exact Or.inr ⟨a, z1, by omega⟩
    · rw [h54 28 (by omega) (by omega)]
      rcases v3 with v3 | ⟨a, v3, v4⟩
      · exact Or.inl v3
      · exact Or.inr ⟨a, v3, by omega⟩
  · exact fr_I5x (fun _ _ => rfl) (fun a _ => by rw [hK]) (fun a _ => by rw [hN]) (fun a ha => hR a (by have := ol a ha; omega)) (hR _ (by omega)) (rw' 57 (by omega) (by omega) (by omega) (by omega)) (rw' 58 (by omega) (by omega) (by omega) (by omega)) (fun a ha _ => hl a ha) i5
  · obtain ⟨q, q1, q2, q3, q4⟩ := i6
    exact ⟨q, q1, by rw [h0 3 (by omega)]; exact q2, by rw [h54 10 (by omega) (by omega)]; exact q3, by rw [rw' 19 (by omega) (by omega) (by omega) (by omega), rw' 60 (by omega) (by omega) (by omega) (by omega)]; exact q4⟩
  · simp only [I7] at i7 ⊢
    rw [h0 5 (by omega), h0 6 (by omega), h08, h540, h54 11 (by omega) (by omega), h54 6 (by omega) (by omega), rw' 24 (by omega) (by omega) (by omega) (by omega), rw' 55 (by omega) (by omega) (by omega) (by omega)]
    exact ⟨i7.1, i7.2.1, rfl, i7.2.2.2⟩
  · obtain ⟨q, q1, q2, q3, q4⟩ := i8
    exact ⟨q, q1, by rw [rw' 50 (by omega) (by omega) (by omega) (by omega)]; exact q2, by rw [h54 48 (by omega) (by omega)]; exact q3, by rw [rw' 52 (by omega) (by omega) (by omega) (by omega), rw' 53 (by omega) (by omega) (by omega) (by omega), rw' 78 (by omega) (by omega) (by omega) (by omega), rw' 79 (by omega) (by omega) (by omega) (by omega)]; exact q4⟩
  · intro i hi z
    exfalso
    obtain ⟨⟨c, c1, c2, c3⟩, _⟩ := i3
    have := cO_in i hi
    rw [rw' _ (by omega) (by omega) (by omega) (by omega), h17, c1, nI_add] at z
    rcases c3 i hi with y | ⟨a, y1, y2⟩
    · rw [y] at z
      exact ng_ne 1 (c + 1) (by omega) (by omega) (by omega) z
    · rw [y1, nI_eq (by omega) (by omega)] at z
      omega
  · intro z
    exfalso
    obtain ⟨_, v, v1, v2, v3⟩ := i3
    rw [h54 28 (by omega) (by omega), h541, v1, nI_add] at z
    rcases v3 with v3 | ⟨a, v3, v4⟩
    · rw [v3] at z
      exact ng_ne 1 (v + 1) (by omega) (by omega) (by omega) z
    · rw [v3, nI_eq (by omega) (by omega)] at z
      omega
  · obtain ⟨z1, z2, z3, z4⟩ := i11
    exact ⟨by rw [h54 30 (by omega) (by omega)]; exact z1, by rw [h54 32 (by omega) (by omega)]; exact z2, by rw [rw' 59 (by omega) (by omega) (by omega) (by omega)]; exact z3, fr_I12 hK hT z4⟩
theorem law_K {own : Nat → Nat} {t : Nat} {A : Nat → Int32} (w : I4 LSx own t σ A) : ∀ i p, i < 6 → gR σ (t + 7) i = some p → gK σ p = 4 := by
  obtain ⟨_, _, c, c0⟩ := w
  intro i p hi hp
  by_cases z : i < an A 254
  · obtain ⟨p', w1, w2⟩ := c i z
    rw [hp] at w1
    have : p = p' := by simpa using w1
    rw [this]
    exact w2.2.1.1
  · have := c0 i (by omega) hi
    rw [hp] at this
    exact absurd this (by simp)
set_option maxHeartbeats 2000000 in
theorem ob_back : gOb (Inv LSx CV MVx G) (gb G) (gB G) (gB G + 54) 152 170 1 := by
  intro σ k as hl hk hI
  obtain ⟨p0, rfl⟩ := len1 hl
  have hv := Inv_Sh hI
  have hb := Inv_b hI
  by_cases h0 : nI 0 ≤ p0 ∧ p0 ≤ nI 1
  · obtain ⟨i, hi, rfl⟩ := in_nI (by omega) h0
    have i2' : i < 2 := by omega
    have k58 := sk_58 hv
    obtain ⟨own, i1, i2, i3, i4, i5, i6, i7, i8, i9, i10, i11⟩ := id hI
    rcases i5 i i2' with ⟨u1, u2⟩ | ⟨u1, t, u2, u3, u4, u5, u6⟩
    · have e20 : ∀ {d : Nat} {Q : Option Value → gS → Prop} {x0 x1 x2 : Option Value} {j : Int32} {st : List Value} {ρ : gS} (_ : gK ρ (gB G + 58) = 23), wp d pr_170 Q 20 [x0, x1, x2] (.int j :: .ref (gB G + 58) :: st) ρ ↔ (¬ j < 0 ∧ j.toNatClampNeg < gN ρ (gB G + 58)) ∧ wp d pr_170 Q 21 [x0, x1, x2] (.int (gI ρ (gB G + 58) j.toNatClampNeg) :: st) ρ := fun h => e_170_20 (Or.inr h)
      simp (disch := first | omega | (simp only [IvS_I, n_K_I]; assumption)) only [List.map_cons, List.map_nil, Value.int.injEq, gSc_r, gSc_I, n10, n01, Nat.lt_irrefl, Nat.not_lt_zero, ne_eq, Nat.add_zero, Nat.one_ne_zero, Nat.zero_ne_one, Nat.reduceEqDiff, bI_T, bI_F, bI_0, bI_1, bI_01, not_and_self, true_and, and_true, not_true_eq_false, not_false_eq_true, false_imp_iff, true_imp_iff, imp_self, gPv_n, gPv_i, gPv_r, gPv_0, Option.toList_some, Option.toList_none, List.singleton_append, List.cons_append, List.nil_append, List.length_nil, List.length_cons, Nat.zero_le, Nat.reduceAdd, Nat.reduceLeDiff, or_true, true_or, false_or, or_false, and_self, and_false, false_and, implies_true, Option.some.injEq, exists_eq_left', nL, nI_add, nI_mul, nI_clamp, nI_ltI, nI_leI, nI_eq, nI_pos, nI_pos', Nat.reduceAdd, Nat.reduceMul, Nat.reducePow, c_152, e_152_0, e_152_1, e_152_2, e_152_3, e_152_6, e_152_9, e_152_10, e_152_11, e_152_14, e_152_15, e_152_16, e_152_19, e_152_20, e_152_21, e_152_21n, e_152_24, e_152_25, e_152_27, e_152_30, c_170, e_170_0, e_170_1, e_170_2, e_170_3, e_170_6, e_170_9, e_170_10, e_170_11, e_170_14, e_170_15, e_170_16, e_170_19, e_170_21, e_170_24, e_170_25, e_170_27, e_170_30, e20, sk_0 hv, sr_0_0 hv, sr_0_1 hv, sr_0_2 hv, sr_0_4 hv, sr_0_7 hv, sr_0_9 hv, sr_0_10 hv, sr_0_11 hv, sr_0_12 hv, sr_0_13 hv, sr_0_14 hv, sk_18 hv, sn_18 hv, sk_54 hv, sr_54_2 hv, sr_54_3 hv, sr_54_4 hv, sr_54_5 hv, sr_54_7 hv, sr_54_8 hv, sr_54_9 hv, sr_54_12 hv, sr_54_13 hv, sr_54_14 hv, sr_54_22 hv, sr_54_25 hv, sr_54_26 hv, sr_54_27 hv, sr_54_34 hv, sr_54_35 hv, sr_54_36 hv, sr_54_37 hv, sr_54_38 hv, sr_54_40 hv, sr_54_43 hv, sr_54_44 hv, sr_54_45 hv, sr_54_46 hv, sr_54_47 hv, sk_58 hv, sn_58 hv, n_K_I, n_K_J, n_K_R, n_K_r, n_N_I, n_N_J, n_N_R, n_N_r, n_R_I, n_R_J, n_R_r, n_J_I, n_J_R, n_J_r, n_I_J, n_I_R, n_n_I, n_n_J, n_n_R, n_n_r, n_w_I, n_w_J, n_w_R, n_w_r, n_T_I, n_T_J, n_T_R, n_T_r, rI_ne, rI_nk, rI_eq, rr_ne, rr_eq, n_J_J, n_R_R, Nat.add_left_cancel_iff, Nat.add_right_cancel_iff, Nat.add_eq_left, Nat.left_eq_add, Nat.reduceEqDiff, Nat.reduceAdd, Nat.zero_ne_one, Nat.one_ne_zero, false_and, and_false, true_and, and_true, and_self, if_false, if_true, ↓reduceIte, s_within, t_lies, hi, i2', u1, u2, s_refuse_2, t_refuses_2, reduceCtorEq, forall_const]
      exact Inv_ref_2 hk hI
    · have e20 : ∀ {d : Nat} {Q : Option Value → gS → Prop} {x0 x1 x2 : Option Value} {j : Int32} {st : List Value} {ρ : gS} (_ : gK ρ (gB G + 58) = 23), wp d pr_170 Q 20 [x0, x1, x2] (.int j :: .ref (gB G + 58) :: st) ρ ↔ (¬ j < 0 ∧ j.toNatClampNeg < gN ρ (gB G + 58)) ∧ wp d pr_170 Q 21 [x0, x1, x2] (.int (gI ρ (gB G + 58) j.toNatClampNeg) :: st) ρ := fun h => e_170_20 (Or.inr h)
      have t80 : gB G + 80 ≤ t := (i2.1 t (by have := u5 0 (by omega); rw [Nat.add_zero] at this; omega)).1
      have a1 := u6.1.2.2.2.1
      have q1 := an_le a1.1 (by omega)
      have q2 := an_le a1.2.1 (by omega)
      have q3 := an_le a1.2.2.1 (by omega)
      have tp := u6.2.1.2.2.2.1
      obtain ⟨tw, twf⟩ := tw_1 hv
      simp (disch := first | omega | assumption) only [List.map_cons, List.map_nil, Value.int.injEq, gSc_r, gSc_I, n10, n01, Nat.lt_irrefl, Nat.not_lt_zero, ne_eq, Nat.add_zero, Nat.one_ne_zero, Nat.zero_ne_one, Nat.reduceEqDiff, bI_T, bI_F, bI_0, bI_1, bI_01, not_and_self, true_and, and_true, not_true_eq_false, not_false_eq_true, false_imp_iff, true_imp_iff, imp_self, gPv_n, gPv_i, gPv_r, gPv_0, Option.toList_some, Option.toList_none, List.singleton_append, List.cons_append, List.nil_append, List.length_nil, List.length_cons, Nat.zero_le, Nat.reduceAdd, Nat.reduceLeDiff, or_true, true_or, false_or, or_false, and_self, and_false, false_and, implies_true, Option.some.injEq, exists_eq_left', nL, nI_add, nI_mul, nI_clamp, nI_ltI, nI_leI, nI_eq, nI_pos, nI_pos', Nat.reduceAdd, Nat.reduceMul, Nat.reducePow, c_152, e_152_0, e_152_1, e_152_2, e_152_3, e_152_6, e_152_9, e_152_10, e_152_11, e_152_14, e_152_15, e_152_16, e_152_19, e_152_20, e_152_21, e_152_21n, e_152_31, e_152_32, e_152_35, e_152_36, e_152_39, e_152_40, e_152_41, sk_0 hv, sr_0_0 hv, sr_0_1 hv, sr_0_2 hv, sr_0_4 hv, sr_0_7 hv, sr_0_9 hv, sr_0_10 hv, sr_0_11 hv, sr_0_12 hv, sr_0_13 hv, sr_0_14 hv, sk_18 hv, sn_18 hv, s_within, hi, i2', u2, Option.some.injEq, forall_eq', reduceCtorEq, false_imp_iff, sk_1 hv]
      refine s_bl (d := 996) (t := gB G + 1) (m := t) tw twf u3 u4 (by omega) (tp.1.1.trans q1.2) q1.1 (tp.2.1.1.trans q2.2) q2.1 (tp.2.2.1.trans q3.2) q3.1 (law_K u6) ?_
      intro τ1 R1 b1 b2 b3 b4 b5 b6 b7
      have hv1 := IvS_Sr hv R1
      have k58' := sk_58 hv1
      have I41 : I4 LSx own (gB G + 1) τ1 (fun j => gI σ (gB G + 57) (5062 * i + j)) := I4_bl u6 R1 (fun a ha => by have := i2.1 a (by omega); omega) b1 b2 b4 b5 b6 b7
      have r57 : gI τ1 (gB G + 57) = gI σ (gB G + 57) := R1.2.2.2.2.2.2.1 _ (by omega)
      have r58 : gI τ1 (gB G + 58) i = nI 1 := by rw [R1.2.2.2.2.2.2.1 _ (by omega)]; exact u1
      simp (disch := first | omega | (simp only [IvS_I, IvS_J, IvS_r]; assumption)) only [e_152_44, e_152_45, e_152_46, e_152_49, n10, n01, Nat.lt_irrefl, Nat.not_lt_zero, ne_eq, Nat.add_zero, Nat.one_ne_zero, Nat.zero_ne_one, Nat.reduceEqDiff, bI_T, bI_F, bI_0, bI_1, bI_01, not_and_self, true_and, and_true, not_true_eq_false, not_false_eq_true, false_imp_iff, true_imp_iff, imp_self, gPv_n, gPv_i, gPv_r, gPv_0, Option.toList_some, Option.toList_none, List.singleton_append, List.cons_append, List.nil_append, List.length_nil, List.length_cons, Nat.zero_le, Nat.reduceAdd, Nat.reduceLeDiff, or_true, true_or, false_or, or_false, and_self, and_false, false_and, implies_true, Option.some.injEq, exists_eq_left', nL, nI_add, nI_mul, nI_clamp, nI_ltI, nI_leI, nI_eq, nI_pos, nI_pos', Nat.reduceAdd, Nat.reduceMul, Nat.reducePow, s_accept, sk_0 hv1, sr_0_0 hv1, sr_0_1 hv1, sr_0_2 hv1, sr_0_4 hv1, sr_0_7 hv1, sr_0_9 hv1, sr_0_10 hv1, sr_0_11 hv1, sr_0_12 hv1, sr_0_13 hv1, sr_0_14 hv1]
      have hv1' : IvS (gB G) (sI τ1 (gB G) 8 (nI 0)) := by simp only [IvS_I]; exact hv1
      have hK1 : gK (sI τ1 (gB G) 8 (nI 0)) (gB G + 58) = 23 := by simp only [n_K_I]; exact k58'
      refine ⟨⟨⟨by simp only [n_K_I]; rw [R1.1], by simp only [n_N_I]; rw [R1.2.1], by rw [rI_ne (by omega)]; exact R1.2.2.2.2.2.2.1 _ (by omega)⟩, by simp only [n_K_I]; exact sk_54 hv1⟩, _, rfl, ?_⟩
      have r58' : gI (sI τ1 (gB G) 8 (nI 0)) (gB G + 58) i = nI 1 := by rw [rI_ne (by omega)]; exact r58
      simp (disch := first | omega | assumption) only [List.map_cons, List.map_nil, Value.int.injEq, gSc_r, gSc_I, c_170, e_170_0, e_170_1, e_170_2, e_170_3, e_170_6, e_170_9, e_170_10, e_170_11, e_170_14, e_170_15, e_170_16, e_170_19, e_170_21, e_170_31, e_170_32, e20, n10, n01, Nat.lt_irrefl, Nat.not_lt_zero, ne_eq, Nat.add_zero, Nat.one_ne_zero, Nat.zero_ne_one, Nat.reduceEqDiff, bI_T, bI_F, bI_0, bI_1, bI_01, not_and_self, true_and, and_true, not_true_eq_false, not_false_eq_true, false_imp_iff, true_imp_iff, imp_self, gPv_n, gPv_i, gPv_r, gPv_0, Option.toList_some, Option.toList_none, List.singleton_append, List.cons_append, List.nil_append, List.length_nil, List.length_cons, Nat.zero_le, Nat.reduceAdd, Nat.reduceLeDiff, or_true, true_or, false_or, or_false, and_self, and_false, false_and, implies_true, Option.some.injEq, exists_eq_left', nL, nI_add, nI_mul, nI_clamp, nI_ltI, nI_leI, nI_eq, nI_pos, nI_pos', Nat.reduceAdd, Nat.reduceMul, Nat.reducePow, sk_54 hv1', sr_54_2 hv1', sr_54_3 hv1', sr_54_4 hv1', sr_54_5 hv1', sr_54_7 hv1', sr_54_8 hv1', sr_54_9 hv1', sr_54_12 hv1', sr_54_13 hv1', sr_54_14 hv1', sr_54_22 hv1', sr_54_25 hv1', sr_54_26 hv1', sr_54_27 hv1', sr_54_34 hv1', sr_54_35 hv1', sr_54_36 hv1', sr_54_37 hv1', sr_54_38 hv1', sr_54_40 hv1', sr_54_43 hv1', sr_54_44 hv1', sr_54_45 hv1', sr_54_46 hv1', sr_54_47 hv1', sk_58 hv1', sn_58 hv1', t_lies, hi, i2', r58']
      refine t_bk1 (k := i) hv1' i2' ?_ 5062 0 _ (by omega) (Sm_refl _ _) (fun j hj => absurd hj (by omega))
      intro τ2 x2 S2 c2
      have hv2 : IvS (gB G) τ2 := fr_IvS S2.1 S2.2.1 S2.2.2.1 hv1'
      simp (disch := first | omega | (simp only [IvS_I, IvS_J, IvS_r]; assumption)) only [e_170_64, e_170_65, e_170_66, e_170_69, n10, n01, Nat.lt_irrefl, Nat.not_lt_zero, ne_eq, Nat.add_zero, Nat.one_ne_zero, Nat.zero_ne_one, Nat.reduceEqDiff, bI_T, bI_F, bI_0, bI_1, bI_01, not_and_self, true_and, and_true, not_true_eq_false, not_false_eq_true, false_imp_iff, true_imp_iff, imp_self, gPv_n, gPv_i, gPv_r, gPv_0, Option.toList_some, Option.toList_none, List.singleton_append, List.cons_append, List.nil_append, List.length_nil, List.length_cons, Nat.zero_le, Nat.reduceAdd, Nat.reduceLeDiff, or_true, true_or, false_or, or_false, and_self, and_false, false_and, implies_true, Option.some.injEq, exists_eq_left', nL, nI_add, nI_mul, nI_clamp, nI_ltI, nI_leI, nI_eq, nI_pos, nI_pos', Nat.reduceAdd, Nat.reduceMul, Nat.reducePow, sk_54 hv2, sr_54_2 hv2, sr_54_3 hv2, sr_54_4 hv2, sr_54_5 hv2, sr_54_7 hv2, sr_54_8 hv2, sr_54_9 hv2, sr_54_12 hv2, sr_54_13 hv2, sr_54_14 hv2, sr_54_22 hv2, sr_54_25 hv2, sr_54_26 hv2, sr_54_27 hv2, sr_54_34 hv2, sr_54_35 hv2, sr_54_36 hv2, sr_54_37 hv2, sr_54_38 hv2, sr_54_40 hv2, sr_54_43 hv2, sr_54_44 hv2, sr_54_45 hv2, sr_54_46 hv2, sr_54_47 hv2, t_good]
      have g2 : ∀ a, a ≠ gB G + 56 → gI τ2 a = gI (sI τ1 (gB G) 8 (nI 0)) a := fun a ha => S2.2.2.2.2.2.2.1 a ha
      refine Inv_bk hk i1 i2 i3 i5 i6 i7 i8 i11 ?_ ?_ ?_ ?_ ?_ ?_ ?_ ?_ ?_ ?_ ?_ ?_ ?_ ?_ ?_
      · funext a; simp only [n_K_I]; rw [S2.1]; simp only [n_K_I]; rw [R1.1]
      · funext a; simp only [n_N_I]; rw [S2.2.1]; simp only [n_N_I]; rw [R1.2.1]
      · intro a ha; funext j; simp only [n_R_I]; rw [S2.2.2.1]; simp only [n_R_I]; rw [R1.2.2.1 a (by omega)]
      · simp only [n_n_I]; rw [S2.2.2.2.1]; simp only [n_n_I]; exact R1.2.2.2.1
      · simp only [n_w_I]; rw [S2.2.2.2.2.1]; simp only [n_w_I]; exact R1.2.2.2.2.1
      · simp only [n_T_I]; rw [S2.2.2.2.2.2.1]; simp only [n_T_I]; exact R1.2.2.2.2.2.1
      · intro a a0 a1 a2 a3
        rw [rI_ne (by omega), rI_ne (by omega), g2 a (by omega), rI_ne (by omega)]
        exact R1.2.2.2.2.2.2.1 a (by omega)
      · intro j hj
        rw [rI_ne (by omega), rI_ne (by omega), g2 _ (by omega), rI_nk hj, R1.2.2.2.2.2.2.1 _ (by omega)]
      · rw [rI_ne (by omega), rI_ne (by omega), g2 _ (by omega), rI_eq]
      · intro j h1 h2
        rw [rI_nk h2, rI_nk h1, g2 _ (by omega), rI_ne (by omega), R1.2.2.2.2.2.2.1 _ (by omega)]
      · rw [rI_nk (by omega), rI_eq]
      · rw [rI_eq, g2 _ (by omega), rI_ne (by omega), R1.2.2.2.2.2.2.1 _ (by omega)]
      · rw [rI_ne (by omega), rI_ne (by omega), g2 _ (by omega), rI_ne (by omega)]
        exact b3
      · simp only [IvS_I]; exact hv2
      · have fi : ∀ a, a ≠ gB G → a ≠ gB G + 54 → a ≠ gB G + 56 → gI (sI (sI τ2 (gB G + 54) 0 (nI 0)) (gB G + 54) 1 (gI τ2 (gB G + 54) 1 + nI 1)) a = gI τ1 a := fun a h1 h2 h3 => by
          rw [rI_ne h2, rI_ne h2, g2 a h3, rI_ne h1]
        refine I4_c (A := fun j => gI σ (gB G + 57) (5062 * i + j)) (fun j hj => ?_) (fr_I4 ?_ ?_ ?_ (fun o ho => fi _ (by omega) (by omega) (by omega)) (fun a ha => fi _ (by have := i2.1 a (by omega); omega) (by have := i2.1 a (by omega); omega) (by have := i2.1 a (by omega); omega)) I41)
        · rw [rI_ne (by omega), rI_ne (by omega), c2 j hj, rI_ne (by omega), r57]
        · funext a; simp only [n_K_I]; rw [S2.1]; simp only [n_K_I]
        · funext a; simp only [n_N_I]; rw [S2.2.1]; simp only [n_N_I]
        · funext a j; simp only [n_R_I]; rw [S2.2.2.1]; simp only [n_R_I]
  · simp (disch := first | omega | (simp only [IvS_I, IvS_J, IvS_r]; assumption)) only [List.map_cons, List.map_nil, Value.int.injEq, gSc_r, gSc_I, n10, n01, Nat.lt_irrefl, Nat.not_lt_zero, ne_eq, Nat.add_zero, Nat.one_ne_zero, Nat.zero_ne_one, Nat.reduceEqDiff, bI_T, bI_F, bI_0, bI_1, bI_01, not_and_self, true_and, and_true, not_true_eq_false, not_false_eq_true, false_imp_iff, true_imp_iff, imp_self, gPv_n, gPv_i, gPv_r, gPv_0, Option.toList_some, Option.toList_none, List.singleton_append, List.cons_append, List.nil_append, List.length_nil, List.length_cons, Nat.zero_le, Nat.reduceAdd, Nat.reduceLeDiff, or_true, true_or, false_or, or_false, and_self, and_false, false_and, implies_true, Option.some.injEq, exists_eq_left', nL, c_152, e_152_0, e_152_1, e_152_2, e_152_3, e_152_6, e_152_9, e_152_10, e_152_11, e_152_14, c_170, e_170_0, e_170_1, e_170_2, e_170_3, e_170_6, e_170_9, e_170_10, e_170_11, e_170_14, sk_0 hv, sr_0_0 hv, sr_0_1 hv, sr_0_2 hv, sr_0_4 hv, sr_0_7 hv, sr_0_9 hv, sr_0_10 hv, sr_0_11 hv, sr_0_12 hv, sr_0_13 hv, sr_0_14 hv, sk_54 hv, sr_54_2 hv, sr_54_3 hv, sr_54_4 hv, sr_54_5 hv, sr_54_7 hv, sr_54_8 hv, sr_54_9 hv, sr_54_12 hv, sr_54_13 hv, sr_54_14 hv, sr_54_22 hv, sr_54_25 hv, sr_54_26 hv, sr_54_27 hv, sr_54_34 hv, sr_54_35 hv, sr_54_36 hv, sr_54_37 hv, sr_54_38 hv, sr_54_40 hv, sr_54_43 hv, sr_54_44 hv, sr_54_45 hv, sr_54_46 hv, sr_54_47 hv, n_K_I, n_K_J, n_K_R, n_K_r, n_N_I, n_N_J, n_N_R, n_N_r, n_R_I, n_R_J, n_R_r, n_J_I, n_J_R, n_J_r, n_I_J, n_I_R, n_n_I, n_n_J, n_n_R, n_n_r, n_w_I, n_w_J, n_w_R, n_w_r, n_T_I, n_T_J, n_T_R, n_T_r, rI_ne, rI_nk, rI_eq, rr_ne, rr_eq, n_J_J, n_R_R, Nat.add_left_cancel_iff, Nat.add_right_cancel_iff, Nat.add_eq_left, Nat.left_eq_add, Nat.reduceEqDiff, Nat.reduceAdd, Nat.zero_ne_one, Nat.one_ne_zero, false_and, and_false, true_and, and_true, and_self, if_false, if_true, ↓reduceIte, s_within, t_lies, h0, s_refuse_1, t_refuses_1]
    exact Inv_ref_1 hk hI
end
