/-! the first obligations -/
theorem IvS_I {B a k : Nat} {σ : gS} {v : Int32} : IvS B (sI σ a k v) ↔ IvS B σ := by simp only [IvS, n_K_I, n_N_I, n_R_I]
theorem IvS_J {B a k : Nat} {σ : gS} {v : Int64} : IvS B (sJ σ a k v) ↔ IvS B σ := by simp only [IvS, n_K_J, n_N_J, n_R_J]
theorem IvS_r {B a : Nat} {σ : gS} {f : Nat → Int32} : IvS B (sIr σ a f) ↔ IvS B σ := by simp only [IvS, n_K_r, n_N_r, n_R_r]
theorem Sm_B {B o k : Nat} {σ τ : gS} {v : Int32} (h : Sm (fun a => B ≤ a ∧ a < B + 80) σ τ) (ho : o < 80) : Sm (fun a => B ≤ a ∧ a < B + 80) σ (sI τ (B + o) k v) := Sm_I h ⟨by omega, by omega⟩
theorem Sm_B0 {B k : Nat} {σ τ : gS} {v : Int32} (h : Sm (fun a => B ≤ a ∧ a < B + 80) σ τ) : Sm (fun a => B ≤ a ∧ a < B + 80) σ (sI τ B k v) := Sm_I h ⟨by omega, by omega⟩
theorem n10 : (nI 1 = nI 0) = False := by decide
theorem n01 : (nI 0 = nI 1) = False := by decide
theorem bI_T [Decidable True] : bI True = nI 1 := bI_t trivial
theorem bI_F [Decidable False] : bI False = nI 0 := bI_f (fun h => h)
theorem nin {p : Int32} {n : Nat} (hn : n < 2147483648) (h : ¬ (nI 0 ≤ p ∧ p ≤ nI n)) : p.toInt < 0 ∨ (n : Int) < p.toInt := by
  rw [Int32.le_iff_toInt_le, Int32.le_iff_toInt_le, nI_toInt hn, nI_toInt (by omega)] at h
  omega
theorem ti_0 : (nI 0).toInt = 0 := by decide
theorem ti_1 : (nI 1).toInt = 1 := by decide
theorem ti_2 : (nI 2).toInt = 2 := by decide
theorem ti_3 : (nI 3).toInt = 3 := by decide
theorem ti_4 : (nI 4).toInt = 4 := by decide
theorem ti_5 : (nI 5).toInt = 5 := by decide
theorem ti_6 : (nI 6).toInt = 6 := by decide
theorem ti_7 : (nI 7).toInt = 7 := by decide
theorem ti_8 : (nI 8).toInt = 8 := by decide
theorem ti_9 : (nI 9).toInt = 9 := by decide
theorem ti_10 : (nI 10).toInt = 10 := by decide
theorem ti_11 : (nI 11).toInt = 11 := by decide
theorem ti_12 : (nI 12).toInt = 12 := by decide
theorem ti_13 : (nI 13).toInt = 13 := by decide
theorem ti_14 : (nI 14).toInt = 14 := by decide
theorem ti_15 : (nI 15).toInt = 15 := by decide
section
variable {LS : (Nat → Int32) → (Nat → Int32) → Nat → (Nat → Int32) → Nat → (Nat → Int32) → Nat → (Nat → Int32) → (Nat → Int32) → Nat → Prop} {CV : Nat → (Nat → Int32) → (Nat → Nat → Int32) → Prop} {MV : (Nat → Int32) → Int32 → (Nat → Int32) → (Nat → Int32) → (Nat → Int32) → Prop}
theorem Inv_ref_1 {G : gG} {σ : gS} {k : Nat} (hk : k < 512) (hI : Inv LS CV MV G σ k) : Inv LS CV MV G (sI (sI (sI (sI σ (gB G) 8 (-nI 1)) (gB G + 24) 0 (gI σ (gB G + 24) 0 + nI 1)) (gB G + 54) 0 (-nI 1)) (gB G + 55) 1 (gI σ (gB G + 55) 1 + nI 1)) (k + 1) := by
  refine Inv_same (Sm_I (Sm_I (Sm_I (Sm_I (Sm_refl _ _) ?_) ?_) ?_) ?_) hI ?_ ?_ ?_ ?_ ?_ ?_ hk
  · omega
  · omega
  · omega
  · omega
  · intro o h1 h2 h3 h4 h5 h6
    rw [rI_ne (by omega), rI_ne (by omega), rI_ne (by omega), rI_ne (by omega)]
  · rw [rI_ne (by omega), rI_ne (by omega), rI_ne (by omega), rI_ne (by omega)]
  · rw [rI_ne (by omega), rI_ne (by omega), rI_ne (by omega), rI_nk (by omega)]
  · intro j hj
    rw [rI_ne (by omega), rI_nk (by omega), rI_ne (by omega), rI_ne (by omega)]
  · left
    rw [rI_ne (by omega), rI_nk (by omega), rI_ne (by omega), rI_ne (by omega)]
  · intro h
    simp only [I7] at h ⊢
    simp only [n_K_I, n_K_J, n_K_R, n_K_r, n_N_I, n_N_J, n_N_R, n_N_r, n_R_I, n_R_J, n_R_r, n_J_I, n_J_R, n_J_r, n_I_J, n_I_R, n_n_I, n_n_J, n_n_R, n_n_r, n_w_I, n_w_J, n_w_R, n_w_r, n_T_I, n_T_J, n_T_R, n_T_r, n_I_I, n_I_r, n_J_J, n_R_R, Nat.add_left_cancel_iff, Nat.add_right_cancel_iff, Nat.add_eq_left, Nat.left_eq_add, Nat.reduceEqDiff, Nat.reduceAdd, Nat.zero_ne_one, Nat.one_ne_zero, false_and, and_false, true_and, and_true, and_self, if_false, if_true, ↓reduceIte]
    simp only [h, and_self]
theorem Inv_ref_2 {G : gG} {σ : gS} {k : Nat} (hk : k < 512) (hI : Inv LS CV MV G σ k) : Inv LS CV MV G (sI (sI (sI (sI σ (gB G) 8 (-nI 2)) (gB G + 24) 1 (gI σ (gB G + 24) 1 + nI 1)) (gB G + 54) 0 (-nI 2)) (gB G + 55) 2 (gI σ (gB G + 55) 2 + nI 1)) (k + 1) := by
  refine Inv_same (Sm_I (Sm_I (Sm_I (Sm_I (Sm_refl _ _) ?_) ?_) ?_) ?_) hI ?_ ?_ ?_ ?_ ?_ ?_ hk
  · omega
  · omega
  · omega
  · omega
  · intro o h1 h2 h3 h4 h5 h6
    rw [rI_ne (by omega), rI_ne (by omega), rI_ne (by omega), rI_ne (by omega)]
  · rw [rI_ne (by omega), rI_ne (by omega), rI_ne (by omega), rI_ne (by omega)]
  · rw [rI_ne (by omega), rI_ne (by omega), rI_ne (by omega), rI_nk (by omega)]
  · intro j hj
    rw [rI_ne (by omega), rI_nk (by omega), rI_ne (by omega), rI_ne (by omega)]
  · left
    rw [rI_ne (by omega), rI_nk (by omega), rI_ne (by omega), rI_ne (by omega)]
  · intro h
    simp only [I7] at h ⊢
    simp only [n_K_I, n_K_J, n_K_R, n_K_r, n_N_I, n_N_J, n_N_R, n_N_r, n_R_I, n_R_J, n_R_r, n_J_I, n_J_R, n_J_r, n_I_J, n_I_R, n_n_I, n_n_J, n_n_R, n_n_r, n_w_I, n_w_J, n_w_R, n_w_r, n_T_I, n_T_J, n_T_R, n_T_r, n_I_I, n_I_r, n_J_J, n_R_R, Nat.add_left_cancel_iff, Nat.add_right_cancel_iff, Nat.add_eq_left, Nat.left_eq_add, Nat.reduceEqDiff, Nat.reduceAdd, Nat.zero_ne_one, Nat.one_ne_zero, false_and, and_false, true_and, and_true, and_self, if_false, if_true, ↓reduceIte]
    simp only [h, and_self]
theorem Inv_ref_3 {G : gG} {σ : gS} {k : Nat} (hk : k < 512) (hI : Inv LS CV MV G σ k) : Inv LS CV MV G (sI (sI (sI (sI σ (gB G) 8 (-nI 3)) (gB G + 24) 2 (gI σ (gB G + 24) 2 + nI 1)) (gB G + 54) 0 (-nI 3)) (gB G + 55) 3 (gI σ (gB G + 55) 3 + nI 1)) (k + 1) := by
  refine Inv_same (Sm_I (Sm_I (Sm_I (Sm_I (Sm_refl _ _) ?_) ?_) ?_) ?_) hI ?_ ?_ ?_ ?_ ?_ ?_ hk
  · omega
  · omega
  · omega
  · omega
  · intro o h1 h2 h3 h4 h5 h6
    rw [rI_ne (by omega), rI_ne (by omega), rI_ne (by omega), rI_ne (by omega)]
  · rw [rI_ne (by omega), rI_ne (by omega), rI_ne (by omega), rI_ne (by omega)]
  · rw [rI_ne (by omega), rI_ne (by omega), rI_ne (by omega), rI_nk (by omega)]
  · intro j hj
    rw [rI_ne (by omega), rI_nk (by omega), rI_ne (by omega), rI_ne (by omega)]
  · left
    rw [rI_ne (by omega), rI_nk (by omega), rI_ne (by omega), rI_ne (by omega)]
  · intro h
    simp only [I7] at h ⊢
    simp only [n_K_I, n_K_J, n_K_R, n_K_r, n_N_I, n_N_J, n_N_R, n_N_r, n_R_I, n_R_J, n_R_r, n_J_I, n_J_R, n_J_r, n_I_J, n_I_R, n_n_I, n_n_J, n_n_R, n_n_r, n_w_I, n_w_J, n_w_R, n_w_r, n_T_I, n_T_J, n_T_R, n_T_r, n_I_I, n_I_r, n_J_J, n_R_R, Nat.add_left_cancel_iff, Nat.add_right_cancel_iff, Nat.add_eq_left, Nat.left_eq_add, Nat.reduceEqDiff, Nat.reduceAdd, Nat.zero_ne_one, Nat.one_ne_zero, false_and, and_false, true_and, and_true, and_self, if_false, if_true, ↓reduceIte]
    simp only [h, and_self]
theorem Inv_ref_5 {G : gG} {σ : gS} {k : Nat} (hk : k < 512) (hI : Inv LS CV MV G σ k) : Inv LS CV MV G (sI (sI (sI (sI σ (gB G) 8 (-nI 5)) (gB G + 24) 3 (gI σ (gB G + 24) 3 + nI 1)) (gB G + 54) 0 (-nI 5)) (gB G + 55) 5 (gI σ (gB G + 55) 5 + nI 1)) (k + 1) := by
  refine Inv_same (Sm_I (Sm_I (Sm_I (Sm_I (Sm_refl _ _) ?_) ?_) ?_) ?_) hI ?_ ?_ ?_ ?_ ?_ ?_ hk
  · omega
  · omega
  · omega
  · omega
  · intro o h1 h2 h3 h4 h5 h6
    rw [rI_ne (by omega), rI_ne (by omega), rI_ne (by omega), rI_ne (by omega)]
  · rw [rI_ne (by omega), rI_ne (by omega), rI_ne (by omega), rI_ne (by omega)]
  · rw [rI_ne (by omega), rI_ne (by omega), rI_ne (by omega), rI_nk (by omega)]
  · intro j hj
    rw [rI_ne (by omega), rI_nk (by omega), rI_ne (by omega), rI_ne (by omega)]
  · left
    rw [rI_ne (by omega), rI_nk (by omega), rI_ne (by omega), rI_ne (by omega)]
  · intro h
    simp only [I7] at h ⊢
    simp only [n_K_I, n_K_J, n_K_R, n_K_r, n_N_I, n_N_J, n_N_R, n_N_r, n_R_I, n_R_J, n_R_r, n_J_I, n_J_R, n_J_r, n_I_J, n_I_R, n_n_I, n_n_J, n_n_R, n_n_r, n_w_I, n_w_J, n_w_R, n_w_r, n_T_I, n_T_J, n_T_R, n_T_r, n_I_I, n_I_r, n_J_J, n_R_R, Nat.add_left_cancel_iff, Nat.add_right_cancel_iff, Nat.add_eq_left, Nat.left_eq_add, Nat.reduceEqDiff, Nat.reduceAdd, Nat.zero_ne_one, Nat.one_ne_zero, false_and, and_false, true_and, and_true, and_self, if_false, if_true, ↓reduceIte]
    simp only [h, and_self]
theorem Inv_ref_6 {G : gG} {σ : gS} {k : Nat} (hk : k < 512) (hI : Inv LS CV MV G σ k) : Inv LS CV MV G (sI (sI (sI (sI σ (gB G) 8 (-nI 6)) (gB G + 24) 4 (gI σ (gB G + 24) 4 + nI 1)) (gB G + 54) 0 (-nI 6)) (gB G + 55) 6 (gI σ (gB G + 55) 6 + nI 1)) (k + 1) := by
  refine Inv_same (Sm_I (Sm_I (Sm_I (Sm_I (Sm_refl _ _) ?_) ?_) ?_) ?_) hI ?_ ?_ ?_ ?_ ?_ ?_ hk
  · omega
  · omega
  · omega
  · omega
  · intro o h1 h2 h3 h4 h5 h6
    rw [rI_ne (by omega), rI_ne (by omega), rI_ne (by omega), rI_ne (by omega)]
  · rw [rI_ne (by omega), rI_ne (by omega), rI_ne (by omega), rI_ne (by omega)]
  · rw [rI_ne (by omega), rI_ne (by omega), rI_ne (by omega), rI_nk (by omega)]
  · intro j hj
    rw [rI_ne (by omega), rI_nk (by omega), rI_ne (by omega), rI_ne (by omega)]
  · left
    rw [rI_ne (by omega), rI_nk (by omega), rI_ne (by omega), rI_ne (by omega)]
  · intro h
    simp only [I7] at h ⊢
    simp only [n_K_I, n_K_J, n_K_R, n_K_r, n_N_I, n_N_J, n_N_R, n_N_r, n_R_I, n_R_J, n_R_r, n_J_I, n_J_R, n_J_r, n_I_J, n_I_R, n_n_I, n_n_J, n_n_R, n_n_r, n_w_I, n_w_J, n_w_R, n_w_r, n_T_I, n_T_J, n_T_R, n_T_r, n_I_I, n_I_r, n_J_J, n_R_R, Nat.add_left_cancel_iff, Nat.add_right_cancel_iff, Nat.add_eq_left, Nat.left_eq_add, Nat.reduceEqDiff, Nat.reduceAdd, Nat.zero_ne_one, Nat.one_ne_zero, false_and, and_false, true_and, and_true, and_self, if_false, if_true, ↓reduceIte]
    simp only [h, and_self]
theorem ob_status {G : gG} : gOb (Inv LS CV MV G) (gb G) (gB G) (gB G + 54) 154 274 0 := by
  intro σ k as hl hk hI
  obtain rfl := len0 hl
  have hv := Inv_Sh hI
  have hb := Inv_b hI
  have h7 := Inv_i7 hI
  simp (disch := first | omega | (simp only [IvS_I, IvS_J, IvS_r]; assumption)) only [List.map_cons, List.map_nil, Value.int.injEq, gSc_r, gSc_I, n10, n01, Nat.not_lt_zero, ne_eq, Nat.add_zero, Nat.one_ne_zero, Nat.zero_ne_one, Nat.reduceEqDiff, bI_T, bI_F, bI_0, bI_1, bI_01, not_and_self, true_and, and_true, not_true_eq_false, not_false_eq_true, false_imp_iff, true_imp_iff, imp_self, gPv_n, gPv_i, gPv_r, gPv_0, Option.toList_some, Option.toList_none, List.singleton_append, List.cons_append, List.nil_append, List.length_nil, List.length_cons, Nat.zero_le, Nat.reduceAdd, Nat.reduceLeDiff, or_true, true_or, false_or, or_false, and_self, and_false, false_and, implies_true, Option.some.injEq, exists_eq_left', c_154, e_154_0, e_154_1, e_154_4, c_274, e_274_0, e_274_1, e_274_4, sk_0 hv, sr_0_0 hv, sr_0_1 hv, sr_0_2 hv, sr_0_4 hv, sr_0_7 hv, sr_0_9 hv, sr_0_10 hv, sr_0_11 hv, sr_0_12 hv, sr_0_13 hv, sr_0_14 hv, sk_54 hv, sr_54_2 hv, sr_54_3 hv, sr_54_4 hv, sr_54_5 hv, sr_54_7 hv, sr_54_8 hv, sr_54_9 hv, sr_54_12 hv, sr_54_13 hv, sr_54_14 hv, sr_54_22 hv, sr_54_25 hv, sr_54_26 hv, sr_54_27 hv, sr_54_34 hv, sr_54_35 hv, sr_54_36 hv, sr_54_37 hv, sr_54_38 hv, sr_54_40 hv, sr_54_43 hv, sr_54_44 hv, sr_54_45 hv, sr_54_46 hv, sr_54_47 hv, h7.2.2.1]
  exact Inv_up hI
theorem ob_ruin {G : gG} : gOb (Inv LS CV MV G) (gb G) (gB G) (gB G + 54) 125 193 0 := by
  intro σ k as hl hk hI
  obtain rfl := len0 hl
  have hv := Inv_Sh hI
  have hb := Inv_b hI
  have h7 := Inv_i7 hI
  simp (disch := first | omega | (simp only [IvS_I, IvS_J, IvS_r]; assumption)) only [List.map_cons, List.map_nil, Value.int.injEq, gSc_r, gSc_I, n10, n01, Nat.not_lt_zero, ne_eq, Nat.add_zero, Nat.one_ne_zero, Nat.zero_ne_one, Nat.reduceEqDiff, bI_T, bI_F, bI_0, bI_1, bI_01, not_and_self, true_and, and_true, not_true_eq_false, not_false_eq_true, false_imp_iff, true_imp_iff, imp_self, gPv_n, gPv_i, gPv_r, gPv_0, Option.toList_some, Option.toList_none, List.singleton_append, List.cons_append, List.nil_append, List.length_nil, List.length_cons, Nat.zero_le, Nat.reduceAdd, Nat.reduceLeDiff, or_true, true_or, false_or, or_false, and_self, and_false, false_and, implies_true, Option.some.injEq, exists_eq_left', c_125, e_125_0, e_125_1, e_125_4, c_193, e_193_0, e_193_1, e_193_4, sk_0 hv, sr_0_0 hv, sr_0_1 hv, sr_0_2 hv, sr_0_4 hv, sr_0_7 hv, sr_0_9 hv, sr_0_10 hv, sr_0_11 hv, sr_0_12 hv, sr_0_13 hv, sr_0_14 hv, sk_54 hv, sr_54_2 hv, sr_54_3 hv, sr_54_4 hv, sr_54_5 hv, sr_54_7 hv, sr_54_8 hv, sr_54_9 hv, sr_54_12 hv, sr_54_13 hv, sr_54_14 hv, sr_54_22 hv, sr_54_25 hv, sr_54_26 hv, sr_54_27 hv, sr_54_34 hv, sr_54_35 hv, sr_54_36 hv, sr_54_37 hv, sr_54_38 hv, sr_54_40 hv, sr_54_43 hv, sr_54_44 hv, sr_54_45 hv, sr_54_46 hv, sr_54_47 hv, h7.2.1]
  exact Inv_up hI
theorem ob_fault {G : gG} : gOb (Inv LS CV MV G) (gb G) (gB G) (gB G + 54) 127 215 0 := by
  intro σ k as hl hk hI
  obtain rfl := len0 hl
  have hv := Inv_Sh hI
  have hb := Inv_b hI
  have h7 := Inv_i7 hI
  simp (disch := first | omega | (simp only [IvS_I, IvS_J, IvS_r]; assumption)) only [List.map_cons, List.map_nil, Value.int.injEq, gSc_r, gSc_I, n10, n01, Nat.not_lt_zero, ne_eq, Nat.add_zero, Nat.one_ne_zero, Nat.zero_ne_one, Nat.reduceEqDiff, bI_T, bI_F, bI_0, bI_1, bI_01, not_and_self, true_and, and_true, not_true_eq_false, not_false_eq_true, false_imp_iff, true_imp_iff, imp_self, gPv_n, gPv_i, gPv_r, gPv_0, Option.toList_some, Option.toList_none, List.singleton_append, List.cons_append, List.nil_append, List.length_nil, List.length_cons, Nat.zero_le, Nat.reduceAdd, Nat.reduceLeDiff, or_true, true_or, false_or, or_false, and_self, and_false, false_and, implies_true, Option.some.injEq, exists_eq_left', c_127, e_127_0, e_127_1, e_127_4, c_215, e_215_0, e_215_1, e_215_4, sk_0 hv, sr_0_0 hv, sr_0_1 hv, sr_0_2 hv, sr_0_4 hv, sr_0_7 hv, sr_0_9 hv, sr_0_10 hv, sr_0_11 hv, sr_0_12 hv, sr_0_13 hv, sr_0_14 hv, sk_54 hv, sr_54_2 hv, sr_54_3 hv, sr_54_4 hv, sr_54_5 hv, sr_54_7 hv, sr_54_8 hv, sr_54_9 hv, sr_54_12 hv, sr_54_13 hv, sr_54_14 hv, sr_54_22 hv, sr_54_25 hv, sr_54_26 hv, sr_54_27 hv, sr_54_34 hv, sr_54_35 hv, sr_54_36 hv, sr_54_37 hv, sr_54_38 hv, sr_54_40 hv, sr_54_43 hv, sr_54_44 hv, sr_54_45 hv, sr_54_46 hv, sr_54_47 hv, h7.1]
  exact Inv_up hI
theorem ob_of {G : gG} : gOb (Inv LS CV MV G) (gb G) (gB G) (gB G + 54) 115 182 2 := by
  intro σ k as hl hk hI
  obtain ⟨p0, p1, rfl⟩ := len2 hl
  have hv := Inv_Sh hI
  have hb := Inv_b hI
  obtain ⟨own, ⟨w1, w2, w3, w4, w5⟩, ⟨t1, t2, t3, t4, t5⟩, lw⟩ := Inv_i4 hI
  have hn1 := hn_le w1
  have hn2 := hn_eq w1
  have hq := Inv_up hI
  by_cases h0 : nI 0 ≤ p0 ∧ p0 < nI (hn (gI σ (gB G + 56)))
  · obtain ⟨h, hh, rfl⟩ := in_lt (by omega) h0
    by_cases h1 : nI 0 ≤ p1 ∧ p1 ≤ nI 5
    · obtain ⟨w, hw, rfl⟩ := in_nI (by omega) h1
      have hw : w = 0 ∨ w = 1 ∨ w = 2 ∨ w = 3 ∨ w = 4 ∨ w = 5 := by omega
      obtain ⟨u1, u2, u3, u4, u5⟩ := t1.2.2 h hh
      have hh2 : h < 12 := by omega
      rcases hw with rfl | rfl | rfl | rfl | rfl | rfl
      · simp (disch := first | omega | (simp only [IvS_I, IvS_J, IvS_r]; assumption)) only [List.map_cons, List.map_nil, Value.int.injEq, gSc_r, gSc_I, n10, n01, Nat.not_lt_zero, ne_eq, Nat.add_zero, Nat.one_ne_zero, Nat.zero_ne_one, Nat.reduceEqDiff, bI_T, bI_F, bI_0, bI_1, bI_01, not_and_self, true_and, and_true, not_true_eq_false, not_false_eq_true, false_imp_iff, true_imp_iff, imp_self, gPv_n, gPv_i, gPv_r, gPv_0, Option.toList_some, Option.toList_none, List.singleton_append, List.cons_append, List.nil_append, List.length_nil, List.length_cons, Nat.zero_le, Nat.reduceAdd, Nat.reduceLeDiff, or_true, true_or, false_or, or_false, and_self, and_false, false_and, implies_true, Option.some.injEq, exists_eq_left', c_115, e_115_0, e_115_1, e_115_4, e_115_5, e_115_8, e_115_11, e_115_12, e_115_13, e_115_14, e_115_52, e_115_53, e_115_56, e_115_59, e_115_60, e_115_61, e_115_62, e_115_63, e_115_66, e_115_69, e_115_70, e_115_71, e_115_72, e_115_73, e_115_76, e_115_79, e_115_80, e_115_81, e_115_82, e_115_83, e_115_86, e_115_89, e_115_90, e_115_91, e_115_92, e_115_93, e_115_96, e_115_99, e_115_100, e_115_101, e_115_102, e_115_103, e_115_106, e_115_109, e_115_110, e_115_113, e_115_114, e_115_115, c_182, e_182_0, e_182_1, e_182_2, e_182_5, e_182_8, e_182_9, e_182_10, e_182_11, e_182_14, e_182_17, e_182_18, e_182_19, e_182_20, e_182_23, e_182_26, e_182_27, sk_0 hv, sr_0_0 hv, sr_0_1 hv, sr_0_2 hv, sr_0_4 hv, sr_0_7 hv, sr_0_9 hv, sr_0_10 hv, sr_0_11 hv, sr_0_12 hv, sr_0_13 hv, sr_0_14 hv, sk_1 hv, sr_1_0 hv, sr_1_1 hv, sr_1_2 hv, sr_1_3 hv, sr_1_4 hv, sr_1_7 hv, sr_1_9 hv, sr_1_14 hv, sr_1_15 hv, sr_1_16 hv, sk_2 hv, sn_2 hv, sk_3 hv, sn_3 hv, sk_4 hv, sn_4 hv, sk_5 hv, sn_5 hv, sk_6 hv, sn_6 hv, sk_54 hv, sr_54_2 hv, sr_54_3 hv, sr_54_4 hv, sr_54_5 hv, sr_54_7 hv, sr_54_8 hv, sr_54_9 hv, sr_54_12 hv, sr_54_13 hv, sr_54_14 hv, sr_54_22 hv, sr_54_25 hv, sr_54_26 hv, sr_54_27 hv, sr_54_34 hv, sr_54_35 hv, sr_54_36 hv, sr_54_37 hv, sr_54_38 hv, sr_54_40 hv, sr_54_43 hv, sr_54_44 hv, sr_54_45 hv, sr_54_46 hv, sr_54_47 hv, nL, nI_add, nI_mul, nI_clamp, nI_ltI, nI_leI, nI_eq, nI_pos, nI_pos', Nat.reduceAdd, Nat.reduceMul, Nat.reducePow, ti_0, ti_1, ti_2, ti_3, ti_4, ti_5, ti_6, ti_7, ti_8, ti_9, ti_10, ti_11, ti_12, ti_13, ti_14, ti_15, Int.reduceLT, Int.reduceSub, Int.reduceToNat, Int.sub_zero, Int.toNat_zero, Int.toNat_one, List.getElem?_cons_succ, List.getElem?_cons_zero, Int.lt_irrefl, s_has (sk_1 hv), t_isHouse, t_lies, t_factOf, t1.1, hn2, le_sub1, bI_t, hh2, u1]
        exact hq
      · simp (disch := first | omega | (simp only [IvS_I, IvS_J, IvS_r]; assumption)) only [List.map_cons, List.map_nil, Value.int.injEq, gSc_r, gSc_I, n10, n01, Nat.not_lt_zero, ne_eq, Nat.add_zero, Nat.one_ne_zero, Nat.zero_ne_one, Nat.reduceEqDiff, bI_T, bI_F, bI_0, bI_1, bI_01, not_and_self, true_and, and_true, not_true_eq_false, not_false_eq_true, false_imp_iff, true_imp_iff, imp_self, gPv_n, gPv_i, gPv_r, gPv_0, Option.toList_some, Option.toList_none, List.singleton_append, List.cons_append, List.nil_append, List.length_nil, List.length_cons, Nat.zero_le, Nat.reduceAdd, Nat.reduceLeDiff, or_true, true_or, false_or, or_false, and_self, and_false, false_and, implies_true, Option.some.injEq, exists_eq_left', c_115, e_115_0, e_115_1, e_115_4, e_115_5, e_115_8, e_115_11, e_115_12, e_115_13, e_115_14, e_115_52, e_115_53, e_115_56, e_115_59, e_115_60, e_115_61, e_115_62, e_115_63, e_115_66, e_115_69, e_115_70, e_115_71, e_115_72, e_115_73, e_115_76, e_115_79, e_115_80, e_115_81, e_115_82, e_115_83, e_115_86, e_115_89, e_115_90, e_115_91, e_115_92, e_115_93, e_115_96, e_115_99, e_115_100, e_115_101, e_115_102, e_115_103, e_115_106, e_115_109, e_115_110, e_115_113, e_115_114, e_115_115, c_182, e_182_0, e_182_1, e_182_2, e_182_5, e_182_8, e_182_9, e_182_10, e_182_11, e_182_14, e_182_17, e_182_18, e_182_19, e_182_20, e_182_23, e_182_26, e_182_27, sk_0 hv, sr_0_0 hv, sr_0_1 hv, sr_0_2 hv, sr_0_4 hv, sr_0_7 hv, sr_0_9 hv, sr_0_10 hv, sr_0_11 hv, sr_0_12 hv, sr_0_13 hv, sr_0_14 hv, sk_1 hv, sr_1_0 hv, sr_1_1 hv, sr_1_2 hv, sr_1_3 hv, sr_1_4 hv, sr_1_7 hv, sr_1_9 hv, sr_1_14 hv, sr_1_15 hv, sr_1_16 hv, sk_2 hv, sn_2 hv, sk_3 hv, sn_3 hv, sk_4 hv, sn_4 hv, sk_5 hv, sn_5 hv, sk_6 hv, sn_6 hv, sk_54 hv, sr_54_2 hv, sr_54_3 hv, sr_54_4 hv, sr_54_5 hv, sr_54_7 hv, sr_54_8 hv, sr_54_9 hv, sr_54_12 hv, sr_54_13 hv, sr_54_14 hv, sr_54_22 hv, sr_54_25 hv, sr_54_26 hv, sr_54_27 hv, sr_54_34 hv, sr_54_35 hv, sr_54_36 hv, sr_54_37 hv, sr_54_38 hv, sr_54_40 hv, sr_54_43 hv, sr_54_44 hv, sr_54_45 hv, sr_54_46 hv, sr_54_47 hv, nL, nI_add, nI_mul, nI_clamp, nI_ltI, nI_leI, nI_eq, nI_pos, nI_pos', Nat.reduceAdd, Nat.reduceMul, Nat.reducePow, ti_0, ti_1, ti_2, ti_3, ti_4, ti_5, ti_6, ti_7, ti_8, ti_9, ti_10, ti_11, ti_12, ti_13, ti_14, ti_15, Int.reduceLT, Int.reduceSub, Int.reduceToNat, Int.sub_zero, Int.toNat_zero, Int.toNat_one, List.getElem?_cons_succ, List.getElem?_cons_zero, Int.lt_irrefl, s_has (sk_1 hv), t_isHouse, t_lies, t_factOf, t1.1, hn2, le_sub1, bI_t, hh2, u2]
        exact hq
      · simp (disch := first | omega | (simp only [IvS_I, IvS_J, IvS_r]; assumption)) only [List.map_cons, List.map_nil, Value.int.injEq, gSc_r, gSc_I, n10, n01, Nat.not_lt_zero, ne_eq, Nat.add_zero, Nat.one_ne_zero, Nat.zero_ne_one, Nat.reduceEqDiff, bI_T, bI_F, bI_0, bI_1, bI_01, not_and_self, true_and, and_true, not_true_eq_false, not_false_eq_true, false_imp_iff, true_imp_iff, imp_self, gPv_n, gPv_i, gPv_r, gPv_0, Option.toList_some, Option.toList_none, List.singleton_append, List.cons_append, List.nil_append, List.length_nil, List.length_cons, Nat.zero_le, Nat.reduceAdd, Nat.reduceLeDiff, or_true, true_or, false_or, or_false, and_self, and_false, false_and, implies_true, Option.some.injEq, exists_eq_left', c_115, e_115_0, e_115_1, e_115_4, e_115_5, e_115_8, e_115_11, e_115_12, e_115_13, e_115_14, e_115_52, e_115_53, e_115_56, e_115_59, e_115_60, e_115_61, e_115_62, e_115_63, e_115_66, e_115_69, e_115_70, e_115_71, e_115_72, e_115_73, e_115_76, e_115_79, e_115_80, e_115_81, e_115_82, e_115_83, e_115_86, e_115_89, e_115_90, e_115_91, e_115_92, e_115_93, e_115_96, e_115_99, e_115_100, e_115_101, e_115_102, e_115_103, e_115_106, e_115_109, e_115_110, e_115_113, e_115_114, e_115_115, c_182, e_182_0, e_182_1, e_182_2, e_182_5, e_182_8, e_182_9, e_182_10, e_182_11, e_182_14, e_182_17, e_182_18, e_182_19, e_182_20, e_182_23, e_182_26, e_182_27, sk_0 hv, sr_0_0 hv, sr_0_1 hv, sr_0_2 hv, sr_0_4 hv, sr_0_7 hv, sr_0_9 hv, sr_0_10 hv, sr_0_11 hv, sr_0_12 hv, sr_0_13 hv, sr_0_14 hv, sk_1 hv, sr_1_0 hv, sr_1_1 hv, sr_1_2 hv, sr_1_3 hv, sr_1_4 hv, sr_1_7 hv, sr_1_9 hv, sr_1_14 hv, sr_1_15 hv, sr_1_16 hv, sk_2 hv, sn_2 hv, sk_3 hv, sn_3 hv, sk_4 hv, sn_4 hv, sk_5 hv, sn_5 hv, sk_6 hv, sn_6 hv, sk_54 hv, sr_54_2 hv, sr_54_3 hv, sr_54_4 hv, sr_54_5 hv, sr_54_7 hv, sr_54_8 hv, sr_54_9 hv, sr_54_12 hv, sr_54_13 hv, sr_54_14 hv, sr_54_22 hv, sr_54_25 hv, sr_54_26 hv, sr_54_27 hv, sr_54_34 hv, sr_54_35 hv, sr_54_36 hv, sr_54_37 hv, sr_54_38 hv, sr_54_40 hv, sr_54_43 hv, sr_54_44 hv, sr_54_45 hv, sr_54_46 hv, sr_54_47 hv, nL, nI_add, nI_mul, nI_clamp, nI_ltI, nI_leI, nI_eq, nI_pos, nI_pos', Nat.reduceAdd, Nat.reduceMul, Nat.reducePow, ti_0, ti_1, ti_2, ti_3, ti_4, ti_5, ti_6, ti_7, ti_8, ti_9, ti_10, ti_11, ti_12, ti_13, ti_14, ti_15, Int.reduceLT, Int.reduceSub, Int.reduceToNat, Int.sub_zero, Int.toNat_zero, Int.toNat_one, List.getElem?_cons_succ, List.getElem?_cons_zero, Int.lt_irrefl, s_has (sk_1 hv), t_isHouse, t_lies, t_factOf, t1.1, hn2, le_sub1, bI_t, hh2, u3]
        exact hq
      · simp (disch := first | omega | (simp only [IvS_I, IvS_J, IvS_r]; assumption)) only [List.map_cons, List.map_nil, Value.int.injEq, gSc_r, gSc_I, n10, n01, Nat.not_lt_zero, ne_eq, Nat.add_zero, Nat.one_ne_zero, Nat.zero_ne_one, Nat.reduceEqDiff, bI_T, bI_F, bI_0, bI_1, bI_01, not_and_self, true_and, and_true, not_true_eq_false, not_false_eq_true, false_imp_iff, true_imp_iff, imp_self, gPv_n, gPv_i, gPv_r, gPv_0, Option.toList_some, Option.toList_none, List.singleton_append, List.cons_append, List.nil_append, List.length_nil, List.length_cons, Nat.zero_le, Nat.reduceAdd, Nat.reduceLeDiff, or_true, true_or, false_or, or_false, and_self, and_false, false_and, implies_true, Option.some.injEq, exists_eq_left', c_115, e_115_0, e_115_1, e_115_4, e_115_5, e_115_8, e_115_11, e_115_12, e_115_13, e_115_14, e_115_52, e_115_53, e_115_56, e_115_59, e_115_60, e_115_61, e_115_62, e_115_63, e_115_66, e_115_69, e_115_70, e_115_71, e_115_72, e_115_73, e_115_76, e_115_79, e_115_80, e_115_81, e_115_82, e_115_83, e_115_86, e_115_89, e_115_90, e_115_91, e_115_92, e_115_93, e_115_96, e_115_99, e_115_100, e_115_101, e_115_102, e_115_103, e_115_106, e_115_109, e_115_110, e_115_113, e_115_114, e_115_115, c_182, e_182_0, e_182_1, e_182_2, e_182_5, e_182_8, e_182_9, e_182_10, e_182_11, e_182_14, e_182_17, e_182_18, e_182_19, e_182_20, e_182_23, e_182_26, e_182_27, sk_0 hv, sr_0_0 hv, sr_0_1 hv, sr_0_2 hv, sr_0_4 hv, sr_0_7 hv, sr_0_9 hv, sr_0_10 hv, sr_0_11 hv, sr_0_12 hv, sr_0_13 hv, sr_0_14 hv, sk_1 hv, sr_1_0 hv, sr_1_1 hv, sr_1_2 hv, sr_1_3 hv, sr_1_4 hv, sr_1_7 hv, sr_1_9 hv, sr_1_14 hv, sr_1_15 hv, sr_1_16 hv, sk_2 hv, sn_2 hv, sk_3 hv, sn_3 hv, sk_4 hv, sn_4 hv, sk_5 hv, sn_5 hv, sk_6 hv, sn_6 hv, sk_54 hv, sr_54_2 hv, sr_54_3 hv, sr_54_4 hv, sr_54_5 hv, sr_54_7 hv, sr_54_8 hv, sr_54_9 hv, sr_54_12 hv, sr_54_13 hv, sr_54_14 hv, sr_54_22 hv, sr_54_25 hv, sr_54_26 hv, sr_54_27 hv, sr_54_34 hv, sr_54_35 hv, sr_54_36 hv, sr_54_37 hv, sr_54_38 hv, sr_54_40 hv, sr_54_43 hv, sr_54_44 hv, sr_54_45 hv, sr_54_46 hv, sr_54_47 hv, nL, nI_add, nI_mul, nI_clamp, nI_ltI, nI_leI, nI_eq, nI_pos, nI_pos', Nat.reduceAdd, Nat.reduceMul, Nat.reducePow, ti_0, ti_1, ti_2, ti_3, ti_4, ti_5, ti_6, ti_7, ti_8, ti_9, ti_10, ti_11, ti_12, ti_13, ti_14, ti_15, Int.reduceLT, Int.reduceSub, Int.reduceToNat, Int.sub_zero, Int.toNat_zero, Int.toNat_one, List.getElem?_cons_succ, List.getElem?_cons_zero, Int.lt_irrefl, s_has (sk_1 hv), t_isHouse, t_lies, t_factOf, t1.1, hn2, le_sub1, bI_t, hh2, u4]
        exact hq
      · simp (disch := first | omega | (simp only [IvS_I, IvS_J, IvS_r]; assumption)) only [List.map_cons, List.map_nil, Value.int.injEq, gSc_r, gSc_I, n10, n01, Nat.not_lt_zero, ne_eq, Nat.add_zero, Nat.one_ne_zero, Nat.zero_ne_one, Nat.reduceEqDiff, bI_T, bI_F, bI_0, bI_1, bI_01, not_and_self, true_and, and_true, not_true_eq_false, not_false_eq_true, false_imp_iff, true_imp_iff, imp_self, gPv_n, gPv_i, gPv_r, gPv_0, Option.toList_some, Option.toList_none, List.singleton_append, List.cons_append, List.nil_append, List.length_nil, List.length_cons, Nat.zero_le, Nat.reduceAdd, Nat.reduceLeDiff, or_true, true_or, false_or, or_false, and_self, and_false, false_and, implies_true, Option.some.injEq, exists_eq_left', c_115, e_115_0, e_115_1, e_115_4, e_115_5, e_115_8, e_115_11, e_115_12, e_115_13, e_115_14, e_115_52, e_115_53, e_115_56, e_115_59, e_115_60, e_115_61, e_115_62, e_115_63, e_115_66, e_115_69, e_115_70, e_115_71, e_115_72, e_115_73, e_115_76, e_115_79, e_115_80, e_115_81, e_115_82, e_115_83, e_115_86, e_115_89, e_115_90, e_115_91, e_115_92, e_115_93, e_115_96, e_115_99, e_115_100, e_115_101, e_115_102, e_115_103, e_115_106, e_115_109, e_115_110, e_115_113, e_115_114, e_115_115, c_182, e_182_0, e_182_1, e_182_2, e_182_5, e_182_8, e_182_9, e_182_10, e_182_11, e_182_14, e_182_17, e_182_18, e_182_19, e_182_20, e_182_23, e_182_26, e_182_27, sk_0 hv, sr_0_0 hv, sr_0_1 hv, sr_0_2 hv, sr_0_4 hv, sr_0_7 hv, sr_0_9 hv, sr_0_10 hv, sr_0_11 hv, sr_0_12 hv, sr_0_13 hv, sr_0_14 hv, sk_1 hv, sr_1_0 hv, sr_1_1 hv, sr_1_2 hv, sr_1_3 hv, sr_1_4 hv, sr_1_7 hv, sr_1_9 hv, sr_1_14 hv, sr_1_15 hv, sr_1_16 hv, sk_2 hv, sn_2 hv, sk_3 hv, sn_3 hv, sk_4 hv, sn_4 hv, sk_5 hv, sn_5 hv, sk_6 hv, sn_6 hv, sk_54 hv, sr_54_2 hv, sr_54_3 hv, sr_54_4 hv, sr_54_5 hv, sr_54_7 hv, sr_54_8 hv, sr_54_9 hv, sr_54_12 hv, sr_54_13 hv, sr_54_14 hv, sr_54_22 hv, sr_54_25 hv, sr_54_26 hv, sr_54_27 hv, sr_54_34 hv, sr_54_35 hv, sr_54_36 hv, sr_54_37 hv, sr_54_38 hv, sr_54_40 hv, sr_54_43 hv, sr_54_44 hv, sr_54_45 hv, sr_54_46 hv, sr_54_47 hv, nL, nI_add, nI_mul, nI_clamp, nI_ltI, nI_leI, nI_eq, nI_pos, nI_pos', Nat.reduceAdd, Nat.reduceMul, Nat.reducePow, ti_0, ti_1, ti_2, ti_3, ti_4, ti_5, ti_6, ti_7, ti_8, ti_9, ti_10, ti_11, ti_12, ti_13, ti_14, ti_15, Int.reduceLT, Int.reduceSub, Int.reduceToNat, Int.sub_zero, Int.toNat_zero, Int.toNat_one, List.getElem?_cons_succ, List.getElem?_cons_zero, Int.lt_irrefl, s_has (sk_1 hv), t_isHouse, t_lies, t_factOf, t1.1, hn2, le_sub1, bI_t, hh2, u5]
        exact hq
      · obtain ⟨x, y, w, d, r, s, z⟩ := w1.2.1 h hh
        have hm : mkN (St (gI σ (gB G + 56))) (hn (gI σ (gB G + 56))) < 4096 := mk_lt12 hn1
        have e : bI ((mkN (St (gI σ (gB G + 56))) (hn (gI σ (gB G + 56)))).testBit h = true) = gI σ (gB G + 56) (6 * h + 5) := by
          rw [tb_mk]
          have : s = 0 ∨ s = 1 := by omega
          rcases this with rfl | rfl
          · simp [hh, St, z.2.2.2.2.2.1, nI_eq, bI_F]
          · simp [hh, St, z.2.2.2.2.2.1, bI_T]
        simp (disch := first | omega | (simp only [IvS_I, IvS_J, IvS_r]; assumption)) only [List.map_cons, List.map_nil, Value.int.injEq, gSc_r, gSc_I, n10, n01, Nat.not_lt_zero, ne_eq, Nat.add_zero, Nat.one_ne_zero, Nat.zero_ne_one, Nat.reduceEqDiff, bI_T, bI_F, bI_0, bI_1, bI_01, not_and_self, true_and, and_true, not_true_eq_false, not_false_eq_true, false_imp_iff, true_imp_iff, imp_self, gPv_n, gPv_i, gPv_r, gPv_0, Option.toList_some, Option.toList_none, List.singleton_append, List.cons_append, List.nil_append, List.length_nil, List.length_cons, Nat.zero_le, Nat.reduceAdd, Nat.reduceLeDiff, or_true, true_or, false_or, or_false, and_self, and_false, false_and, implies_true, Option.some.injEq, exists_eq_left', c_115, e_115_0, e_115_1, e_115_4, e_115_5, e_115_8, e_115_11, e_115_12, e_115_13, e_115_14, e_115_52, e_115_53, e_115_56, e_115_59, e_115_60, e_115_61, e_115_62, e_115_63, e_115_66, e_115_69, e_115_70, e_115_71, e_115_72, e_115_73, e_115_76, e_115_79, e_115_80, e_115_81, e_115_82, e_115_83, e_115_86, e_115_89, e_115_90, e_115_91, e_115_92, e_115_93, e_115_96, e_115_99, e_115_100, e_115_101, e_115_102, e_115_103, e_115_106, e_115_109, e_115_110, e_115_113, e_115_114, e_115_115, c_182, e_182_0, e_182_1, e_182_2, e_182_5, e_182_8, e_182_9, e_182_10, e_182_11, e_182_14, e_182_17, e_182_18, e_182_19, e_182_20, e_182_23, e_182_26, e_182_27, sk_0 hv, sr_0_0 hv, sr_0_1 hv, sr_0_2 hv, sr_0_4 hv, sr_0_7 hv, sr_0_9 hv, sr_0_10 hv, sr_0_11 hv, sr_0_12 hv, sr_0_13 hv, sr_0_14 hv, sk_1 hv, sr_1_0 hv, sr_1_1 hv, sr_1_2 hv, sr_1_3 hv, sr_1_4 hv, sr_1_7 hv, sr_1_9 hv, sr_1_14 hv, sr_1_15 hv, sr_1_16 hv, sk_2 hv, sn_2 hv, sk_3 hv, sn_3 hv, sk_4 hv, sn_4 hv, sk_5 hv, sn_5 hv, sk_6 hv, sn_6 hv, sk_54 hv, sr_54_2 hv, sr_54_3 hv, sr_54_4 hv, sr_54_5 hv, sr_54_7 hv, sr_54_8 hv, sr_54_9 hv, sr_54_12 hv, sr_54_13 hv, sr_54_14 hv, sr_54_22 hv, sr_54_25 hv, sr_54_26 hv, sr_54_27 hv, sr_54_34 hv, sr_54_35 hv, sr_54_36 hv, sr_54_37 hv, sr_54_38 hv, sr_54_40 hv, sr_54_43 hv, sr_54_44 hv, sr_54_45 hv, sr_54_46 hv, sr_54_47 hv, nL, nI_add, nI_mul, nI_clamp, nI_ltI, nI_leI, nI_eq, nI_pos, nI_pos', Nat.reduceAdd, Nat.reduceMul, Nat.reducePow, ti_0, ti_1, ti_2, ti_3, ti_4, ti_5, ti_6, ti_7, ti_8, ti_9, ti_10, ti_11, ti_12, ti_13, ti_14, ti_15, Int.reduceLT, Int.reduceSub, Int.reduceToNat, Int.sub_zero, Int.toNat_zero, Int.toNat_one, List.getElem?_cons_succ, List.getElem?_cons_zero, Int.lt_irrefl, s_has (sk_1 hv), t_isHouse, t_lies, t_factOf, t1.1, hn2, le_sub1, bI_t, hh2, s_bitOf, t1.2.1, nI_bit, e]
        exact hq
    · have h2 := nin (by omega) h1
      have h2 : p1.toInt < 0 ∨ 5 < p1.toInt := by omega
      simp (disch := first | omega | (simp only [IvS_I, IvS_J, IvS_r]; assumption)) only [List.map_cons, List.map_nil, Value.int.injEq, gSc_r, gSc_I, n10, n01, Nat.not_lt_zero, ne_eq, Nat.add_zero, Nat.one_ne_zero, Nat.zero_ne_one, Nat.reduceEqDiff, bI_T, bI_F, bI_0, bI_1, bI_01, not_and_self, true_and, and_true, not_true_eq_false, not_false_eq_true, false_imp_iff, true_imp_iff, imp_self, gPv_n, gPv_i, gPv_r, gPv_0, Option.toList_some, Option.toList_none, List.singleton_append, List.cons_append, List.nil_append, List.length_nil, List.length_cons, Nat.zero_le, Nat.reduceAdd, Nat.reduceLeDiff, or_true, true_or, false_or, or_false, and_self, and_false, false_and, implies_true, Option.some.injEq, exists_eq_left', c_115, e_115_0, e_115_1, e_115_4, e_115_5, e_115_8, e_115_11, e_115_12, e_115_13, e_115_14, e_115_52, e_115_53, e_115_56, e_115_59, e_115_60, e_115_61, e_115_62, e_115_63, e_115_66, e_115_69, e_115_70, e_115_71, e_115_72, e_115_73, e_115_76, e_115_79, e_115_80, e_115_81, e_115_82, e_115_83, e_115_86, e_115_89, e_115_90, e_115_91, e_115_92, e_115_93, e_115_96, e_115_99, e_115_100, e_115_101, e_115_102, e_115_103, e_115_106, e_115_109, e_115_110, e_115_113, e_115_114, e_115_115, c_182, e_182_0, e_182_1, e_182_2, e_182_5, e_182_8, e_182_9, e_182_10, e_182_11, e_182_14, e_182_17, e_182_18, e_182_19, e_182_20, e_182_23, e_182_26, e_182_27, sk_0 hv, sr_0_0 hv, sr_0_1 hv, sr_0_2 hv, sr_0_4 hv, sr_0_7 hv, sr_0_9 hv, sr_0_10 hv, sr_0_11 hv, sr_0_12 hv, sr_0_13 hv, sr_0_14 hv, sk_1 hv, sr_1_0 hv, sr_1_1 hv, sr_1_2 hv, sr_1_3 hv, sr_1_4 hv, sr_1_7 hv, sr_1_9 hv, sr_1_14 hv, sr_1_15 hv, sr_1_16 hv, sk_2 hv, sn_2 hv, sk_3 hv, sn_3 hv, sk_4 hv, sn_4 hv, sk_5 hv, sn_5 hv, sk_6 hv, sn_6 hv, sk_54 hv, sr_54_2 hv, sr_54_3 hv, sr_54_4 hv, sr_54_5 hv, sr_54_7 hv, sr_54_8 hv, sr_54_9 hv, sr_54_12 hv, sr_54_13 hv, sr_54_14 hv, sr_54_22 hv, sr_54_25 hv, sr_54_26 hv, sr_54_27 hv, sr_54_34 hv, sr_54_35 hv, sr_54_36 hv, sr_54_37 hv, sr_54_38 hv, sr_54_40 hv, sr_54_43 hv, sr_54_44 hv, sr_54_45 hv, sr_54_46 hv, sr_54_47 hv, nL, nI_add, nI_mul, nI_clamp, nI_ltI, nI_leI, nI_eq, nI_pos, nI_pos', Nat.reduceAdd, Nat.reduceMul, Nat.reducePow, s_has (sk_1 hv), t_isHouse, t_lies, t_factOf, t1.1, hn2, le_sub1, hh, h1, h2]
      exact hq
  · simp (disch := first | omega | (simp only [IvS_I, IvS_J, IvS_r]; assumption)) only [List.map_cons, List.map_nil, Value.int.injEq, gSc_r, gSc_I, n10, n01, Nat.not_lt_zero, ne_eq, Nat.add_zero, Nat.one_ne_zero, Nat.zero_ne_one, Nat.reduceEqDiff, bI_T, bI_F, bI_0, bI_1, bI_01, not_and_self, true_and, and_true, not_true_eq_false, not_false_eq_true, false_imp_iff, true_imp_iff, imp_self, gPv_n, gPv_i, gPv_r, gPv_0, Option.toList_some, Option.toList_none, List.singleton_append, List.cons_append, List.nil_append, List.length_nil, List.length_cons, Nat.zero_le, Nat.reduceAdd, Nat.reduceLeDiff, or_true, true_or, false_or, or_false, and_self, and_false, false_and, implies_true, Option.some.injEq, exists_eq_left', c_115, e_115_0, e_115_1, e_115_4, e_115_5, e_115_8, e_115_11, e_115_12, e_115_13, e_115_14, e_115_52, e_115_53, e_115_56, e_115_59, e_115_60, e_115_61, e_115_62, e_115_63, e_115_66, e_115_69, e_115_70, e_115_71, e_115_72, e_115_73, e_115_76, e_115_79, e_115_80, e_115_81, e_115_82, e_115_83, e_115_86, e_115_89, e_115_90, e_115_91, e_115_92, e_115_93, e_115_96, e_115_99, e_115_100, e_115_101, e_115_102, e_115_103, e_115_106, e_115_109, e_115_110, e_115_113, e_115_114, e_115_115, c_182, e_182_0, e_182_1, e_182_2, e_182_5, e_182_8, e_182_9, e_182_10, e_182_11, e_182_14, e_182_17, e_182_18, e_182_19, e_182_20, e_182_23, e_182_26, e_182_27, sk_0 hv, sr_0_0 hv, sr_0_1 hv, sr_0_2 hv, sr_0_4 hv, sr_0_7 hv, sr_0_9 hv, sr_0_10 hv, sr_0_11 hv, sr_0_12 hv, sr_0_13 hv, sr_0_14 hv, sk_1 hv, sr_1_0 hv, sr_1_1 hv, sr_1_2 hv, sr_1_3 hv, sr_1_4 hv, sr_1_7 hv, sr_1_9 hv, sr_1_14 hv, sr_1_15 hv, sr_1_16 hv, sk_2 hv, sn_2 hv, sk_3 hv, sn_3 hv, sk_4 hv, sn_4 hv, sk_5 hv, sn_5 hv, sk_6 hv, sn_6 hv, sk_54 hv, sr_54_2 hv, sr_54_3 hv, sr_54_4 hv, sr_54_5 hv, sr_54_7 hv, sr_54_8 hv, sr_54_9 hv, sr_54_12 hv, sr_54_13 hv, sr_54_14 hv, sr_54_22 hv, sr_54_25 hv, sr_54_26 hv, sr_54_27 hv, sr_54_34 hv, sr_54_35 hv, sr_54_36 hv, sr_54_37 hv, sr_54_38 hv, sr_54_40 hv, sr_54_43 hv, sr_54_44 hv, sr_54_45 hv, sr_54_46 hv, sr_54_47 hv, nL, s_has (sk_1 hv), t_isHouse, t_lies, t_factOf, t1.1, hn2, le_sub1, h0]
    exact hq
end
