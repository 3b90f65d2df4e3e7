/-! the class's caches -/
/-- the rows (from B + 25 on) that a cache's word speaks of -/
def cR (c : Nat) : List Nat := [[4], [5], [6, 7], [12, 16], [17], [20, 22]].getD c []
def CVl (CV : Nat → (Nat → Int32) → (Nat → Nat → Int32) → Prop) : Prop := (∀ c A W W', c < 6 → (∀ o ∈ cR c, W' o = W o) → CV c A W → CV c A W') ∧ (∀ A W, CV 0 A W ↔ ∀ j, j < 12 → W 4 j = nI (opn A (A 249) j)) ∧ (∀ A W, CV 1 A W ↔ ∀ j, j < 12 → W 5 j = nI (wdn A (A 249) j))
def Ca (CV : Nat → (Nat → Int32) → (Nat → Nat → Int32) → Prop) (B : Nat) (A : Nat → Int32) (σ : gS) (cc : Nat) : Prop := gI σ (B + 1) 17 = nI cc ∧ cc < 1000000 ∧ ∀ i, i < 6 → (gI σ (B + cO i) (cF i) = -nI 1 ∨ ∃ a, gI σ (B + cO i) (cF i) = nI a ∧ a ≤ cc) ∧ (gI σ (B + cO i) (cF i) = nI cc → CV i A (cw B σ))
theorem cR_lt : ∀ c, c < 6 → ∀ o ∈ cR c, o < 29 := by decide
theorem cw_r {B : Nat} {σ : gS} {o : Nat} (ho : o < 29) : cw B σ o = gI σ (B + (25 + o)) := by
  simp only [cw, if_pos ho, Nat.add_assoc]
section
variable {CV : Nat → (Nat → Int32) → (Nat → Nat → Int32) → Prop} {B : Nat} {own : Nat → Nat} {σ : gS} {A : Nat → Int32} {d cc : Nat} {Q : Option Value → gS → Prop}
theorem Ca_G {τ : gS} (hl : CVl CV) (h : Ca CV B A σ cc) (h1 : gI τ (B + 1) 17 = gI σ (B + 1) 17) (h2 : ∀ i, i < 6 → (gI τ (B + cO i) (cF i) = gI σ (B + cO i) (cF i) ∧ ∀ o ∈ cR i, gI τ (B + (25 + o)) = gI σ (B + (25 + o))) ∨ (gI τ (B + cO i) (cF i) = nI cc ∧ CV i A (cw B τ))) : Ca CV B A τ cc := by
  obtain ⟨a1, a2, a3⟩ := h
  refine ⟨h1.trans a1, a2, ?_⟩
  intro i hi
  rcases h2 i hi with ⟨b1, b2⟩ | ⟨b1, b2⟩
  · rw [b1]
    refine ⟨(a3 i hi).1, fun z => hl.1 i A _ _ hi ?_ ((a3 i hi).2 z)⟩
    intro o ho
    rw [cw_r (cR_lt i hi o ho), cw_r (cR_lt i hi o ho)]
    exact b2 o ho
  · exact ⟨Or.inr ⟨cc, b1, Nat.le_refl _⟩, fun _ => b2⟩
theorem i6 {i : Nat} (h : i < 6) : i = 0 ∨ i = 1 ∨ i = 2 ∨ i = 3 ∨ i = 4 ∨ i = 5 := by omega
/-- a step that touches none of the caches' rows -/
theorem Ca_P {P : Nat → Prop} {τ : gS} (hl : CVl CV) (h : Ca CV B A σ cc) (hS : Sm P σ τ) (hp : ∀ a, P a → B + 26 ≤ a ∧ a ≤ B + 28 ∨ B + 33 ≤ a ∧ a ≤ B + 36 ∨ B + 38 ≤ a ∧ a ≤ B + 40 ∨ B + 43 ≤ a ∧ a ≤ B + 44 ∨ a = B + 46 ∨ a = B + 48 ∨ B + 49 ≤ a) : Ca CV B A τ cc := by
  have e : ∀ a, ¬ (B + 26 ≤ a ∧ a ≤ B + 28 ∨ B + 33 ≤ a ∧ a ≤ B + 36 ∨ B + 38 ≤ a ∧ a ≤ B + 40 ∨ B + 43 ≤ a ∧ a ≤ B + 44 ∨ a = B + 46 ∨ a = B + 48 ∨ B + 49 ≤ a) → gI τ a = gI σ a := fun a ha => hS.2.2.2.2.2.2.1 a (fun z => ha (hp a z))
  refine Ca_G hl h (by rw [e (B + 1) (by omega)]) ?_
  intro i hi
  refine Or.inl ⟨?_, ?_⟩
  · rw [e (B + cO i) (by rcases i6 hi with rfl | rfl | rfl | rfl | rfl | rfl <;> simp only [cO, List.getD_cons_zero, List.getD_cons_succ] <;> omega)]
  · intro o ho
    refine e _ ?_
    rcases i6 hi with rfl | rfl | rfl | rfl | rfl | rfl <;> simp only [cR, List.getD_cons_zero, List.getD_cons_succ, List.mem_cons, List.not_mem_nil, or_false] at ho <;> omega
theorem cO_v : cO 0 = 25 ∧ cO 1 = 25 ∧ cO 2 = 25 ∧ cO 3 = 37 ∧ cO 4 = 42 ∧ cO 5 = 45 ∧ cF 0 = 6 ∧ cF 1 = 7 ∧ cF 2 = 8 ∧ cF 3 = 6 ∧ cF 4 = 3 ∧ cF 5 = 7 := by decide
theorem s_openRows (hl : CVl CV) (h : Ctx B own σ A) (ha : Ca CV B A σ cc) (K : ∀ τ, Sm (fun a => B + 25 ≤ a ∧ a ≤ B + 29) σ τ → Ctx B own τ A → Ca CV B A τ cc → (∀ j, j < 12 → gI τ (B + 29) j = nI (opn A (A 249) j)) → Q (some (.ref (B + 29))) τ) : wc (d + 7) 87 [.ref (B + 25)] σ Q := by
  have hv := h.1
  have e17 := ha.1
  have cc1 := ha.2.1
  have e13 : gI σ (B + 1) 13 = A 249 := h.2.1.2.1.2.2.1.2
  by_cases hc : gI σ (B + 25) 6 = nI cc
  · have := (ha.2.2 0 (by omega)).2 hc
    rw [hl.2.1] at this
    have r : ∀ j, j < 12 → gI σ (B + 29) j = nI (opn A (A 249) j) := by
      intro j hj
      have := this j hj
      rw [cw_r (by omega)] at this
      exact this
    simp (disch := omega) only [c_87, e_87_0, e_87_1, e_87_4, e_87_5, e_87_8, e_87_11, e_87_14, e_87_15, e_87_16, e_87_19, e_87_20, e_87_23, e_87_26, e_87_29, e_87_30, e_87_31, e_87_34, e_87_37, e_87_40, e_87_41, e_87_44, e_87_44n, n10, n01, Nat.lt_irrefl, Nat.not_lt_zero, ne_eq, Nat.add_zero, Nat.one_ne_zero, Nat.zero_ne_one, Nat.reduceEqDiff, bI_T, bI_F, bI_0, bI_1, bI_01, not_and_self, true_and, and_true, not_true_eq_false, not_false_eq_true, false_imp_iff, true_imp_iff, imp_self, gPv_n, gPv_i, gPv_r, gPv_0, Option.toList_some, Option.toList_none, List.singleton_append, List.cons_append, List.nil_append, List.length_nil, List.length_cons, Nat.zero_le, Nat.reduceAdd, Nat.reduceLeDiff, or_true, true_or, false_or, or_false, and_self, and_false, false_and, implies_true, Option.some.injEq, exists_eq_left', nL, sk_1 hv, sr_1_0 hv, sr_1_1 hv, sr_1_2 hv, sr_1_3 hv, sr_1_4 hv, sr_1_7 hv, sr_1_9 hv, sr_1_14 hv, sr_1_15 hv, sr_1_16 hv, sk_25 hv, sr_25_0 hv, sr_25_1 hv, sr_25_2 hv, sr_25_3 hv, sr_25_4 hv, sr_25_5 hv, e17, hc]
    exact K σ (Sm_refl _ _) h ha r
  · simp (disch := omega) only [c_87, e_87_0, e_87_1, e_87_4, e_87_5, e_87_8, e_87_11, e_87_14, e_87_15, e_87_16, e_87_19, e_87_20, e_87_23, e_87_26, n10, n01, Nat.lt_irrefl, Nat.not_lt_zero, ne_eq, Nat.add_zero, Nat.one_ne_zero, Nat.zero_ne_one, Nat.reduceEqDiff, bI_T, bI_F, bI_0, bI_1, bI_01, not_and_self, true_and, and_true, not_true_eq_false, not_false_eq_true, false_imp_iff, true_imp_iff, imp_self, gPv_n, gPv_i, gPv_r, gPv_0, Option.toList_some, Option.toList_none, List.singleton_append, List.cons_append, List.nil_append, List.length_nil, List.length_cons, Nat.zero_le, Nat.reduceAdd, Nat.reduceLeDiff, or_true, true_or, false_or, or_false, and_self, and_false, false_and, implies_true, Option.some.injEq, exists_eq_left', nL, sk_1 hv, sr_1_0 hv, sr_1_1 hv, sr_1_2 hv, sr_1_3 hv, sr_1_4 hv, sr_1_7 hv, sr_1_9 hv, sr_1_14 hv, sr_1_15 hv, sr_1_16 hv, sk_25 hv, sr_25_0 hv, sr_25_1 hv, sr_25_2 hv, sr_25_3 hv, sr_25_4 hv, sr_25_5 hv, e17, e13, hc]
    refine s_fillOpen h (Or.inl rfl) ?_
    intro τ hS hr
    have hcT := Ctx_R h (Or.inl rfl) hS
    have hvT := hcT.1
    have e17' : gI τ (B + 1) 17 = nI cc := by rw [hS.2.2.2.2.2.2.1 (B + 1) (by omega)]; exact e17
    simp (disch := omega) only [e_87_29, e_87_30, e_87_31, e_87_34, e_87_37, e_87_40, e_87_41, e_87_44, e_87_44n, n10, n01, Nat.lt_irrefl, Nat.not_lt_zero, ne_eq, Nat.add_zero, Nat.one_ne_zero, Nat.zero_ne_one, Nat.reduceEqDiff, bI_T, bI_F, bI_0, bI_1, bI_01, not_and_self, true_and, and_true, not_true_eq_false, not_false_eq_true, false_imp_iff, true_imp_iff, imp_self, gPv_n, gPv_i, gPv_r, gPv_0, Option.toList_some, Option.toList_none, List.singleton_append, List.cons_append, List.nil_append, List.length_nil, List.length_cons, Nat.zero_le, Nat.reduceAdd, Nat.reduceLeDiff, or_true, true_or, false_or, or_false, and_self, and_false, false_and, implies_true, Option.some.injEq, exists_eq_left', nL, sk_1 hvT, sr_1_0 hvT, sr_1_1 hvT, sr_1_2 hvT, sr_1_3 hvT, sr_1_4 hvT, sr_1_7 hvT, sr_1_9 hvT, sr_1_14 hvT, sr_1_15 hvT, sr_1_16 hvT, sk_25 hvT, sr_25_0 hvT, sr_25_1 hvT, sr_25_2 hvT, sr_25_3 hvT, sr_25_4 hvT, sr_25_5 hvT, n_K_I, n_K_J, n_K_R, n_K_r, n_N_I, n_N_J, n_N_R, n_N_r, n_R_I, n_R_J, n_R_r, n_J_I, n_J_R, n_J_r, n_I_J, n_I_R, n_n_I, n_n_J, n_n_R, n_n_r, n_w_I, n_w_J, n_w_R, n_w_r, n_T_I, n_T_J, n_T_R, n_T_r, rI_ne, rI_nk, rI_eq, rr_ne, rr_eq, n_J_J, n_R_R, Nat.add_left_cancel_iff, Nat.add_right_cancel_iff, Nat.add_eq_left, Nat.left_eq_add, Nat.reduceEqDiff, Nat.reduceAdd, Nat.zero_ne_one, Nat.one_ne_zero, false_and, and_false, true_and, and_true, and_self, if_false, if_true, ↓reduceIte, e17']
    have hS2 : Sm (fun a => B + 25 ≤ a ∧ a ≤ B + 29) σ (sI τ (B + 25) 6 (nI cc)) := Sm_I (Sm_mono hS (fun a ha => by rcases ha with ha | ha <;> constructor <;> omega)) ⟨by omega, by omega⟩
    have hr2 : ∀ j, j < 12 → gI (sI τ (B + 25) 6 (nI cc)) (B + 29) j = nI (opn A (A 249) j) := by
      intro j hj
      rw [rI_ne (by omega)]
      exact hr j hj
    refine K _ hS2 (Ctx_S h (Sm_mono hS2 (fun a ha => ⟨by omega, by omega⟩))) ?_ hr2
    refine Ca_G hl ha ?_ ?_
    · rw [rI_ne (by omega), e17', e17]
    · have eo : ∀ a, B + 30 ≤ a → gI (sI τ (B + 25) 6 (nI cc)) a = gI σ a := fun a ha => by
        rw [rI_ne (by omega)]
        exact hS.2.2.2.2.2.2.1 a (by omega)
      have e25 : ∀ j, j ≠ 6 → gI (sI τ (B + 25) 6 (nI cc)) (B + 25) j = gI σ (B + 25) j := fun j hj => by
        rw [rI_nk hj, hS.2.2.2.2.2.2.1 (B + 25) (by omega)]
      intro i hi
      rcases i6 hi with rfl | rfl | rfl | rfl | rfl | rfl
      · refine Or.inr ⟨?_, ?_⟩
        · simp only [cO_v, rI_eq]
        · rw [hl.2.1]
          intro j hj
          rw [cw_r (by omega)]
          exact hr2 j hj
      all_goals
        refine Or.inl ⟨?_, ?_⟩
        · simp only [cO_v]
          first | rw [e25 _ (by omega)] | rw [eo _ (by omega)]
        · intro o ho
          refine eo _ ?_
          simp only [cR, List.getD_cons_zero, List.getD_cons_succ, List.mem_cons, List.not_mem_nil, or_false] at ho
          omega
theorem s_rowsByDoor (hl : CVl CV) (h : Ctx B own σ A) (ha : Ca CV B A σ cc) (K : ∀ τ, Sm (fun a => B + 25 ≤ a ∧ a ≤ B + 28 ∨ a = B + 30) σ τ → Ctx B own τ A → Ca CV B A τ cc → (∀ j, j < 12 → gI τ (B + 30) j = nI (wdn A (A 249) j)) → Q (some (.ref (B + 30))) τ) : wc (d + 6) 89 [.ref (B + 25)] σ Q := by
  have hv := h.1
  have e17 := ha.1
  have cc1 := ha.2.1
  by_cases hc : gI σ (B + 25) 7 = nI cc
  · have := (ha.2.2 1 (by omega)).2 hc
    rw [hl.2.2] at this
    have r : ∀ j, j < 12 → gI σ (B + 30) j = nI (wdn A (A 249) j) := by
      intro j hj
      have := this j hj
      rw [cw_r (by omega)] at this
      exact this
    simp (disch := omega) only [c_89, e_89_0, e_89_1, e_89_4, e_89_5, e_89_8, e_89_11, e_89_50, e_89_51, e_89_54, e_89_54n, n10, n01, Nat.lt_irrefl, Nat.not_lt_zero, ne_eq, Nat.add_zero, Nat.one_ne_zero, Nat.zero_ne_one, Nat.reduceEqDiff, bI_T, bI_F, bI_0, bI_1, bI_01, not_and_self, true_and, and_true, not_true_eq_false, not_false_eq_true, false_imp_iff, true_imp_iff, imp_self, gPv_n, gPv_i, gPv_r, gPv_0, Option.toList_some, Option.toList_none, List.singleton_append, List.cons_append, List.nil_append, List.length_nil, List.length_cons, Nat.zero_le, Nat.reduceAdd, Nat.reduceLeDiff, or_true, true_or, false_or, or_false, and_self, and_false, false_and, implies_true, Option.some.injEq, exists_eq_left', nL, sk_1 hv, sr_1_0 hv, sr_1_1 hv, sr_1_2 hv, sr_1_3 hv, sr_1_4 hv, sr_1_7 hv, sr_1_9 hv, sr_1_14 hv, sr_1_15 hv, sr_1_16 hv, sk_25 hv, sr_25_0 hv, sr_25_1 hv, sr_25_2 hv, sr_25_3 hv, sr_25_4 hv, sr_25_5 hv, e17, hc]
    exact K σ (Sm_refl _ _) h ha r
  · simp (disch := omega) only [c_89, e_89_0, e_89_1, e_89_4, e_89_5, e_89_8, e_89_11, e_89_14, e_89_15, e_89_16, e_89_19, e_89_22, e_89_25, e_89_26, n10, n01, Nat.lt_irrefl, Nat.not_lt_zero, ne_eq, Nat.add_zero, Nat.one_ne_zero, Nat.zero_ne_one, Nat.reduceEqDiff, bI_T, bI_F, bI_0, bI_1, bI_01, not_and_self, true_and, and_true, not_true_eq_false, not_false_eq_true, false_imp_iff, true_imp_iff, imp_self, gPv_n, gPv_i, gPv_r, gPv_0, Option.toList_some, Option.toList_none, List.singleton_append, List.cons_append, List.nil_append, List.length_nil, List.length_cons, Nat.zero_le, Nat.reduceAdd, Nat.reduceLeDiff, or_true, true_or, false_or, or_false, and_self, and_false, false_and, implies_true, Option.some.injEq, exists_eq_left', nL, sk_1 hv, sr_1_0 hv, sr_1_1 hv, sr_1_2 hv, sr_1_3 hv, sr_1_4 hv, sr_1_7 hv, sr_1_9 hv, sr_1_14 hv, sr_1_15 hv, sr_1_16 hv, sk_25 hv, sr_25_0 hv, sr_25_1 hv, sr_25_2 hv, sr_25_3 hv, sr_25_4 hv, sr_25_5 hv, n_K_I, n_K_J, n_K_R, n_K_r, n_N_I, n_N_J, n_N_R, n_N_r, n_R_I, n_R_J, n_R_r, n_J_I, n_J_R, n_J_r, n_I_J, n_I_R, n_n_I, n_n_J, n_n_R, n_n_r, n_w_I, n_w_J, n_w_R, n_w_r, n_T_I, n_T_J, n_T_R, n_T_r, rI_ne, rI_nk, rI_eq, rr_ne, rr_eq, n_J_J, n_R_R, Nat.add_left_cancel_iff, Nat.add_right_cancel_iff, Nat.add_eq_left, Nat.left_eq_add, Nat.reduceEqDiff, Nat.reduceAdd, Nat.zero_ne_one, Nat.one_ne_zero, false_and, and_false, true_and, and_true, and_self, if_false, if_true, ↓reduceIte, e17, hc]
    have hS0 : Sm (fun a => B + 25 ≤ a ∧ a ≤ B + 28 ∨ a = B + 30) σ (sI σ (B + 25) 7 (nI cc)) := Sm_I (Sm_refl _ _) (Or.inl ⟨by omega, by omega⟩)
    have hpm : ∀ a, (B + 25 ≤ a ∧ a ≤ B + 28 ∨ a = B + 30) → B + 25 ≤ a ∧ a < B + 54 := by intro a ha; omega
    refine s_rd2 (Ctx_S h (Sm_mono hS0 hpm)) 12 0 _ (by omega) (Sm_refl _ _) (fun j hj => absurd hj (by omega)) ?_
    intro τ hS hr
    have hS2 : Sm (fun a => B + 25 ≤ a ∧ a ≤ B + 28 ∨ a = B + 30) σ τ := Sm_trans hS0 (Sm_mono hS (fun a ha => by omega))
    refine K _ hS2 (Ctx_S h (Sm_mono hS2 hpm)) ?_ hr
    refine Ca_G hl ha ?_ ?_
    · rw [hS2.2.2.2.2.2.2.1 (B + 1) (by omega)]
    · have eo : ∀ a, B + 29 ≤ a → a ≠ B + 30 → gI τ a = gI σ a := fun a ha hb => hS2.2.2.2.2.2.2.1 a (by omega)
      have e25 : ∀ j, j ≠ 7 → gI τ (B + 25) j = gI σ (B + 25) j := fun j hj => by
        rw [hS.2.2.2.2.2.2.1 (B + 25) (by omega), rI_nk hj]
      intro i hi
      rcases i6 hi with rfl | rfl | rfl | rfl | rfl | rfl
      · refine Or.inl ⟨?_, ?_⟩
        · simp only [cO_v]
          rw [e25 _ (by omega)]
        · intro o ho
          simp only [cR, List.getD_cons_zero, List.getD_cons_succ, List.mem_cons, List.not_mem_nil, or_false] at ho
          exact eo _ (by omega) (by omega)
      · refine Or.inr ⟨?_, ?_⟩
        · simp only [cO_v]
          rw [hS.2.2.2.2.2.2.1 (B + 25) (by omega), rI_eq]
        · rw [hl.2.2]
          intro j hj
          rw [cw_r (by omega)]
          exact hr j hj
      all_goals
        refine Or.inl ⟨?_, ?_⟩
        · simp only [cO_v]
          first | rw [e25 _ (by omega)] | rw [eo _ (by omega) (by omega)]
        · intro o ho
          simp only [cR, List.getD_cons_zero, List.getD_cons_succ, List.mem_cons, List.not_mem_nil, or_false] at ho
          exact eo _ (by omega) (by omega)
end
