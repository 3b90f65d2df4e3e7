/-! doors: the class tries -/
set_option maxRecDepth 20000 in
theorem ch_66' {A : Nat → Int32} : cn (chB A) 144 0 ≤ 66 := by
  have h1 : cn (chB A) 144 0 ≤ cn (fun p => decide (p / 12 < p % 12)) 144 0 := cn_mo (fun j hj => by
    simp only [chB, prB, Bool.and_eq_true, decide_eq_true_iff] at hj
    exact decide_eq_true hj.1.1.1) 144 0
  have h2 : cn (fun p => decide (p / 12 < p % 12)) 144 0 = 66 := by decide
  omega
theorem dE_id {F W : Nat → Nat} {a b : Nat} (h1 : (F a).testBit b = (W a).testBit b) (h2 : (F b).testBit a = (W b).testBit a) : dE F W a b = F := by
  funext h
  by_cases c : h = a
  · subst c
    simp only [dE, if_true]
    refine Nat.eq_of_testBit_eq ?_
    intro j
    rw [tb_pb]
    by_cases cj : j = b
    · rw [if_pos cj, cj, h1]
    · rw [if_neg cj]
  · by_cases c2 : h = b
    · subst c2
      simp only [dE, if_neg c, if_true]
      refine Nat.eq_of_testBit_eq ?_
      intro j
      rw [tb_pb]
      by_cases cj : j = a
      · rw [if_pos cj, cj, h2]
      · rw [if_neg cj]
    · simp only [dE, if_neg c, if_neg c2]
theorem df_n {A : Nat → Int32} {a b : Nat} (h : dfB A a b = false) : (opn A (A 249) a).testBit b = (wdn A (A 249) a).testBit b ∧ (opn A (A 249) b).testBit a = (wdn A (A 249) b).testBit a := by
  rw [dfB, Bool.or_eq_false_iff, Nat.testBit_xor, Nat.testBit_xor] at h
  obtain ⟨h1, h2⟩ := h
  revert h1 h2
  cases (opn A (A 249) a).testBit b <;> cases (wdn A (A 249) a).testBit b <;> cases (opn A (A 249) b).testBit a <;> cases (wdn A (A 249) b).testBit a <;> decide
theorem D1_n {A : Nat → Int32} {p : Nat} (h : dfB A (p / 12) (p % 12) = false) : D1 A p = opn A (A 249) := dE_id (df_n h).1 (df_n h).2
theorem D2_n2 {A : Nat → Int32} {p q : Nat} (hp : p / 12 < p % 12) (hq : q / 12 < q % 12) (hpq : p ≠ q) (h : dfB A (q / 12) (q % 12) = false) : D2 A p q = D1 A p := by
  obtain ⟨h1, h2⟩ := df_n h
  refine dE_id ?_ ?_
  · rw [← h1, D1, dE]
    by_cases c : q / 12 = p / 12
    · rw [if_pos c, tb_pb, if_neg (by omega), c]
    · rw [if_neg c]
      by_cases c2 : q / 12 = p % 12
      · rw [if_pos c2, tb_pb, if_neg (by omega), c2]
      · rw [if_neg c2]
  · rw [← h2, D1, dE]
    by_cases c : q % 12 = p / 12
    · rw [if_pos c, tb_pb, if_neg (by omega), c]
    · rw [if_neg c]
      by_cases c2 : q % 12 = p % 12
      · rw [if_pos c2, tb_pb, if_neg (by omega), c2]
      · rw [if_neg c2]
theorem o1_sk {A : Nat → Int32} {p : Nat} (w : wsB A (opn A (A 249)) = false) (h : chB A p = false) : o1 A p = false := by
  rw [o1]
  cases c : prB A p
  · rfl
  · rw [chB, c, Bool.true_and] at h
    rw [D1_n h, w]
    rfl
theorem o2_sk {A : Nat → Int32} {r : Nat} (w : wsB A (opn A (A 249)) = false) (h1 : ∀ p, p < 144 → o1 A p = false) (hr : r < 20736) (h : chB A (r / 144) = false ∨ chB A (r % 144) = false) : o2 A r = false := by
  rw [o2]
  by_cases c0 : r / 144 < r % 144
  · cases c : prB A (r / 144)
    · simp
    · cases c' : prB A (r % 144)
      · simp
      · have g1 := h1 (r / 144) (by omega)
        have g2 := h1 (r % 144) (by omega)
        rw [o1, c, Bool.true_and] at g1
        rw [o1, c', Bool.true_and] at g2
        rw [chB, chB, c, c', Bool.true_and, Bool.true_and] at h
        have : wsB A (D2 A (r / 144) (r % 144)) = false := by
          rcases h with h | h
          · rw [D2, D1_n h]
            exact g2
          · have p1 := pr_lt c
            have p2 := pr_lt c'
            rw [D2_n2 p1.1 p2.1 (by omega) h]
            exact g1
        rw [this, Bool.and_false]
  · rw [decide_eq_false c0, Bool.false_and, Bool.false_and]
section
variable {B : Nat} {own : Nat → Nat} {σ : gS} {A : Nat → Int32} {d v : Nat} {Q : Option Value → gS → Prop} {E : Nat → Nat}
theorem s_lp2 (hc : Ctx B own σ A) (hO : ∀ j, j < 12 → gI σ (B + 29) j = nI (opn A (A 249) j)) (hW : ∀ j, j < 12 → gI σ (B + 30) j = nI (wdn A (A 249) j)) (K : ∀ τ', LsI B σ A 144 τ' → Q none τ') : ∀ m a τ (x4 x5 : Option Value), a + m = hn A → LsI B σ A (12 * a) τ → wp (d + 4) pr_14 Q 7 [some (.ref (B + 37)), some (.ref (B + 29)), some (.ref (B + 30)), some (.int (nI a)), x4, x5] [] τ := by
  have w1 : Wh A := hc.2.1.1.1
  have h12 := hn_le w1
  have hn2 := hn_eq w1
  have nch : ∀ j, ¬ (j / 12 < j % 12 ∧ j % 12 < hn A) → chB A j = false := by
    intro j hj
    rw [chB, prB, decide_eq_false hj, Bool.false_and, Bool.false_and]
  intro m
  induction m with
  | zero =>
    intro a τ x4 x5 ha hF
    have hcT : Ctx B own τ A := Ctx_S hc (Sm_mono hF.1 (fun a ha => by omega))
    have hvT := hcT.1
    have e5 : gI τ (B + 1) 5 = nI (hn A) := hcT.2.1.2.1.1.1.trans hn2
    have z : hn A ≤ a := by omega
    simp (disch := omega) only [e_14_7, e_14_8, e_14_9, e_14_12, e_14_15, e_14_138, n10, n01, Nat.lt_irrefl, Nat.not_lt_zero, ne_eq, Nat.add_zero, Nat.one_ne_zero, Nat.zero_ne_one, Nat.reduceEqDiff, bI_T, bI_F, bI_0, bI_1, bI_01, not_and_self, true_and, and_true, not_true_eq_false, not_false_eq_true, false_imp_iff, true_imp_iff, imp_self, gPv_n, gPv_i, gPv_r, gPv_0, Option.toList_some, Option.toList_none, List.singleton_append, List.cons_append, List.nil_append, List.length_nil, List.length_cons, Nat.zero_le, Nat.reduceAdd, Nat.reduceLeDiff, or_true, true_or, false_or, or_false, and_self, and_false, false_and, implies_true, Option.some.injEq, exists_eq_left', nL, nI_add, nI_mul, nI_clamp, nI_ltI, nI_leI, nI_eq, nI_pos, nI_pos', Nat.reduceAdd, Nat.reduceMul, Nat.reducePow, sk_1 hvT, sr_1_0 hvT, sr_1_1 hvT, sr_1_2 hvT, sr_1_3 hvT, sr_1_4 hvT, sr_1_7 hvT, sr_1_9 hvT, sr_1_14 hvT, sr_1_15 hvT, sr_1_16 hvT, sk_37 hvT, sr_37_0 hvT, sr_37_1 hvT, sr_37_2 hvT, sr_37_3 hvT, sr_37_5 hvT, e5, z]
    exact K τ (LsI_sk (144 - 12 * a) 144 (by omega) (by omega) hF (fun j j1 j2 => nch j (by omega)))
  | succ m ih =>
    intro a τ x4 x5 ha hF
    have ha' : a < hn A := by omega
    have hcT : Ctx B own τ A := Ctx_S hc (Sm_mono hF.1 (fun a ha => by omega))
    have hvT := hcT.1
    have e5 : gI τ (B + 1) 5 = nI (hn A) := hcT.2.1.2.1.1.1.trans hn2
    have z : ¬ hn A ≤ a := by omega
    rw [e_14_7]
    simp (disch := omega) only [e_14_8, e_14_9, e_14_12, e_14_15, e_14_18, e_14_19, e_14_20, e_14_21, n10, n01, Nat.lt_irrefl, Nat.not_lt_zero, ne_eq, Nat.add_zero, Nat.one_ne_zero, Nat.zero_ne_one, Nat.reduceEqDiff, bI_T, bI_F, bI_0, bI_1, bI_01, not_and_self, true_and, and_true, not_true_eq_false, not_false_eq_true, false_imp_iff, true_imp_iff, imp_self, gPv_n, gPv_i, gPv_r, gPv_0, Option.toList_some, Option.toList_none, List.singleton_append, List.cons_append, List.nil_append, List.length_nil, List.length_cons, Nat.zero_le, Nat.reduceAdd, Nat.reduceLeDiff, or_true, true_or, false_or, or_false, and_self, and_false, false_and, implies_true, Option.some.injEq, exists_eq_left', nL, nI_add, nI_mul, nI_clamp, nI_ltI, nI_leI, nI_eq, nI_pos, nI_pos', Nat.reduceAdd, Nat.reduceMul, Nat.reducePow, sk_1 hvT, sr_1_0 hvT, sr_1_1 hvT, sr_1_2 hvT, sr_1_3 hvT, sr_1_4 hvT, sr_1_7 hvT, sr_1_9 hvT, sr_1_14 hvT, sr_1_15 hvT, sr_1_16 hvT, sk_37 hvT, sr_37_0 hvT, sr_37_1 hvT, sr_37_2 hvT, sr_37_3 hvT, sr_37_5 hvT, e5, z]
    refine s_lp1 hc hO hW ha' (hn A - (a + 1)) (a + 1) τ _ (by omega) (by omega) (LsI_sk (a + 1) (12 * a + (a + 1)) (by omega) (by omega) hF (fun j j1 j2 => nch j (by omega))) ?_
    intro τ' x5 hF'
    simp (disch := omega) only [e_14_132, e_14_135, n10, n01, Nat.lt_irrefl, Nat.not_lt_zero, ne_eq, Nat.add_zero, Nat.one_ne_zero, Nat.zero_ne_one, Nat.reduceEqDiff, bI_T, bI_F, bI_0, bI_1, bI_01, not_and_self, true_and, and_true, not_true_eq_false, not_false_eq_true, false_imp_iff, true_imp_iff, imp_self, gPv_n, gPv_i, gPv_r, gPv_0, Option.toList_some, Option.toList_none, List.singleton_append, List.cons_append, List.nil_append, List.length_nil, List.length_cons, Nat.zero_le, Nat.reduceAdd, Nat.reduceLeDiff, or_true, true_or, false_or, or_false, and_self, and_false, false_and, implies_true, Option.some.injEq, exists_eq_left', nL, nI_add]
    exact ih (a + 1) τ' _ _ (by omega) (LsI_sk (12 - hn A) (12 * (a + 1)) (by omega) (by omega) hF' (fun j j1 j2 => nch j (by omega)))
theorem s_listPairs (hc : Ctx B own σ A) (hO : ∀ j, j < 12 → gI σ (B + 29) j = nI (opn A (A 249) j)) (hW : ∀ j, j < 12 → gI σ (B + 30) j = nI (wdn A (A 249) j)) (K : ∀ τ c, Sm (fun a => a = B + 37 ∨ a = B + 39 ∨ a = B + 40) σ τ → (∀ j, j ≠ 4 → gI τ (B + 37) j = gI σ (B + 37) j) → gI τ (B + 37) 4 = nI c → c ≤ 66 → LsR B A c τ → ps (chB A) c = 144 → Q none τ) : wc (d + 5) 14 [.ref (B + 37), .ref (B + 29), .ref (B + 30)] σ Q := by
  have hv := hc.1
  simp (disch := omega) only [c_14, e_14_0, e_14_1, e_14_2, e_14_5, e_14_6, n10, n01, Nat.lt_irrefl, Nat.not_lt_zero, ne_eq, Nat.add_zero, Nat.one_ne_zero, Nat.zero_ne_one, Nat.reduceEqDiff, bI_T, bI_F, bI_0, bI_1, bI_01, not_and_self, true_and, and_true, not_true_eq_false, not_false_eq_true, false_imp_iff, true_imp_iff, imp_self, gPv_n, gPv_i, gPv_r, gPv_0, Option.toList_some, Option.toList_none, List.singleton_append, List.cons_append, List.nil_append, List.length_nil, List.length_cons, Nat.zero_le, Nat.reduceAdd, Nat.reduceLeDiff, or_true, true_or, false_or, or_false, and_self, and_false, false_and, implies_true, Option.some.injEq, exists_eq_left', nL, sk_37 hv, sr_37_0 hv, sr_37_1 hv, sr_37_2 hv, sr_37_3 hv, sr_37_5 hv]
  have hS : Sm (fun a => a = B + 37 ∨ a = B + 39 ∨ a = B + 40) σ (sI σ (B + 37) 4 (nI 0)) := Sm_I (Sm_refl _ _) (by omega)
  have hc0 : Ctx B own (sI σ (B + 37) 4 (nI 0)) A := Ctx_S hc (Sm_mono hS (fun a ha => by omega))
  refine s_lp2 hc0 (fun j hj => by rw [rI_ne (by omega)]; exact hO j hj) (fun j hj => by rw [rI_ne (by omega)]; exact hW j hj) ?_ (hn A) 0 _ _ _ (by omega) ⟨Sm_refl _ _, fun _ _ => rfl, ?_, ?_, rfl⟩
  · intro τ ⟨g1, g2, g3, g4, g5⟩
    refine K τ _ (Sm_trans hS g1) ?_ g3 ch_66' g4 ?_
    · intro j hj
      rw [g2 j hj, rI_nk hj]
    · rw [g5, nx_e (Nat.le_refl _)]
  · rw [rI_eq]
    rfl
  · intro i hi
    exact absurd hi (by simp [cn])
theorem s_keep {C : Nat → Bool} {n p i j c : Nat} {f : Nat → Nat → Nat} (hv : IvS B σ) (hL : LsR B A c σ) (hi : i < c) (hj : j < c) (hc : c ≤ 66) (hn2 : n ≤ 2) (hp2 : p < 20736) (hX : DX C n f p (gI σ (B + 37) 7) (gI σ (B + 37) 8) (gI σ (B + 41))) (hC : C p = true) (hf : ∀ t, t < 2 * n → f p t = if t < 2 then f1 (ps (chB A) i) t else f1 (ps (chB A) j) (t - 2)) (K : ∀ τ, Sm (fun a => a = B + 37 ∨ a = B + 41) σ τ → (∀ t, t ≠ 7 → t ≠ 8 → gI τ (B + 37) t = gI σ (B + 37) t) → DX C n f (p + 1) (gI τ (B + 37) 7) (gI τ (B + 37) 8) (gI τ (B + 41)) → Q none τ) : wc (d + 2) 17 [.ref (B + 37), .int (nI n), .int (nI i), .int (nI j)] σ Q := by
  have cl := cn_le C p 0
  obtain ⟨x1, x2⟩ := id hX
  obtain ⟨a1, a2, _⟩ := hL i hi
  obtain ⟨b1, b2, _⟩ := hL j hj
  have i65 : i ≤ 65 := by omega
  have j65 : j ≤ 65 := by omega
  have i66 : i < 66 := by omega
  have j66 : j < 66 := by omega
  by_cases c0 : cn C p 0 = 0
  · have f0 := (cn_fo' p 0).mp c0
    have x1' : gI σ (B + 37) 8 = nI 0 := by rw [x1, c0]
    simp (disch := omega) only [c_17, e_17_0, e_17_1, e_17_4, e_17_7, e_17_8, e_17_9, e_17_11, e_17_14, e_17_17, e_17_18, e_17_19, e_17_21, e_17_24, e_17_27, e_17_28, e_17_29, e_17_32, e_17_33, e_17_36, e_17_37, e_17_38, e_17_41, e_17_42, e_17_43, e_17_44, e_17_45, e_17_48, e_17_49, e_17_50, e_17_53, e_17_54, e_17_55, e_17_56, e_17_57, e_17_60, e_17_61, e_17_62, e_17_65, e_17_66, e_17_67, e_17_68, e_17_69, e_17_72, e_17_73, e_17_74, e_17_77, e_17_78, e_17_79, e_17_80, e_17_81, e_17_81n, e_17_82, e_17_85, e_17_86, e_17_87, e_17_90, n10, n01, Nat.lt_irrefl, Nat.not_lt_zero, ne_eq, Nat.add_zero, Nat.one_ne_zero, Nat.zero_ne_one, Nat.reduceEqDiff, bI_T, bI_F, bI_0, bI_1, bI_01, not_and_self, true_and, and_true, not_true_eq_false, not_false_eq_true, false_imp_iff, true_imp_iff, imp_self, gPv_n, gPv_i, gPv_r, gPv_0, Option.toList_some, Option.toList_none, List.singleton_append, List.cons_append, List.nil_append, List.length_nil, List.length_cons, Nat.zero_le, Nat.reduceAdd, Nat.reduceLeDiff, or_true, true_or, false_or, or_false, and_self, and_false, false_and, implies_true, Option.some.injEq, exists_eq_left', nL, nI_add, nI_mul, nI_clamp, nI_ltI, nI_leI, nI_eq, nI_pos, nI_pos', Nat.reduceAdd, Nat.reduceMul, Nat.reducePow, sk_37 hv, sr_37_0 hv, sr_37_1 hv, sr_37_2 hv, sr_37_3 hv, sr_37_5 hv, sk_39 hv, sn_39 hv, sk_40 hv, sn_40 hv, sk_41 hv, sn_41 hv, n_K_I, n_K_J, n_K_R, n_K_r, n_N_I, n_N_J, n_N_R, n_N_r, n_R_I, n_R_J, n_R_r, n_J_I, n_J_R, n_J_r, n_I_J, n_I_R, n_n_I, n_n_J, n_n_R, n_n_r, n_w_I, n_w_J, n_w_R, n_w_r, n_T_I, n_T_J, n_T_R, n_T_r, rI_ne, rI_nk, rI_eq, rr_ne, rr_eq, n_J_J, n_R_R, Nat.add_left_cancel_iff, Nat.add_right_cancel_iff, Nat.add_eq_left, Nat.left_eq_add, Nat.reduceEqDiff, Nat.reduceAdd, Nat.zero_ne_one, Nat.one_ne_zero, false_and, and_false, true_and, and_true, and_self, if_false, if_true, ↓reduceIte, s_within, x1', i65, j65, i66, j66, a1, a2, b1, b2]
    refine ⟨by omega, by omega, by omega, by omega, ?_⟩
    refine K _ (Sm_I (Sm_I (Sm_I (Sm_I (Sm_I (Sm_I (Sm_refl _ _) (Or.inl rfl)) (Or.inr rfl)) (Or.inr rfl)) (Or.inr rfl)) (Or.inr rfl)) (Or.inl rfl)) ?_ ⟨?_, ?_⟩
    · intro t t1 t2
      rw [rI_nk (by omega), rI_ne (by omega), rI_ne (by omega), rI_ne (by omega), rI_ne (by omega), rI_nk (by omega)]
    · rw [rI_eq, cn_s, hC, c0]
      rfl
    · rw [fo_s, f0, hC]
      refine ⟨?_, ?_⟩
      · rw [rI_nk (by omega), rI_ne (by omega), rI_ne (by omega), rI_ne (by omega), rI_ne (by omega), rI_eq]
      · intro t ht
        rw [hf t ht]
        have j4 : t = 0 ∨ t = 1 ∨ t = 2 ∨ t = 3 := by omega
        rcases j4 with rfl | rfl | rfl | rfl
        · rw [rI_ne (by omega), rI_nk (by omega), rI_nk (by omega), rI_nk (by omega), rI_eq]
          rfl
        · rw [rI_ne (by omega), rI_nk (by omega), rI_nk (by omega), rI_eq]
          rfl
        · rw [rI_ne (by omega), rI_nk (by omega), rI_eq]
          rfl
        · rw [rI_ne (by omega), rI_eq]
          rfl
  · obtain ⟨q, hq⟩ : ∃ q, fo C p 0 = some q := by
      cases z : fo C p 0 with
      | none => exact absurd ((cn_fo' p 0).mpr z) c0
      | some q => exact ⟨q, rfl⟩
    simp (disch := omega) only [c_17, e_17_0, e_17_1, e_17_4, e_17_7, e_17_8, e_17_9, e_17_11, e_17_14, e_17_17, e_17_18, e_17_19, e_17_21, e_17_24, e_17_27, e_17_28, e_17_29, e_17_32, e_17_33, e_17_36, e_17_37, e_17_38, e_17_41, e_17_42, e_17_43, e_17_44, e_17_45, e_17_48, e_17_49, e_17_50, e_17_53, e_17_54, e_17_55, e_17_56, e_17_57, e_17_60, e_17_61, e_17_62, e_17_65, e_17_66, e_17_67, e_17_68, e_17_69, e_17_72, e_17_73, e_17_74, e_17_77, e_17_78, e_17_79, e_17_80, e_17_81, e_17_81n, e_17_82, e_17_85, e_17_86, e_17_87, e_17_90, n10, n01, Nat.lt_irrefl, Nat.not_lt_zero, ne_eq, Nat.add_zero, Nat.one_ne_zero, Nat.zero_ne_one, Nat.reduceEqDiff, bI_T, bI_F, bI_0, bI_1, bI_01, not_and_self, true_and, and_true, not_true_eq_false, not_false_eq_true, false_imp_iff, true_imp_iff, imp_self, gPv_n, gPv_i, gPv_r, gPv_0, Option.toList_some, Option.toList_none, List.singleton_append, List.cons_append, List.nil_append, List.length_nil, List.length_cons, Nat.zero_le, Nat.reduceAdd, Nat.reduceLeDiff, or_true, true_or, false_or, or_false, and_self, and_false, false_and, implies_true, Option.some.injEq, exists_eq_left', nL, nI_add, nI_mul, nI_clamp, nI_ltI, nI_leI, nI_eq, nI_pos, nI_pos', Nat.reduceAdd, Nat.reduceMul, Nat.reducePow, sk_37 hv, sr_37_0 hv, sr_37_1 hv, sr_37_2 hv, sr_37_3 hv, sr_37_5 hv, sk_39 hv, sn_39 hv, sk_40 hv, sn_40 hv, sk_41 hv, sn_41 hv, n_K_I, n_K_J, n_K_R, n_K_r, n_N_I, n_N_J, n_N_R, n_N_r, n_R_I, n_R_J, n_R_r, n_J_I, n_J_R, n_J_r, n_I_J, n_I_R, n_n_I, n_n_J, n_n_R, n_n_r, n_w_I, n_w_J, n_w_R, n_w_r, n_T_I, n_T_J, n_T_R, n_T_r, rI_ne, rI_nk, rI_eq, rr_ne, rr_eq, n_J_J, n_R_R, Nat.add_left_cancel_iff, Nat.add_right_cancel_iff, Nat.add_eq_left, Nat.left_eq_add, Nat.reduceEqDiff, Nat.reduceAdd, Nat.zero_ne_one, Nat.one_ne_zero, false_and, and_false, true_and, and_true, and_self, if_false, if_true, ↓reduceIte, x1, c0]
    refine K _ (Sm_I (Sm_refl _ _) (Or.inl rfl)) ?_ ⟨?_, ?_⟩
    · intro t t1 t2
      rw [rI_nk (by omega)]
    · rw [rI_eq, cn_s, hC]
      rfl
    · rw [fo_s, hq, rI_nk (by omega), rI_ne (by omega)]
      rw [hq] at x2
      exact x2
end
