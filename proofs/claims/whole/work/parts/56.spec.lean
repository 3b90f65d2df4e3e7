/-! what the law in force says of a visit -/
def tkC (Co : Nat → Int32) (n t : Nat) : Nat := if t < n then (Co t).toNatClampNeg else 0
def tkV (Va : Nat → Int32) (t : Nat) : Nat := (Va t).toNatClampNeg
def tkL (Co Va : Nat → Int32) (n : Nat) : zR (List zC) := pLawL (tkC Co n) (tkV Va) (n + 1) n 12 0 0
def TokOK (Co Va : Nat → Int32) (n : Nat) (L : List zC) : Prop := (∃ t q, tkL Co Va n = .inr (t, q, L)) ∧ n ≤ 400 ∧ ∀ j, j < n → Co j = nI (tkC Co n j) ∧ tkC Co n j < 1000 ∧ Va j = nI (tkV Va j)
abbrev lwCo (A : Nat → Int32) (f : Nat) : Nat → Int32 := fun j => A (262 + 400 * f + j)
abbrev lwVa (A : Nat → Int32) (f : Nat) : Nat → Int32 := fun j => A (2662 + 400 * f + j)
def lawAt (A : Nat → Int32) (f : Nat) : List zC := match tkL (lwCo A f) (lwVa A f) (an A (256 + f)) with
  | .inl _ => []
  | .inr (_, _, L) => L
def lawL (A : Nat → Int32) : List zC := if A 255 = -nI 1 then [] else lawAt A (an A 255)
def LawOK (A : Nat → Int32) : Prop := A 255 = -nI 1 ∨ ∃ f L : _, A 255 = nI f ∧ f < 6 ∧ A (256 + f) = nI (an A (256 + f)) ∧ TokOK (lwCo A f) (lwVa A f) (an A (256 + f)) L
theorem lawAt_e {A : Nat → Int32} {f : Nat} {L : List zC} (h : TokOK (lwCo A f) (lwVa A f) (an A (256 + f)) L) : lawAt A f = L := by
  obtain ⟨⟨t, q, e⟩, _⟩ := h
  simp only [lawAt]
  rw [e]
def wdF (A : Nat → Int32) (f t : Nat) (dr dy : Int32) (j : Nat) : Int32 := [nI f, nI t, A (6 * f + 4), A (6 * t + 4), A (6 * f + 2) * A (6 * f + 3), A (6 * t + 2) * A (6 * t + 3), dr, A 248, dy].getD j 0
def brd (A : Nat → Int32) (f t : Nat) (dr dy : Int32) : Bool := zBar (lawL A) (wdF A f t dr dy)
def tks (A : Nat → Int32) (f t : Nat) (dr dy : Int32) : Int32 := zTak (lawL A) (wdF A f t dr dy)
theorem lt9 {j : Nat} (h : j < 9) : j = 0 ∨ j = 1 ∨ j = 2 ∨ j = 3 ∨ j = 4 ∨ j = 5 ∨ j = 6 ∨ j = 7 ∨ j = 8 := by omega
set_option maxHeartbeats 2000000 in
theorem t_asks {d B f t : Nat} {Q : Option Value → gS → Prop} {dr dy : Int32} {σ : gS} {A : Nat → Int32} (hv : IvS B σ) (hA : gI σ (B + 56) = A) (wh : Wh A) (wl : LawOK A) (hf : f < hn A) (ht : t < hn A)
    (K : ∀ τ, Sm (fun a => a = B + 54 ∨ a = B + 65) σ τ → (∀ j, j ≠ 19 → j ≠ 20 → j ≠ 21 → j ≠ 23 → j ≠ 24 → gI τ (B + 54) j = gI σ (B + 54) j) → gI τ (B + 54) 23 = tks A f t dr dy → gI τ (B + 54) 24 = bI (brd A f t dr dy = true) → Q none τ) : wc (d + 67) 227 [.ref (B + 54), .int (nI f), .int (nI t), .int dr, .int dy] σ Q := by
  have h12 := hn_le wh
  rcases wl with hm | ⟨lf, L, hlf, hl6, hsz, hok⟩
  · have e1 : gI σ (B + 56) 255 = -nI 1 := by rw [hA]; exact hm
    have hL : lawL A = [] := if_pos hm
    simp (disch := omega) only [c_227, e_227_0, e_227_1, e_227_2, e_227_5, e_227_6, e_227_7, e_227_10, e_227_11, e_227_14, e_227_17, e_227_18, e_227_19, e_227_22, n10, n01, Nat.lt_irrefl, Nat.not_lt_zero, ne_eq, Nat.add_zero, Nat.one_ne_zero, Nat.zero_ne_one, Nat.reduceEqDiff, bI_T, bI_F, bI_0, bI_1, bI_01, not_and_self, true_and, and_true, not_true_eq_false, not_false_eq_true, false_imp_iff, true_imp_iff, imp_self, gPv_n, gPv_i, gPv_r, gPv_0, Option.toList_some, Option.toList_none, List.singleton_append, List.cons_append, List.nil_append, List.length_nil, List.length_cons, Nat.zero_le, Nat.reduceAdd, Nat.reduceLeDiff, or_true, true_or, false_or, or_false, and_self, and_false, false_and, implies_true, Option.some.injEq, exists_eq_left', n_K_I, n_K_J, n_K_R, n_K_r, n_N_I, n_N_J, n_N_R, n_N_r, n_R_I, n_R_J, n_R_r, n_J_I, n_J_R, n_J_r, n_I_J, n_I_R, n_n_I, n_n_J, n_n_R, n_n_r, n_w_I, n_w_J, n_w_R, n_w_r, n_T_I, n_T_J, n_T_R, n_T_r, rI_ne, rI_nk, rI_eq, rr_ne, rr_eq, n_J_J, n_R_R, Nat.add_left_cancel_iff, Nat.add_right_cancel_iff, Nat.add_eq_left, Nat.left_eq_add, Nat.reduceEqDiff, Nat.reduceAdd, Nat.zero_ne_one, Nat.one_ne_zero, false_and, and_false, true_and, and_true, and_self, if_false, if_true, ↓reduceIte, nL, nI_add, nI_mul, nI_clamp, nI_ltI, nI_leI, nI_eq, nI_pos, nI_pos', Nat.reduceAdd, Nat.reduceMul, Nat.reducePow, sk_54 hv, sr_54_2 hv, sr_54_3 hv, sr_54_4 hv, sr_54_5 hv, sr_54_7 hv, sr_54_8 hv, sr_54_9 hv, sr_54_12 hv, sr_54_13 hv, sr_54_14 hv, sr_54_22 hv, sr_54_25 hv, sr_54_26 hv, sr_54_27 hv, sr_54_34 hv, sr_54_35 hv, sr_54_36 hv, sr_54_37 hv, sr_54_38 hv, sr_54_40 hv, sr_54_43 hv, sr_54_44 hv, sr_54_45 hv, sr_54_46 hv, sr_54_47 hv, sk_56 hv, sn_56 hv, e1, Nat.reduceLT]
    refine K _ (Sm_I (Sm_I (Sm_refl _ _) (Or.inl rfl)) (Or.inl rfl)) ?_ ?_ ?_
    · intro j h1 h2 h3 h4 h5
      simp (disch := omega) only [rI_nk]
    · simp (disch := omega) only [rI_nk, rI_eq, tks, hL, zTak, List.foldl_nil]
      rfl
    · simp (disch := omega) only [rI_eq, brd, hL, zBar, List.any_nil, Bool.false_eq_true, bI_F]
  · have hne : ¬ A 255 = -nI 1 := by rw [hlf]; exact fun z => ng_ne 1 lf (by omega) (by omega) (by omega) z.symm
    have hne2 : ¬ nI lf = -nI 1 := fun z => ng_ne 1 lf (by omega) (by omega) (by omega) z.symm
    have e1 : gI σ (B + 56) 255 = nI lf := by rw [hA]; exact hlf
    have hL : lawL A = L := by
      rw [lawL, if_neg hne, an_v hlf (by omega)]
      exact lawAt_e hok
    obtain ⟨⟨tt, qq, htk⟩, hn4, hcv⟩ := hok
    generalize hn : an A (256 + lf) = n at htk hn4 hcv hsz
    have e2 : gI σ (B + 56) (256 + lf) = nI n := by rw [hA]; exact hsz
    have z1 : 256 + lf < 5062 := by omega
    simp (disch := first | omega | (simp only [IvS_I]; assumption)) only [c_227, e_227_0, e_227_1, e_227_2, e_227_5, e_227_6, e_227_7, e_227_10, e_227_11, e_227_14, e_227_17, e_227_18, e_227_19, e_227_22, e_227_23, e_227_24, e_227_27, e_227_28, e_227_29, e_227_30, e_227_31, e_227_34, e_227_35, e_227_36, e_227_37, e_227_38, e_227_41, e_227_42, e_227_43, e_227_44, e_227_45, e_227_48, e_227_49, e_227_50, e_227_53, e_227_54, e_227_55, e_227_56, e_227_57, e_227_60, e_227_61, e_227_62, e_227_65, e_227_66, e_227_67, e_227_68, e_227_69, e_227_72, e_227_73, e_227_74, e_227_75, e_227_78, e_227_79, e_227_80, e_227_81, e_227_84, e_227_85, e_227_86, e_227_87, e_227_88, e_227_91, e_227_92, e_227_93, e_227_94, e_227_97, e_227_98, e_227_99, e_227_100, e_227_103, e_227_105, e_227_106, e_227_107, e_227_108, e_227_111, e_227_113, e_227_114, e_227_117, e_227_120, e_227_121, e_227_122, e_227_123, e_227_126, e_227_128, e_227_130, e_227_131, e_227_132, e_227_135, e_227_136, e_227_139, e_227_142, e_227_143, e_227_144, e_227_147, e_227_148, e_227_149, e_227_152, e_227_153, e_227_156, e_227_159, e_227_160, e_227_163, e_227_166, e_227_167, e_227_168, e_227_169, e_227_170, n10, n01, Nat.lt_irrefl, Nat.not_lt_zero, ne_eq, Nat.add_zero, Nat.one_ne_zero, Nat.zero_ne_one, Nat.reduceEqDiff, bI_T, bI_F, bI_0, bI_1, bI_01, not_and_self, true_and, and_true, not_true_eq_false, not_false_eq_true, false_imp_iff, true_imp_iff, imp_self, gPv_n, gPv_i, gPv_r, gPv_0, Option.toList_some, Option.toList_none, List.singleton_append, List.cons_append, List.nil_append, List.length_nil, List.length_cons, Nat.zero_le, Nat.reduceAdd, Nat.reduceLeDiff, or_true, true_or, false_or, or_false, and_self, and_false, false_and, implies_true, Option.some.injEq, exists_eq_left', n_K_I, n_K_J, n_K_R, n_K_r, n_N_I, n_N_J, n_N_R, n_N_r, n_R_I, n_R_J, n_R_r, n_J_I, n_J_R, n_J_r, n_I_J, n_I_R, n_n_I, n_n_J, n_n_R, n_n_r, n_w_I, n_w_J, n_w_R, n_w_r, n_T_I, n_T_J, n_T_R, n_T_r, rI_ne, rI_nk, rI_eq, rr_ne, rr_eq, n_J_J, n_R_R, Nat.add_left_cancel_iff, Nat.add_right_cancel_iff, Nat.add_eq_left, Nat.left_eq_add, Nat.reduceEqDiff, Nat.reduceAdd, Nat.zero_ne_one, Nat.one_ne_zero, false_and, and_false, true_and, and_true, and_self, if_false, if_true, ↓reduceIte, nL, nI_add, nI_mul, nI_clamp, nI_ltI, nI_leI, nI_eq, nI_pos, nI_pos', Nat.reduceAdd, Nat.reduceMul, Nat.reducePow, sk_54 hv, sr_54_2 hv, sr_54_3 hv, sr_54_4 hv, sr_54_5 hv, sr_54_7 hv, sr_54_8 hv, sr_54_9 hv, sr_54_12 hv, sr_54_13 hv, sr_54_14 hv, sr_54_22 hv, sr_54_25 hv, sr_54_26 hv, sr_54_27 hv, sr_54_34 hv, sr_54_35 hv, sr_54_36 hv, sr_54_37 hv, sr_54_38 hv, sr_54_40 hv, sr_54_43 hv, sr_54_44 hv, sr_54_45 hv, sr_54_46 hv, sr_54_47 hv, sk_56 hv, sn_56 hv, sk_65 hv, sn_65 hv, e1, e2, hne2, z1, t_factOf, Nat.reduceLT]
    simp only [hA]
    generalize hρ : sI (sI (sI (sI (sI (sI (sI (sI (sI (sI (sI (sI (sI σ (B + 54) 23 (nI 1)) (B + 54) 24 (nI 0)) (B + 65) 0 (nI f)) (B + 65) 1 (nI t)) (B + 65) 2 (A (6 * f + 4))) (B + 65) 3 (A (6 * t + 4))) (B + 65) 4 (A (6 * f + 2) * A (6 * f + 3))) (B + 65) 5 (A (6 * t + 2) * A (6 * t + 3))) (B + 65) 6 dr) (B + 65) 7 (A 248)) (B + 65) 8 dy) (B + 54) 19 (nI (400 * lf))) (B + 54) 20 (nI (400 * lf + n)) = ρ
    have hSm : Sm (fun a => a = B + 54 ∨ a = B + 65) σ ρ := by
      rw [← hρ]
      exact Sm_I (Sm_I (Sm_I (Sm_I (Sm_I (Sm_I (Sm_I (Sm_I (Sm_I (Sm_I (Sm_I (Sm_I (Sm_I (Sm_refl _ _) (Or.inl rfl)) (Or.inl rfl)) (Or.inr rfl)) (Or.inr rfl)) (Or.inr rfl)) (Or.inr rfl)) (Or.inr rfl)) (Or.inr rfl)) (Or.inr rfl)) (Or.inr rfl)) (Or.inr rfl)) (Or.inl rfl)) (Or.inl rfl)
    have r23 : gI ρ (B + 54) 23 = nI 1 := by rw [← hρ]; simp (disch := omega) only [rI_ne, rI_nk, rI_eq]
    have r24 : gI ρ (B + 54) 24 = nI 0 := by rw [← hρ]; simp (disch := omega) only [rI_ne, rI_nk, rI_eq]
    have r19 : gI ρ (B + 54) 19 = nI (400 * lf) := by rw [← hρ]; simp (disch := omega) only [rI_ne, rI_nk, rI_eq]
    have r20 : gI ρ (B + 54) 20 = nI (400 * lf + n) := by rw [← hρ]; simp (disch := omega) only [rI_ne, rI_nk, rI_eq]
    have r56 : gI ρ (B + 56) = A := by rw [← hρ]; simp (disch := omega) only [rI_ne]; exact hA
    have ro : ∀ j, j ≠ 19 → j ≠ 20 → j ≠ 23 → j ≠ 24 → gI ρ (B + 54) j = gI σ (B + 54) j := by
      intro j h1 h2 h3 h4
      rw [← hρ]
      simp (disch := omega) only [rI_ne, rI_nk]
    have X : EvX B (400 * lf) n (tkC (lwCo A lf) n) (tkV (lwVa A lf)) (wdF A f t dr dy) ρ := by
      refine ⟨fr_IvS hSm.1 hSm.2.1 hSm.2.2.1 hv, r20, ?_, ?_, ?_, hn4, by omega, ?_⟩
      · intro j hj
        rw [r56, ← Nat.add_assoc, ← Nat.add_assoc]
        exact ⟨(hcv j hj).1, (hcv j hj).2.2⟩
      · intro j hj
        exact if_neg (by omega)
      · intro j
        by_cases hj : j < n
        · exact (hcv j hj).2.1
        · simp only [tkC, hj, if_false]
          omega
      · intro j hj
        rw [← hρ]
        rcases lt9 hj with rfl | rfl | rfl | rfl | rfl | rfl | rfl | rfl | rfl <;> simp (disch := omega) only [rI_ne, rI_nk, rI_eq, wdF, List.getD_cons_zero, List.getD_cons_succ]
    have e0 : bs ρ B (nI 1) false = ρ := by
      simp only [bs]
      rw [sI_id r23, sI_id (by rw [r24, bI_f Bool.false_ne_true])]
    refine ak_loop (d := d) (F := n + 1) X (Nat.lt_succ_self n) 12 0 0 tt qq L htk (nI 1) dy false ρ _ _ _ _ _ _ _ _ Q ?_ ?_
    · rw [e0]
      simp only [ev, Nat.add_zero]
      rw [sI_id r19, bI_f Bool.false_ne_true]
    · intro g b
      refine K _ ?_ ?_ ?_ ?_
      · simp only [ev, bs]
        exact Sm_I (Sm_I (Sm_I (Sm_I hSm (Or.inl rfl)) (Or.inl rfl)) (Or.inl rfl)) (Or.inl rfl)
      · intro j h1 h2 h3 h4 h5
        rw [ev_k h1 h3]
        simp (disch := omega) only [bs, rI_nk]
        exact ro j h1 h2 h4 h5
      · rw [ev_k (by omega) (by omega)]
        simp (disch := omega) only [bs, rI_nk, rI_eq, tks, hL, zTak]
        rfl
      · rw [ev_b24, brd, hL, Bool.false_or]
