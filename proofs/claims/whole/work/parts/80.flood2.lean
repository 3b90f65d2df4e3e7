/-! floods: the class's days -/
section
variable {B : Nat} {own : Nat → Nat} {σ : gS} {A : Nat → Int32} {d : Nat} {Q : Option Value → gS → Prop}
abbrev FP (B a : Nat) : Prop := B + 26 ≤ a ∧ a ≤ B + 28 ∨ B + 35 ≤ a ∧ a ≤ B + 36 ∨ B + 50 ≤ a ∧ a ≤ B + 53
def FlI (B : Nat) (σ : gS) (A : Nat → Int32) (seed n : Nat) (dl : Bool) (τ : gS) (i : Nat) : Prop := Sm (FP B) σ τ ∧ gI τ (B + 50) 6 = nI n ∧ gJ τ (B + 50) 7 = nJ (flS A seed i) ∧ (∀ j, j < i → gI τ (B + 52) j = nI (flW A seed j) ∧ gI τ (B + 53) j = nI (flP A seed j)) ∧ (0 < i → dl = false → ∀ j, j < 12 → gI τ (B + 51) j = nI (opn A (nI (an A 249 + i)) j))
theorem Ctx_F {τ : gS} (h : Ctx B own σ A) (hS : Sm (FP B) σ τ) : Ctx B own τ A := Ctx_S h (Sm_mono hS (fun a ha => by omega))
set_option maxHeartbeats 1000000 in
theorem s_riseL {seed n : Nat} {dl : Bool} {y1 : Int32} {x3 : Option Value} (h : Ctx B own σ A) (hs : seed ≤ 1000000) (hn40 : n ≤ 40) (hdl : dl = false → ∀ x y j, opn A x j = opn A y j) : ∀ m i τ, i + m = n → FlI B σ A seed n dl τ i →
    (∀ τ', FlI B σ A seed n dl τ' n → Q (some (.int (nI (flM A seed n)))) τ') →
    wp (d + 6) pr_22 Q 52 [some (.ref (B + 50)), some (.int y1), some (.int (nI n)), x3, some (.int (bI (dl = true))), some (.int (nI (flM A seed i))), some (.int (nI i))] [] τ := by
  have wh : Wh A := h.2.1.1.1
  have h12 := hn_le wh
  obtain ⟨d99, dn⟩ := an_le h.2.1.1.2.2.1.2 (by omega)
  have ml : mkN (St A) (hn A) < 4096 := mk_lt12 h12
  intro m
  induction m with
  | zero =>
    intro i τ hi hF K
    have e : i = n := by omega
    subst e
    have hv := (Ctx_F h hF.1).1
    have f6 := hF.2.1
    have f1 := flM_le (A := A) (seed := seed) i
    simp (disch := omega) only [e_22_52, e_22_54, e_22_55, e_22_58, e_22_165, e_22_167, n10, n01, Nat.lt_irrefl, Nat.not_lt_zero, ne_eq, Nat.add_zero, Nat.one_ne_zero, Nat.zero_ne_one, Nat.reduceEqDiff, bI_T, bI_F, bI_0, bI_1, bI_01, not_and_self, true_and, and_true, not_true_eq_false, not_false_eq_true, false_imp_iff, true_imp_iff, imp_self, gPv_n, gPv_i, gPv_r, gPv_0, Option.toList_some, Option.toList_none, List.singleton_append, List.cons_append, List.nil_append, List.length_nil, List.length_cons, Nat.zero_le, Nat.reduceAdd, Nat.reduceLeDiff, or_true, true_or, false_or, or_false, and_self, and_false, false_and, implies_true, Option.some.injEq, exists_eq_left', nL, nI_add, nI_mul, nI_clamp, nI_ltI, nI_leI, nI_eq, nI_pos, nI_pos', Nat.reduceAdd, Nat.reduceMul, Nat.reducePow, sk_50 hv, sr_50_0 hv, sr_50_1 hv, sr_50_2 hv, sr_50_3 hv, sr_50_4 hv, sr_50_5 hv, f6, Nat.le_refl]
    exact K τ hF
  | succ m ih =>
    intro i τ hi hF K
    obtain ⟨hS, f6, f7, fR, fD⟩ := hF
    have hc := Ctx_F h hS
    have hv := hc.1
    have z : ¬ n ≤ i := by omega
    have z40 : ¬ 40 ≤ i := by omega
    have y40 : i < 40 := by omega
    have hsl := flS_le (A := A) h12 (show seed ≤ 1000003 by omega) i
    have hwl := flW_lt (A := A) h12 (show seed ≤ 1000003 by omega) i
    have hv1 : ∀ x : Int64, IvS B (sJ τ (B + 50) 7 x) := fun x => IvS_J.mpr hv
    rw [e_22_52]
    have sd : ∀ (d : Nat) (Q : Option Value → gS → Prop), wc (d + 2) 23 [.ref (B + 50)] τ Q ↔ Q (some (.int (nI (flW A seed i)))) (sJ τ (B + 50) 7 (nJ (flS A seed (i + 1)))) := fun d Q => s_draw hc hsl f7
    -- behind the rows of the day
    have tail : ∀ τ2, Sm (FP B) σ τ2 → gI τ2 (B + 50) 6 = nI n → gJ τ2 (B + 50) 7 = nJ (flS A seed (i + 1)) → (∀ j, j < i → gI τ2 (B + 52) j = nI (flW A seed j) ∧ gI τ2 (B + 53) j = nI (flP A seed j)) → gI τ2 (B + 52) i = nI (flW A seed i) → (∀ j, j < 12 → gI τ2 (B + 51) j = nI (opn A (nI (an A 249 + i)) j)) →
        wp (d + 6) pr_22 Q 110 [some (.ref (B + 50)), some (.int y1), some (.int (nI n)), x3, some (.int (bI (dl = true))), some (.int (nI (flM A seed i))), some (.int (nI i))] [] τ2 := by
      intro τ2 hS2 g6 g7 gR gw gE
      have hc2 := Ctx_F h hS2
      have hv2 := hc2.1
      have s6 : gI τ2 (B + 1) 6 = nI (mkN (St A) (hn A)) := hc2.2.1.2.1.1.2.1
      simp (disch := omega) only [e_22_110, e_22_111, e_22_114, e_22_116, e_22_117, e_22_120, e_22_121, e_22_124, e_22_125, e_22_128, e_22_131, e_22_132, e_22_135, e_22_137, e_22_138, e_22_139, e_22_140, e_22_141, n10, n01, Nat.lt_irrefl, Nat.not_lt_zero, ne_eq, Nat.add_zero, Nat.one_ne_zero, Nat.zero_ne_one, Nat.reduceEqDiff, bI_T, bI_F, bI_0, bI_1, bI_01, not_and_self, true_and, and_true, not_true_eq_false, not_false_eq_true, false_imp_iff, true_imp_iff, imp_self, gPv_n, gPv_i, gPv_r, gPv_0, Option.toList_some, Option.toList_none, List.singleton_append, List.cons_append, List.nil_append, List.length_nil, List.length_cons, Nat.zero_le, Nat.reduceAdd, Nat.reduceLeDiff, or_true, true_or, false_or, or_false, and_self, and_false, false_and, implies_true, Option.some.injEq, exists_eq_left', nL, nI_add, nI_mul, nI_clamp, nI_ltI, nI_leI, nI_eq, nI_pos, nI_pos', Nat.reduceAdd, Nat.reduceMul, Nat.reducePow, sk_1 hv2, sr_1_0 hv2, sr_1_1 hv2, sr_1_2 hv2, sr_1_3 hv2, sr_1_4 hv2, sr_1_7 hv2, sr_1_9 hv2, sr_1_14 hv2, sr_1_15 hv2, sr_1_16 hv2, sk_33 hv2, sr_33_0 hv2, sr_33_1 hv2, sr_33_2 hv2, sr_33_3 hv2, sk_50 hv2, sr_50_0 hv2, sr_50_1 hv2, sr_50_2 hv2, sr_50_3 hv2, sr_50_4 hv2, sr_50_5 hv2, sk_52 hv2, sn_52 hv2, y40, s6, gw, nI_ad]
      refine s_findParts hv2 (Or.inr rfl) (fun _ => opn_lt wh) (ad_lt ml) gE ?_
      intro τ3 hS3 _
      have hS3' : Sm (FP B) σ τ3 := Sm_trans hS2 (Sm_mono hS3 (fun a ha => by omega))
      have hv3 := (Ctx_F h hS3').1
      have ep : (ptL (opn A (nI (an A 249 + i))) (ad (mkN (St A) (hn A)) (flW A seed i))).length = flP A seed i := rfl
      have pl := flP_le (A := A) (seed := seed) (i := i)
      have mm := flM_le (A := A) (seed := seed) i
      rw [ep]
      simp (disch := omega) only [e_22_144, e_22_145, e_22_147, e_22_148, e_22_151, e_22_153, e_22_154, e_22_157, e_22_159, e_22_162, n10, n01, Nat.lt_irrefl, Nat.not_lt_zero, ne_eq, Nat.add_zero, Nat.one_ne_zero, Nat.zero_ne_one, Nat.reduceEqDiff, bI_T, bI_F, bI_0, bI_1, bI_01, not_and_self, true_and, and_true, not_true_eq_false, not_false_eq_true, false_imp_iff, true_imp_iff, imp_self, gPv_n, gPv_i, gPv_r, gPv_0, Option.toList_some, Option.toList_none, List.singleton_append, List.cons_append, List.nil_append, List.length_nil, List.length_cons, Nat.zero_le, Nat.reduceAdd, Nat.reduceLeDiff, or_true, true_or, false_or, or_false, and_self, and_false, false_and, implies_true, Option.some.injEq, exists_eq_left', n_K_I, n_K_J, n_K_R, n_K_r, n_N_I, n_N_J, n_N_R, n_N_r, n_R_I, n_R_J, n_R_r, n_J_I, n_J_R, n_J_r, n_I_J, n_I_R, n_n_I, n_n_J, n_n_R, n_n_r, n_w_I, n_w_J, n_w_R, n_w_r, n_T_I, n_T_J, n_T_R, n_T_r, rI_ne, rI_nk, rI_eq, rr_ne, rr_eq, n_J_J, n_R_R, Nat.add_left_cancel_iff, Nat.add_right_cancel_iff, Nat.add_eq_left, Nat.left_eq_add, Nat.reduceEqDiff, Nat.reduceAdd, Nat.zero_ne_one, Nat.one_ne_zero, false_and, and_false, true_and, and_true, and_self, if_false, if_true, ↓reduceIte, nL, nI_add, nI_mul, nI_clamp, nI_ltI, nI_leI, nI_eq, nI_pos, nI_pos', Nat.reduceAdd, Nat.reduceMul, Nat.reducePow, sk_50 hv3, sr_50_0 hv3, sr_50_1 hv3, sr_50_2 hv3, sr_50_3 hv3, sr_50_4 hv3, sr_50_5 hv3, sk_53 hv3, sn_53 hv3, y40, nI_max2]
      refine ih (i + 1) _ (by omega) ⟨Sm_I hS3' (by omega), ?_, ?_, ?_, ?_⟩ K
      · rw [rI_ne (by omega), hS3.2.2.2.2.2.2.1 _ (by omega)]; exact g6
      · rw [n_J_I, hS3.2.2.2.2.2.2.2 _ (by omega)]; exact g7
      · intro j hj
        rw [rI_ne (by omega), hS3.2.2.2.2.2.2.1 (B + 52) (by omega)]
        by_cases c : j = i
        · subst c; exact ⟨gw, by rw [rI_eq]⟩
        · refine ⟨(gR j (by omega)).1, ?_⟩
          rw [rI_nk c, hS3.2.2.2.2.2.2.1 (B + 53) (by omega)]
          exact (gR j (by omega)).2
      · intro _ hd j hj
        rw [rI_ne (by omega), hS3.2.2.2.2.2.2.1 (B + 51) (by omega), gE j hj, hdl hd (nI (an A 249 + (i + 1))) (nI (an A 249 + i)) j]
    have S0 : Sm (FP B) σ (sI (sJ τ (B + 50) 7 (nJ (flS A seed (i + 1)))) (B + 52) i (nI (flW A seed i))) := Sm_I (Sm_J hS (by omega)) (by omega)
    have c0 := Ctx_F h S0
    have hv0 := c0.1
    have R0 : ∀ j, j < i → gI (sI (sJ τ (B + 50) 7 (nJ (flS A seed (i + 1)))) (B + 52) i (nI (flW A seed i))) (B + 52) j = nI (flW A seed j) ∧ gI (sI (sJ τ (B + 50) 7 (nJ (flS A seed (i + 1)))) (B + 52) i (nI (flW A seed i))) (B + 53) j = nI (flP A seed j) := by
      intro j hj
      rw [rI_nk (by omega), rI_ne (by omega), n_I_J]
      exact fR j hj
    have d0 : gI (sI (sJ τ (B + 50) 7 (nJ (flS A seed (i + 1)))) (B + 52) i (nI (flW A seed i))) (B + 1) 13 = nI (an A 249) := c0.2.1.2.1.2.2.1.2.trans dn
    have fillc : wp (d + 6) pr_22 Q 89 [some (.ref (B + 50)), some (.int y1), some (.int (nI n)), x3, some (.int (bI (dl = true))), some (.int (nI (flM A seed i))), some (.int (nI i))] [] (sI (sJ τ (B + 50) 7 (nJ (flS A seed (i + 1)))) (B + 52) i (nI (flW A seed i))) := by
      simp (disch := omega) only [e_22_89, e_22_90, e_22_93, e_22_94, e_22_97, e_22_98, e_22_101, e_22_104, e_22_106, e_22_107, n10, n01, Nat.lt_irrefl, Nat.not_lt_zero, ne_eq, Nat.add_zero, Nat.one_ne_zero, Nat.zero_ne_one, Nat.reduceEqDiff, bI_T, bI_F, bI_0, bI_1, bI_01, not_and_self, true_and, and_true, not_true_eq_false, not_false_eq_true, false_imp_iff, true_imp_iff, imp_self, gPv_n, gPv_i, gPv_r, gPv_0, Option.toList_some, Option.toList_none, List.singleton_append, List.cons_append, List.nil_append, List.length_nil, List.length_cons, Nat.zero_le, Nat.reduceAdd, Nat.reduceLeDiff, or_true, true_or, false_or, or_false, and_self, and_false, false_and, implies_true, Option.some.injEq, exists_eq_left', nL, nI_add, nI_mul, nI_clamp, nI_ltI, nI_leI, nI_eq, nI_pos, nI_pos', Nat.reduceAdd, Nat.reduceMul, Nat.reducePow, sk_1 hv0, sr_1_0 hv0, sr_1_1 hv0, sr_1_2 hv0, sr_1_3 hv0, sr_1_4 hv0, sr_1_7 hv0, sr_1_9 hv0, sr_1_14 hv0, sr_1_15 hv0, sr_1_16 hv0, sk_25 hv0, sr_25_0 hv0, sr_25_1 hv0, sr_25_2 hv0, sr_25_3 hv0, sr_25_4 hv0, sr_25_5 hv0, sk_50 hv0, sr_50_0 hv0, sr_50_1 hv0, sr_50_2 hv0, sr_50_3 hv0, sr_50_4 hv0, sr_50_5 hv0, d0]
      refine s_fillOpen c0 (Or.inr rfl) ?_
      intro τ2 hS2 hr2
      have hS2' : Sm (FP B) σ τ2 := Sm_trans S0 (Sm_mono hS2 (fun a ha => by rcases ha with ha | ha <;> omega))
      simp (disch := omega) only [n10, n01, Nat.lt_irrefl, Nat.not_lt_zero, ne_eq, Nat.add_zero, Nat.one_ne_zero, Nat.zero_ne_one, Nat.reduceEqDiff, bI_T, bI_F, bI_0, bI_1, bI_01, not_and_self, true_and, and_true, not_true_eq_false, not_false_eq_true, false_imp_iff, true_imp_iff, imp_self, gPv_n, gPv_i, gPv_r, gPv_0, Option.toList_some, Option.toList_none, List.singleton_append, List.cons_append, List.nil_append, List.length_nil, List.length_cons, Nat.zero_le, Nat.reduceAdd, Nat.reduceLeDiff, or_true, true_or, false_or, or_false, and_self, and_false, false_and, implies_true, Option.some.injEq, exists_eq_left', nL, nI_add, nI_mul, nI_clamp, nI_ltI, nI_leI, nI_eq, nI_pos, nI_pos', Nat.reduceAdd, Nat.reduceMul, Nat.reducePow]
      refine tail τ2 hS2' ?_ ?_ ?_ ?_ hr2
      · rw [hS2.2.2.2.2.2.2.1 _ (by omega), rI_ne (by omega), n_I_J]; exact f6
      · rw [hS2.2.2.2.2.2.2.2 _ (by omega), n_J_I, rJ_eq]
      · intro j hj
        rw [hS2.2.2.2.2.2.2.1 (B + 52) (by omega), hS2.2.2.2.2.2.2.1 (B + 53) (by omega)]
        exact R0 j hj
      · rw [hS2.2.2.2.2.2.2.1 (B + 52) (by omega), rI_eq]
    cases dl
    · by_cases i0 : i = 0
      · have zn0 : ¬ n ≤ 0 := by omega
        simp (disch := omega) only [e_22_54, e_22_55, e_22_58, e_22_61, e_22_63, e_22_65, e_22_68, e_22_69, e_22_72, e_22_74, e_22_75, e_22_78, e_22_79, e_22_81, e_22_84, e_22_86, n10, n01, Nat.lt_irrefl, Nat.not_lt_zero, ne_eq, Nat.add_zero, Nat.one_ne_zero, Nat.zero_ne_one, Nat.reduceEqDiff, bI_T, bI_F, bI_0, bI_1, bI_01, not_and_self, true_and, and_true, not_true_eq_false, not_false_eq_true, false_imp_iff, true_imp_iff, imp_self, gPv_n, gPv_i, gPv_r, gPv_0, Option.toList_some, Option.toList_none, List.singleton_append, List.cons_append, List.nil_append, List.length_nil, List.length_cons, Nat.zero_le, Nat.reduceAdd, Nat.reduceLeDiff, or_true, true_or, false_or, or_false, and_self, and_false, false_and, implies_true, Option.some.injEq, exists_eq_left', nL, nI_add, nI_mul, nI_clamp, nI_ltI, nI_leI, nI_eq, nI_pos, nI_pos', Nat.reduceAdd, Nat.reduceMul, Nat.reducePow, sk_50 hv, sr_50_0 hv, sr_50_1 hv, sr_50_2 hv, sr_50_3 hv, sr_50_4 hv, sr_50_5 hv, sk_50 (hv1 _), sr_50_0 (hv1 _), sr_50_1 (hv1 _), sr_50_2 (hv1 _), sr_50_3 (hv1 _), sr_50_4 (hv1 _), sr_50_5 (hv1 _), sk_52 (hv1 _), sn_52 (hv1 _), f6, z, z40, y40, sd, Bool.false_eq_true, i0, zn0, Nat.reduceLT]
        rw [i0] at fillc
        simp only [Bool.false_eq_true, bI_F] at fillc
        exact fillc
      · simp (disch := omega) only [e_22_54, e_22_55, e_22_58, e_22_61, e_22_63, e_22_65, e_22_68, e_22_69, e_22_72, e_22_74, e_22_75, e_22_78, e_22_79, e_22_81, e_22_84, e_22_86, n10, n01, Nat.lt_irrefl, Nat.not_lt_zero, ne_eq, Nat.add_zero, Nat.one_ne_zero, Nat.zero_ne_one, Nat.reduceEqDiff, bI_T, bI_F, bI_0, bI_1, bI_01, not_and_self, true_and, and_true, not_true_eq_false, not_false_eq_true, false_imp_iff, true_imp_iff, imp_self, gPv_n, gPv_i, gPv_r, gPv_0, Option.toList_some, Option.toList_none, List.singleton_append, List.cons_append, List.nil_append, List.length_nil, List.length_cons, Nat.zero_le, Nat.reduceAdd, Nat.reduceLeDiff, or_true, true_or, false_or, or_false, and_self, and_false, false_and, implies_true, Option.some.injEq, exists_eq_left', nL, nI_add, nI_mul, nI_clamp, nI_ltI, nI_leI, nI_eq, nI_pos, nI_pos', Nat.reduceAdd, Nat.reduceMul, Nat.reducePow, sk_50 hv, sr_50_0 hv, sr_50_1 hv, sr_50_2 hv, sr_50_3 hv, sr_50_4 hv, sr_50_5 hv, sk_50 (hv1 _), sr_50_0 (hv1 _), sr_50_1 (hv1 _), sr_50_2 (hv1 _), sr_50_3 (hv1 _), sr_50_4 (hv1 _), sr_50_5 (hv1 _), sk_52 (hv1 _), sn_52 (hv1 _), f6, z, z40, y40, sd, Bool.false_eq_true, i0]
        have := tail _ S0 (by rw [rI_ne (by omega), n_I_J]; exact f6) (by rw [n_J_I, rJ_eq]) R0 (by rw [rI_eq]) (fun j hj => by rw [rI_ne (by omega), n_I_J]; exact fD (by omega) rfl j hj)
        simp only [Bool.false_eq_true, bI_F] at this
        exact this
    · simp (disch := omega) only [e_22_54, e_22_55, e_22_58, e_22_61, e_22_63, e_22_65, e_22_68, e_22_69, e_22_72, e_22_74, e_22_75, e_22_78, e_22_79, e_22_81, e_22_84, e_22_86, n10, n01, Nat.lt_irrefl, Nat.not_lt_zero, ne_eq, Nat.add_zero, Nat.one_ne_zero, Nat.zero_ne_one, Nat.reduceEqDiff, bI_T, bI_F, bI_0, bI_1, bI_01, not_and_self, true_and, and_true, not_true_eq_false, not_false_eq_true, false_imp_iff, true_imp_iff, imp_self, gPv_n, gPv_i, gPv_r, gPv_0, Option.toList_some, Option.toList_none, List.singleton_append, List.cons_append, List.nil_append, List.length_nil, List.length_cons, Nat.zero_le, Nat.reduceAdd, Nat.reduceLeDiff, or_true, true_or, false_or, or_false, and_self, and_false, false_and, implies_true, Option.some.injEq, exists_eq_left', nL, nI_add, nI_mul, nI_clamp, nI_ltI, nI_leI, nI_eq, nI_pos, nI_pos', Nat.reduceAdd, Nat.reduceMul, Nat.reducePow, sk_50 hv, sr_50_0 hv, sr_50_1 hv, sr_50_2 hv, sr_50_3 hv, sr_50_4 hv, sr_50_5 hv, sk_50 (hv1 _), sr_50_0 (hv1 _), sr_50_1 (hv1 _), sr_50_2 (hv1 _), sr_50_3 (hv1 _), sr_50_4 (hv1 _), sr_50_5 (hv1 _), sk_52 (hv1 _), sn_52 (hv1 _), f6, z, z40, y40, sd]
      simp only [bI_T] at fillc
      exact fillc
set_option maxHeartbeats 1000000 in
theorem s_rise {seed n : Nat} (h : Ctx B own σ A) (hs : seed ≤ 1000000) (hn40 : n ≤ 40) (K : ∀ τ dl, FlI B σ A seed n dl τ n → Q (some (.int (nI (flM A seed n)))) τ) : wc (d + 7) 22 [.ref (B + 50), .int (nI seed), .int (nI n)] σ Q := by
  have hv := h.1
  have S0 : Sm (FP B) σ (sI (sJ σ (B + 50) 7 (nJ seed)) (B + 50) 6 (nI n)) := Sm_I (Sm_J (Sm_refl _ _) (by omega)) (by omega)
  have c0 := Ctx_F h S0
  have hv0 := c0.1
  have mn : max 0 (min n 40) = n := by omega
  have mi : min 40 n = n := by omega
  have mi2 : min n 40 = n := by omega
  have ma : max 0 n = n := by omega
  have ma2 : max n 0 = n := by omega
  have F0 : ∀ dl, FlI B σ A seed n dl (sI (sJ σ (B + 50) 7 (nJ seed)) (B + 50) 6 (nI n)) 0 := fun dl => ⟨S0, by rw [rI_eq], by rw [n_J_I, rJ_eq]; rfl, fun j hj => absurd hj (by omega), fun z => absurd z (by omega)⟩
  rcases Ctx_L c0 with ⟨h1, h2⟩ | ⟨lf, p, L, h1, h2, h3, h4, h5, h6, h7⟩
  · simp (disch := omega) only [c_22, e_22_0, e_22_1, e_22_2, e_22_3, e_22_6, e_22_7, e_22_8, e_22_9, e_22_11, e_22_14, e_22_17, e_22_20, e_22_21, e_22_24, e_22_27, e_22_27n, e_22_28, e_22_28n, e_22_29, e_22_29n, e_22_32, e_22_32n, e_22_33, e_22_36, e_22_39, e_22_40, e_22_43, e_22_44, e_22_46, e_22_47, e_22_49, e_22_50, n10, n01, Nat.lt_irrefl, Nat.not_lt_zero, ne_eq, Nat.add_zero, Nat.one_ne_zero, Nat.zero_ne_one, Nat.reduceEqDiff, bI_T, bI_F, bI_0, bI_1, bI_01, not_and_self, true_and, and_true, not_true_eq_false, not_false_eq_true, false_imp_iff, true_imp_iff, imp_self, gPv_n, gPv_i, gPv_r, gPv_0, Option.toList_some, Option.toList_none, List.singleton_append, List.cons_append, List.nil_append, List.length_nil, List.length_cons, Nat.zero_le, Nat.reduceAdd, Nat.reduceLeDiff, or_true, true_or, false_or, or_false, and_self, and_false, false_and, implies_true, Option.some.injEq, exists_eq_left', n_K_I, n_K_J, n_K_R, n_K_r, n_N_I, n_N_J, n_N_R, n_N_r, n_R_I, n_R_J, n_R_r, n_J_I, n_J_R, n_J_r, n_I_J, n_I_R, n_n_I, n_n_J, n_n_R, n_n_r, n_w_I, n_w_J, n_w_R, n_w_r, n_T_I, n_T_J, n_T_R, n_T_r, rI_ne, rI_nk, rI_eq, rr_ne, rr_eq, n_J_J, n_R_R, Nat.add_left_cancel_iff, Nat.add_right_cancel_iff, Nat.add_eq_left, Nat.left_eq_add, Nat.reduceEqDiff, Nat.reduceAdd, Nat.zero_ne_one, Nat.one_ne_zero, false_and, and_false, true_and, and_true, and_self, if_false, if_true, ↓reduceIte, nL, nI_add, nI_mul, nI_clamp, nI_ltI, nI_leI, nI_eq, nI_pos, nI_pos', Nat.reduceAdd, Nat.reduceMul, Nat.reducePow, sk_1 hv, sr_1_0 hv, sr_1_1 hv, sr_1_2 hv, sr_1_3 hv, sr_1_4 hv, sr_1_7 hv, sr_1_9 hv, sr_1_14 hv, sr_1_15 hv, sr_1_16 hv, sk_50 hv, sr_50_0 hv, sr_50_1 hv, sr_50_2 hv, sr_50_3 hv, sr_50_4 hv, sr_50_5 hv, sk_1 hv0, sr_1_0 hv0, sr_1_1 hv0, sr_1_2 hv0, sr_1_3 hv0, sr_1_4 hv0, sr_1_7 hv0, sr_1_9 hv0, sr_1_14 hv0, sr_1_15 hv0, sr_1_16 hv0, sk_50 hv0, sr_50_0 hv0, sr_50_1 hv0, sr_50_2 hv0, sr_50_3 hv0, sr_50_4 hv0, sr_50_5 hv0, nJ_i2l, nI_min2, nI_max2, mi, mi2, ma, ma2, s_lif0 c0 h1]
    have := s_riseL (d := d) (Q := Q) (dl := false) (y1 := nI seed) (x3 := some .null) h hs hn40 (fun _ x y j => opn_dy h2 (fun cl hcl => by cases hcl) x y j) n 0 _ (by omega) (F0 false) (fun τ hF => K τ false hF)
    simp only [Bool.false_eq_true, bI_F, flM] at this
    exact this
  · have hk := h4.1.1
    rcases h4.2.1.choose_spec.choose_spec.2.2.2.2.2.2.2 with q | ⟨q, hd⟩
    · simp (disch := omega) only [c_22, e_22_0, e_22_1, e_22_2, e_22_3, e_22_6, e_22_7, e_22_8, e_22_9, e_22_11, e_22_14, e_22_17, e_22_20, e_22_21, e_22_24, e_22_27, e_22_27n, e_22_28, e_22_28n, e_22_29, e_22_29n, e_22_32, e_22_32n, e_22_33, e_22_36, e_22_39, e_22_40, e_22_43, e_22_44, e_22_46, e_22_47, e_22_49, e_22_50, n10, n01, Nat.lt_irrefl, Nat.not_lt_zero, ne_eq, Nat.add_zero, Nat.one_ne_zero, Nat.zero_ne_one, Nat.reduceEqDiff, bI_T, bI_F, bI_0, bI_1, bI_01, not_and_self, true_and, and_true, not_true_eq_false, not_false_eq_true, false_imp_iff, true_imp_iff, imp_self, gPv_n, gPv_i, gPv_r, gPv_0, Option.toList_some, Option.toList_none, List.singleton_append, List.cons_append, List.nil_append, List.length_nil, List.length_cons, Nat.zero_le, Nat.reduceAdd, Nat.reduceLeDiff, or_true, true_or, false_or, or_false, and_self, and_false, false_and, implies_true, Option.some.injEq, exists_eq_left', n_K_I, n_K_J, n_K_R, n_K_r, n_N_I, n_N_J, n_N_R, n_N_r, n_R_I, n_R_J, n_R_r, n_J_I, n_J_R, n_J_r, n_I_J, n_I_R, n_n_I, n_n_J, n_n_R, n_n_r, n_w_I, n_w_J, n_w_R, n_w_r, n_T_I, n_T_J, n_T_R, n_T_r, rI_ne, rI_nk, rI_eq, rr_ne, rr_eq, n_J_J, n_R_R, Nat.add_left_cancel_iff, Nat.add_right_cancel_iff, Nat.add_eq_left, Nat.left_eq_add, Nat.reduceEqDiff, Nat.reduceAdd, Nat.zero_ne_one, Nat.one_ne_zero, false_and, and_false, true_and, and_true, and_self, if_false, if_true, ↓reduceIte, nL, nI_add, nI_mul, nI_clamp, nI_ltI, nI_leI, nI_eq, nI_pos, nI_pos', Nat.reduceAdd, Nat.reduceMul, Nat.reducePow, sk_1 hv, sr_1_0 hv, sr_1_1 hv, sr_1_2 hv, sr_1_3 hv, sr_1_4 hv, sr_1_7 hv, sr_1_9 hv, sr_1_14 hv, sr_1_15 hv, sr_1_16 hv, sk_50 hv, sr_50_0 hv, sr_50_1 hv, sr_50_2 hv, sr_50_3 hv, sr_50_4 hv, sr_50_5 hv, sk_1 hv0, sr_1_0 hv0, sr_1_1 hv0, sr_1_2 hv0, sr_1_3 hv0, sr_1_4 hv0, sr_1_7 hv0, sr_1_9 hv0, sr_1_14 hv0, sr_1_15 hv0, sr_1_16 hv0, sk_50 hv0, sr_50_0 hv0, sr_50_1 hv0, sr_50_2 hv0, sr_50_3 hv0, sr_50_4 hv0, sr_50_5 hv0, nJ_i2l, nI_min2, nI_max2, mi, mi2, ma, ma2, s_lif1 c0 h1 h2 h3, hk, q]
      have := s_riseL (d := d) (Q := Q) (dl := true) (y1 := nI seed) (x3 := some (.ref p)) h hs hn40 (fun z => absurd z (by simp)) n 0 _ (by omega) (F0 true) (fun τ hF => K τ true hF)
      simp only [bI_T, flM] at this
      exact this
    · simp (disch := omega) only [c_22, e_22_0, e_22_1, e_22_2, e_22_3, e_22_6, e_22_7, e_22_8, e_22_9, e_22_11, e_22_14, e_22_17, e_22_20, e_22_21, e_22_24, e_22_27, e_22_27n, e_22_28, e_22_28n, e_22_29, e_22_29n, e_22_32, e_22_32n, e_22_33, e_22_36, e_22_39, e_22_40, e_22_43, e_22_44, e_22_46, e_22_47, e_22_49, e_22_50, n10, n01, Nat.lt_irrefl, Nat.not_lt_zero, ne_eq, Nat.add_zero, Nat.one_ne_zero, Nat.zero_ne_one, Nat.reduceEqDiff, bI_T, bI_F, bI_0, bI_1, bI_01, not_and_self, true_and, and_true, not_true_eq_false, not_false_eq_true, false_imp_iff, true_imp_iff, imp_self, gPv_n, gPv_i, gPv_r, gPv_0, Option.toList_some, Option.toList_none, List.singleton_append, List.cons_append, List.nil_append, List.length_nil, List.length_cons, Nat.zero_le, Nat.reduceAdd, Nat.reduceLeDiff, or_true, true_or, false_or, or_false, and_self, and_false, false_and, implies_true, Option.some.injEq, exists_eq_left', n_K_I, n_K_J, n_K_R, n_K_r, n_N_I, n_N_J, n_N_R, n_N_r, n_R_I, n_R_J, n_R_r, n_J_I, n_J_R, n_J_r, n_I_J, n_I_R, n_n_I, n_n_J, n_n_R, n_n_r, n_w_I, n_w_J, n_w_R, n_w_r, n_T_I, n_T_J, n_T_R, n_T_r, rI_ne, rI_nk, rI_eq, rr_ne, rr_eq, n_J_J, n_R_R, Nat.add_left_cancel_iff, Nat.add_right_cancel_iff, Nat.add_eq_left, Nat.left_eq_add, Nat.reduceEqDiff, Nat.reduceAdd, Nat.zero_ne_one, Nat.one_ne_zero, false_and, and_false, true_and, and_true, and_self, if_false, if_true, ↓reduceIte, nL, nI_add, nI_mul, nI_clamp, nI_ltI, nI_leI, nI_eq, nI_pos, nI_pos', Nat.reduceAdd, Nat.reduceMul, Nat.reducePow, sk_1 hv, sr_1_0 hv, sr_1_1 hv, sr_1_2 hv, sr_1_3 hv, sr_1_4 hv, sr_1_7 hv, sr_1_9 hv, sr_1_14 hv, sr_1_15 hv, sr_1_16 hv, sk_50 hv, sr_50_0 hv, sr_50_1 hv, sr_50_2 hv, sr_50_3 hv, sr_50_4 hv, sr_50_5 hv, sk_1 hv0, sr_1_0 hv0, sr_1_1 hv0, sr_1_2 hv0, sr_1_3 hv0, sr_1_4 hv0, sr_1_7 hv0, sr_1_9 hv0, sr_1_14 hv0, sr_1_15 hv0, sr_1_16 hv0, sk_50 hv0, sr_50_0 hv0, sr_50_1 hv0, sr_50_2 hv0, sr_50_3 hv0, sr_50_4 hv0, sr_50_5 hv0, nJ_i2l, nI_min2, nI_max2, mi, mi2, ma, ma2, s_lif1 c0 h1 h2 h3, hk, q]
      have := s_riseL (d := d) (Q := Q) (dl := false) (y1 := nI seed) (x3 := some (.ref p)) h hs hn40 (fun _ x y j => opn_dy h5 hd x y j) n 0 _ (by omega) (F0 false) (fun τ hF => K τ false hF)
      simp only [Bool.false_eq_true, bI_F, flM] at this
      exact this
end
