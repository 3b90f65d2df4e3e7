/-! rounds: plan -/
def RdR (A : Nat → Int32) (hm bt can tk sz : Int32) (od : Nat → Int32) : Prop := (can = nI 0 ∧ ∀ h b, hm = nI h → bt = nI b → ¬ RdK A h b) ∨ (can = nI 1 ∧ ∃ h b s, hm = nI h ∧ bt = nI b ∧ RdK A h b ∧ sz = nI s ∧ s = cn (fun j => b.testBit j) 12 0 ∧ tk = nI (lrA A h b h) ∧ ∀ i, i < s → od i = nI (sp (dM A) h (hn A) (i + 1) b h))
theorem tm_full {b s : Nat} {e : Nat → Nat} (h : ErF b 12 s e) (hb : b < 4096) : tm e s (2 ^ s - 1) = b := by
  obtain ⟨h1, h2, h3, h4⟩ := h
  refine Nat.eq_of_testBit_eq (fun j => ?_)
  rw [Bool.eq_iff_iff, tb_tm]
  constructor
  · rintro ⟨i, i1, i2, i3⟩
    rw [← i3]
    exact (h2 i i1).2
  · intro hj
    obtain ⟨t, t1, t2⟩ := h4 j (tb12 hb hj) hj
    refine ⟨t, t1, ?_, t2⟩
    rw [Nat.testBit_two_pow_sub_one]
    simp [t1]
section
variable {CV : Nat → (Nat → Int32) → (Nat → Nat → Int32) → Prop} {B : Nat} {own : Nat → Nat} {σ : gS} {A : Nat → Int32} {d cc : Nat} {Q : Option Value → gS → Prop}
/-- the store, perhaps with a larger array -/
def AlS (B : Nat) (σ σA : gS) : Prop := σA = σ ∨ ∃ q l0, q ≤ 11 ∧ gR σ (B + 45) 5 = some l0 ∧ gN σ l0 < q * 2 ^ q ∧ σA = al B (q * 2 ^ q) σ
abbrev plP (B : Nat) (σA : gS) (a : Nat) : Prop := B + 45 ≤ a ∧ a ≤ B + 48 ∨ gR σA (B + 45) 5 = some a
theorem AlS_I {σA : gS} {a : Nat} (h : AlS B σ σA) (ha : a ≠ gn σ) : gI σA a = gI σ a := by
  rcases h with rfl | ⟨q, l0, _, _, _, rfl⟩
  · rfl
  · exact al_I ha
set_option maxHeartbeats 2000000 in
theorem s_plan {p q : Int32} {l0 s0 : Nat} (hl : CVl CV) (h5 : ∀ A W, CV 5 A W ↔ RdR A (W 20 8) (W 20 9) (W 20 10) (W 20 11) (W 20 6) (W 22)) (hc : Ctx B own σ A) (ha : Ca CV B A σ cc) (hM : MsO B A σ) (hgn : B + 80 ≤ gn σ) (hl0 : gR σ (B + 45) 5 = some l0) (hk0 : gK σ l0 = 21) (hn0 : gN σ l0 = s0 * 2 ^ s0) (hs0 : s0 ≤ 11) (hll : l0 = B + 49 ∨ B + 80 ≤ l0 ∧ l0 < gn σ)
    (K : ∀ τ' σA, AlS B σ σA → Sm (plP B σA) σA τ' → Ca CV B A τ' cc → RdR A p q (gI τ' (B + 45) 10) (gI τ' (B + 45) 11) (gI τ' (B + 45) 6) (gI τ' (B + 47)) → Q (some (.int (gI τ' (B + 45) 10))) τ') : wc (d + 5) 73 [.ref (B + 45), .int p, .int q] σ Q := by
  have hv := hc.1
  have wh : Wh A := hc.2.1.1.1
  have h12 := hn_le wh
  have p12 : 2 ^ hn A ≤ 4096 := Nat.pow_le_pow_right (by decide) h12
  have e17 := ha.1
  have cc1 := ha.2.1
  have ln : gN σ l0 < 100000 := by
    have := Nat.mul_le_mul hs0 (Nat.pow_le_pow_right (n := 2) (by decide) hs0)
    have h : 11 * 2 ^ 11 = 22528 := by decide
    omega
  have b01 : ∀ {x : Int32}, (x = nI 0 ∨ x = nI 1) → ((x = nI 0 ∨ x = nI 1) ↔ True) := fun h => ⟨fun _ => trivial, fun _ => h⟩
  have main : wp (d + 4) pr_73 Q 35 [some (.ref (B + 45)), some (.int p), some (.int q)] [] σ := by
    simp (disch := omega) only [e_73_35, e_73_36, e_73_37, e_73_40, e_73_43, e_73_46, e_73_47, e_73_48, e_73_51, e_73_52, e_73_53, e_73_56, e_73_57, e_73_58, e_73_61, e_73_62, e_73_63, e_73_66, e_73_67, e_73_68, e_73_69, e_73_70, n10, n01, Nat.lt_irrefl, Nat.not_lt_zero, ne_eq, Nat.add_zero, Nat.one_ne_zero, Nat.zero_ne_one, Nat.reduceEqDiff, bI_T, bI_F, bI_0, bI_1, bI_01, not_and_self, true_and, and_true, not_true_eq_false, not_false_eq_true, false_imp_iff, true_imp_iff, imp_self, gPv_n, gPv_i, gPv_r, gPv_0, Option.toList_some, Option.toList_none, List.singleton_append, List.cons_append, List.nil_append, List.length_nil, List.length_cons, Nat.zero_le, Nat.reduceAdd, Nat.reduceLeDiff, or_true, true_or, false_or, or_false, and_self, and_false, false_and, implies_true, Option.some.injEq, exists_eq_left', nL, sk_1 hv, sr_1_0 hv, sr_1_1 hv, sr_1_2 hv, sr_1_3 hv, sr_1_4 hv, sr_1_7 hv, sr_1_9 hv, sr_1_14 hv, sr_1_15 hv, sr_1_16 hv, sk_45 hv, sr_45_0 hv, sr_45_1 hv, sr_45_2 hv, sr_45_3 hv, sr_45_4 hv, n_K_I, n_K_J, n_K_R, n_K_r, n_N_I, n_N_J, n_N_R, n_N_r, n_R_I, n_R_J, n_R_r, n_J_I, n_J_R, n_J_r, n_I_J, n_I_R, n_n_I, n_n_J, n_n_R, n_n_r, n_w_I, n_w_J, n_w_R, n_w_r, n_T_I, n_T_J, n_T_R, n_T_r, rI_ne, rI_nk, rI_eq, rr_ne, rr_eq, n_J_J, n_R_R, Nat.add_left_cancel_iff, Nat.add_right_cancel_iff, Nat.add_eq_left, Nat.left_eq_add, Nat.reduceEqDiff, Nat.reduceAdd, Nat.zero_ne_one, Nat.one_ne_zero, false_and, and_false, true_and, and_true, and_self, if_false, if_true, ↓reduceIte, e17]
    generalize hτ0 : sI (sI (sI (sI (sI σ (B + 45) 7 (nI cc)) (B + 45) 8 p) (B + 45) 9 q) (B + 45) 6 (nI 0)) (B + 45) 11 (nI 0) = τ0
    have S0 : Sm (fun a => a = B + 45) σ τ0 := by rw [← hτ0]; exact Sm_I (Sm_I (Sm_I (Sm_I (Sm_I (Sm_refl _ _) rfl) rfl) rfl) rfl) rfl
    have f7 : gI τ0 (B + 45) 7 = nI cc := by rw [← hτ0]; simp (disch := omega) only [rI_nk, rI_eq]
    have f8 : gI τ0 (B + 45) 8 = p := by rw [← hτ0]; simp (disch := omega) only [rI_nk, rI_eq]
    have f9 : gI τ0 (B + 45) 9 = q := by rw [← hτ0]; simp (disch := omega) only [rI_nk, rI_eq]
    have f6 : gI τ0 (B + 45) 6 = nI 0 := by rw [← hτ0]; simp (disch := omega) only [rI_nk, rI_eq]
    have hc0 : Ctx B own τ0 A := Ctx_S hc (Sm_mono S0 (fun a ha => by omega))
    have hv0 := hc0.1
    have M0 : MsO B A τ0 := by
      intro x y hx hy
      rw [S0.2.2.2.2.2.2.1 _ (by omega), S0.2.2.2.2.2.2.1 _ (by omega)]
      exact hM x y hx hy
    have caF : ∀ τ' σA, AlS B σ σA → Sm (plP B σA) σA τ' → (gR σA (B + 45) 5 = some l0 ∨ gR σA (B + 45) 5 = some (gn σ)) → gI τ' (B + 45) 7 = nI cc → RdR A p q (gI τ' (B + 45) 10) (gI τ' (B + 45) 11) (gI τ' (B + 45) 6) (gI τ' (B + 47)) → gI τ' (B + 45) 8 = p → gI τ' (B + 45) 9 = q → Ca CV B A τ' cc := by
      intro τ' σA hA hS hlA g7 hr g8 g9
      have eo : ∀ a, a < B + 80 → ¬ (B + 45 ≤ a ∧ a ≤ B + 49) → gI τ' a = gI σ a := by
        intro a a1 a2
        rw [hS.2.2.2.2.2.2.1 a ?_, AlS_I hA (by omega)]
        rintro (z | z)
        · omega
        · rcases hlA with y | y
          · rw [y] at z
            have : l0 = a := by simpa using z
            omega
          · rw [y] at z
            have : gn σ = a := by simpa using z
            omega
      refine Ca_G hl ha (by rw [eo _ (by omega) (by omega)]) ?_
      intro i hi
      rcases i6 hi with rfl | rfl | rfl | rfl | rfl | rfl
      case inr.inr.inr.inr.inr =>
        refine Or.inr ⟨g7, ?_⟩
        rw [h5, cw_r (by omega), cw_r (by omega)]
        show RdR A (gI τ' (B + 45) 8) (gI τ' (B + 45) 9) (gI τ' (B + 45) 10) (gI τ' (B + 45) 11) (gI τ' (B + 45) 6) (gI τ' (B + 47))
        rw [g8, g9]
        exact hr
      all_goals
        refine Or.inl ⟨?_, ?_⟩
        · simp only [cO_v]
          rw [eo _ (by omega) (by omega)]
        · intro o ho
          simp only [cR, List.getD_cons_zero, List.getD_cons_succ, List.mem_cons, List.not_mem_nil, or_false] at ho
          exact eo _ (by omega) (by omega)
    refine s_isRound (d := d) hc0 M0 ?_ ?_
    · intro h b ep eq hR
      subst ep
      subst eq
      simp (disch := omega) only [e_73_73, e_73_76, e_73_77, e_73_80, e_73_83, e_73_84, e_73_85, e_73_86, n10, n01, Nat.lt_irrefl, Nat.not_lt_zero, ne_eq, Nat.add_zero, Nat.one_ne_zero, Nat.zero_ne_one, Nat.reduceEqDiff, bI_T, bI_F, bI_0, bI_1, bI_01, not_and_self, true_and, and_true, not_true_eq_false, not_false_eq_true, false_imp_iff, true_imp_iff, imp_self, gPv_n, gPv_i, gPv_r, gPv_0, Option.toList_some, Option.toList_none, List.singleton_append, List.cons_append, List.nil_append, List.length_nil, List.length_cons, Nat.zero_le, Nat.reduceAdd, Nat.reduceLeDiff, or_true, true_or, false_or, or_false, and_self, and_false, false_and, implies_true, Option.some.injEq, exists_eq_left', nL, nI_add, nI_mul, nI_clamp, nI_ltI, nI_leI, nI_eq, nI_pos, nI_pos', Nat.reduceAdd, Nat.reduceMul, Nat.reducePow, sk_45 hv0, sr_45_0 hv0, sr_45_1 hv0, sr_45_2 hv0, sr_45_3 hv0, sr_45_4 hv0, n_K_I, n_K_J, n_K_R, n_K_r, n_N_I, n_N_J, n_N_R, n_N_r, n_R_I, n_R_J, n_R_r, n_J_I, n_J_R, n_J_r, n_I_J, n_I_R, n_n_I, n_n_J, n_n_R, n_n_r, n_w_I, n_w_J, n_w_R, n_w_r, n_T_I, n_T_J, n_T_R, n_T_r, rI_ne, rI_nk, rI_eq, rr_ne, rr_eq, n_J_J, n_R_R, Nat.add_left_cancel_iff, Nat.add_right_cancel_iff, Nat.add_eq_left, Nat.left_eq_add, Nat.reduceEqDiff, Nat.reduceAdd, Nat.zero_ne_one, Nat.one_ne_zero, false_and, and_false, true_and, and_true, and_self, if_false, if_true, ↓reduceIte]
      generalize hτ1 : sI τ0 (B + 45) 10 (nI 1) = τ1
      have S1 : Sm (fun a => a = B + 45) σ τ1 := by rw [← hτ1]; exact Sm_I S0 rfl
      have k1 : ∀ j, j ≠ 10 → gI τ1 (B + 45) j = gI τ0 (B + 45) j := fun j hj => by rw [← hτ1, rI_nk hj]
      have k10 : gI τ1 (B + 45) 10 = nI 1 := by rw [← hτ1, rI_eq]
      have hc1 : Ctx B own τ1 A := Ctx_S hc (Sm_mono S1 (fun a ha => by omega))
      have M1 : MsO B A τ1 := by
        intro x y hx hy
        rw [S1.2.2.2.2.2.2.1 _ (by omega), S1.2.2.2.2.2.2.1 _ (by omega)]
        exact hM x y hx hy
      have n1 : gn τ1 = gn σ := S1.2.2.2.1
      refine s_errands (d := d) (l0 := l0) hc1 M1 (by rw [n1]; exact hgn) hR (by rw [k1 6 (by omega)]; exact f6) (by rw [S1.2.2.1]; exact hl0) (by rw [S1.1]; exact hk0) (by rw [S1.2.1]; exact ln) ?_
      intro τ2 σ2 e s l hA2 hS2 g2 g6 hs11 hE he hR2 hT2
      have hs12 : s * 2 ^ s ≤ 22528 := by
        have := Nat.mul_le_mul hs11 (Nat.pow_le_pow_right (n := 2) (by decide) hs11)
        have h : 11 * 2 ^ 11 = 22528 := by decide
        omega
      -- the store with the array, from the start
      obtain ⟨σA, hAS, hS2A, hlA, hlk, hln, hln2, hlo⟩ : ∃ σA, AlS B σ σA ∧ Sm (plP B σA) σA τ2 ∧ gR σA (B + 45) 5 = some l ∧ gK σA l = 21 ∧ s * 2 ^ s ≤ gN σA l ∧ gN σA l < 100000 ∧ (l = l0 ∨ l = gn σ) := by
        rcases hA2 with ⟨rfl, u1, u2, u3⟩ | ⟨rfl, u1, l1, u2, u3⟩
        · have u1' : gR σ (B + 45) 5 = some l := by rw [← S1.2.2.1]; exact u1
          have el : l0 = l := by
            rw [hl0] at u1'
            simpa using u1'
          refine ⟨σ, Or.inl rfl, ?_, u1', by rw [← S1.1]; exact u2, by rw [← S1.2.1]; exact u3, by rw [← el]; exact ln, Or.inl el.symm⟩
          exact Sm_trans (Sm_mono S1 (fun a ha => Or.inl (by omega))) (Sm_mono hS2 (fun a ha => Or.inl (by simp only [erP] at ha; omega)))
        · have el : l0 = l1 := by
            rw [S1.2.2.1, hl0] at u2
            simpa using u2
          refine ⟨al B (s * 2 ^ s) σ, Or.inr ⟨s, l0, hs11, hl0, by rw [el, ← S1.2.1]; exact u3, rfl⟩, ?_, by rw [al_R5, u1, n1], by rw [u1, n1]; exact al_l.1, by rw [u1, n1, al_l.2]; exact Nat.le_refl _, by rw [u1, n1, al_l.2]; omega, Or.inr (by rw [u1, n1])⟩
          exact Sm_trans (Sm_mono (Sm_al S1) (fun a ha => Or.inl (by omega))) (Sm_mono hS2 (fun a ha => Or.inl (by simp only [erP] at ha; omega)))
      have hvA : IvS B σA := by
        rcases hAS with rfl | ⟨_, _, _, _, _, rfl⟩
        · exact hv
        · exact IvS_al hv hgn
      have hv2 : IvS B τ2 := fr_IvS hS2A.1 hS2A.2.1 hS2A.2.2.1 hvA
      have lo : l = B + 49 ∨ B + 80 ≤ l := by omega
      have X2 : RsX B τ2 s l (fun i j => dM A (e i) (e j)) := ⟨hv2, g6, hs11, fun x y hx hy => hT2 x y hx hy (by omega), ⟨by rw [hS2A.2.2.1]; exact hlA, by rw [hS2A.1]; exact hlk, by rw [hS2A.2.1]; exact hln, by rw [hS2A.2.1]; exact hln2, lo⟩, fun _ _ => dM_le⟩
      obtain ⟨r1, r2, r3, r4, r5⟩ := id hR
      have em : ∀ i j, i < j → j < s → e i < e j := hE.2.2.1
      have en : ∀ i, i < s → e i < hn A := by
        intro i hi
        by_cases z : e i < hn A
        · exact z
        · have := (hE.2.1 i hi).2
          rw [tb_lt r2 (by omega)] at this
          exact absurd this (by simp)
      have p1 : 1 ≤ 2 ^ s := Nat.pow_pos (by decide)
      have tmf := tm_full hE (by omega)
      have lrm : lr (fun i j => dM A (e i) (e j)) s s (2 ^ s - 1) s = lrA A h b h := by
        rw [lr_map em en _ _ _ (Nat.lt_succ_self _) (by omega), tmf, he]
      simp (disch := omega) only [e_73_89, e_73_90, n10, n01, Nat.lt_irrefl, Nat.not_lt_zero, ne_eq, Nat.add_zero, Nat.one_ne_zero, Nat.zero_ne_one, Nat.reduceEqDiff, bI_T, bI_F, bI_0, bI_1, bI_01, not_and_self, true_and, and_true, not_true_eq_false, not_false_eq_true, false_imp_iff, true_imp_iff, imp_self, gPv_n, gPv_i, gPv_r, gPv_0, Option.toList_some, Option.toList_none, List.singleton_append, List.cons_append, List.nil_append, List.length_nil, List.length_cons, Nat.zero_le, Nat.reduceAdd, Nat.reduceLeDiff, or_true, true_or, false_or, or_false, and_self, and_false, false_and, implies_true, Option.some.injEq, exists_eq_left', nL, nI_add, nI_mul, nI_clamp, nI_ltI, nI_leI, nI_eq, nI_pos, nI_pos', Nat.reduceAdd, Nat.reduceMul, Nat.reducePow, sk_45 hv2, sr_45_0 hv2, sr_45_1 hv2, sr_45_2 hv2, sr_45_3 hv2, sr_45_4 hv2]
      refine s_fillLeast (d := d + 1) X2 ?_
      intro τ3 hS3 hT3
      have X3 := RsX_S X2 hS3 (by omega) (by rw [hS3.2.2.2.2.2.2.1 _ (by omega)])
      have hv3 := X3.1
      simp (disch := omega) only [e_73_93, e_73_94, n10, n01, Nat.lt_irrefl, Nat.not_lt_zero, ne_eq, Nat.add_zero, Nat.one_ne_zero, Nat.zero_ne_one, Nat.reduceEqDiff, bI_T, bI_F, bI_0, bI_1, bI_01, not_and_self, true_and, and_true, not_true_eq_false, not_false_eq_true, false_imp_iff, true_imp_iff, imp_self, gPv_n, gPv_i, gPv_r, gPv_0, Option.toList_some, Option.toList_none, List.singleton_append, List.cons_append, List.nil_append, List.length_nil, List.length_cons, Nat.zero_le, Nat.reduceAdd, Nat.reduceLeDiff, or_true, true_or, false_or, or_false, and_self, and_false, false_and, implies_true, Option.some.injEq, exists_eq_left', nL, nI_add, nI_mul, nI_clamp, nI_ltI, nI_leI, nI_eq, nI_pos, nI_pos', Nat.reduceAdd, Nat.reduceMul, Nat.reducePow, sk_45 hv3, sr_45_0 hv3, sr_45_1 hv3, sr_45_2 hv3, sr_45_3 hv3, sr_45_4 hv3]
      refine s_walk (d := d) (e := e) X3 hT3 (fun j hj => by rw [hS3.2.2.2.2.2.2.1 _ (by omega)]; exact hR2 j (by omega)) (fun _ => by rw [lrm]; exact r5) ?_
      intro τ4 hS4 g4 g11 hO4
      have S3A : Sm (plP B σA) σA τ3 := Sm_trans hS2A (Sm_mono hS3 (fun a ha => Or.inr (by rw [ha]; exact hlA)))
      have S4A : Sm (plP B σA) σA τ4 := Sm_trans S3A (Sm_mono hS4 (fun a ha => Or.inl (by omega)))
      have hv4 : IvS B τ4 := fr_IvS S4A.1 S4A.2.1 S4A.2.2.1 hvA
      have fj : ∀ j, j ≠ 11 → j ≠ 6 → j ≠ 10 → gI τ4 (B + 45) j = gI τ0 (B + 45) j := fun j j1 j2 j3 => by
        rw [g4 j j1, hS3.2.2.2.2.2.2.1 _ (by omega), g2 j j2, k1 j j3]
      have q10 : gI τ4 (B + 45) 10 = nI 1 := by rw [g4 10 (by omega), hS3.2.2.2.2.2.2.1 _ (by omega), g2 10 (by omega)]; exact k10
      have q6 : gI τ4 (B + 45) 6 = nI s := by rw [g4 6 (by omega), hS3.2.2.2.2.2.2.1 _ (by omega)]; exact g6
      have hr : RdR A (nI h) (nI b) (gI τ4 (B + 45) 10) (gI τ4 (B + 45) 11) (gI τ4 (B + 45) 6) (gI τ4 (B + 47)) := by
        refine Or.inr ⟨q10, h, b, s, rfl, rfl, hR, q6, hE.1, ?_, ?_⟩
        · rw [g11]
          by_cases c : s = 0
          · have b0 : b = 0 := by
              rw [← tmf, c]
              rfl
            have hsh : sM A h = true := (sM_St r1).trans r4
            rw [if_pos c, b0, lrA, lr_0, dM_hh hsh]
          · rw [if_neg c, lrm]
        · intro i hi
          rw [hO4 i hi, sp_map em en (i + 1) (2 ^ s - 1) s (by omega) (fun _ _ => trivial) (by rw [lrm]; exact r5) (by rw [cn_fullm]; omega), tmf, he]
      have k := K τ4 σA hAS S4A (caF τ4 σA hAS S4A (by rcases hlo with y | y <;> rw [hlA, y] <;> simp) (by rw [fj 7 (by omega) (by omega) (by omega)]; exact f7) hr (by rw [fj 8 (by omega) (by omega) (by omega)]; exact f8) (by rw [fj 9 (by omega) (by omega) (by omega)]; exact f9)) hr
      rw [q10] at k
      simp (disch := omega) only [e_73_97, e_73_98, e_73_101, n10, n01, Nat.lt_irrefl, Nat.not_lt_zero, ne_eq, Nat.add_zero, Nat.one_ne_zero, Nat.zero_ne_one, Nat.reduceEqDiff, bI_T, bI_F, bI_0, bI_1, bI_01, not_and_self, true_and, and_true, not_true_eq_false, not_false_eq_true, false_imp_iff, true_imp_iff, imp_self, gPv_n, gPv_i, gPv_r, gPv_0, Option.toList_some, Option.toList_none, List.singleton_append, List.cons_append, List.nil_append, List.length_nil, List.length_cons, Nat.zero_le, Nat.reduceAdd, Nat.reduceLeDiff, or_true, true_or, false_or, or_false, and_self, and_false, false_and, implies_true, Option.some.injEq, exists_eq_left', nL, nI_add, nI_mul, nI_clamp, nI_ltI, nI_leI, nI_eq, nI_pos, nI_pos', Nat.reduceAdd, Nat.reduceMul, Nat.reducePow, sk_45 hv4, sr_45_0 hv4, sr_45_1 hv4, sr_45_2 hv4, sr_45_3 hv4, sr_45_4 hv4, q10]
      exact k
    · intro no
      simp (disch := omega) only [e_73_73, e_73_76, e_73_77, e_73_80, e_73_97, e_73_98, e_73_101, n10, n01, Nat.lt_irrefl, Nat.not_lt_zero, ne_eq, Nat.add_zero, Nat.one_ne_zero, Nat.zero_ne_one, Nat.reduceEqDiff, bI_T, bI_F, bI_0, bI_1, bI_01, not_and_self, true_and, and_true, not_true_eq_false, not_false_eq_true, false_imp_iff, true_imp_iff, imp_self, gPv_n, gPv_i, gPv_r, gPv_0, Option.toList_some, Option.toList_none, List.singleton_append, List.cons_append, List.nil_append, List.length_nil, List.length_cons, Nat.zero_le, Nat.reduceAdd, Nat.reduceLeDiff, or_true, true_or, false_or, or_false, and_self, and_false, false_and, implies_true, Option.some.injEq, exists_eq_left', nL, nI_add, nI_mul, nI_clamp, nI_ltI, nI_leI, nI_eq, nI_pos, nI_pos', Nat.reduceAdd, Nat.reduceMul, Nat.reducePow, sk_45 hv0, sr_45_0 hv0, sr_45_1 hv0, sr_45_2 hv0, sr_45_3 hv0, sr_45_4 hv0, n_K_I, n_K_J, n_K_R, n_K_r, n_N_I, n_N_J, n_N_R, n_N_r, n_R_I, n_R_J, n_R_r, n_J_I, n_J_R, n_J_r, n_I_J, n_I_R, n_n_I, n_n_J, n_n_R, n_n_r, n_w_I, n_w_J, n_w_R, n_w_r, n_T_I, n_T_J, n_T_R, n_T_r, rI_ne, rI_nk, rI_eq, rr_ne, rr_eq, n_J_J, n_R_R, Nat.add_left_cancel_iff, Nat.add_right_cancel_iff, Nat.add_eq_left, Nat.left_eq_add, Nat.reduceEqDiff, Nat.reduceAdd, Nat.zero_ne_one, Nat.one_ne_zero, false_and, and_false, true_and, and_true, and_self, if_false, if_true, ↓reduceIte]
      generalize hτ1 : sI τ0 (B + 45) 10 (nI 0) = τ1
      have S1 : Sm (fun a => a = B + 45) σ τ1 := by rw [← hτ1]; exact Sm_I S0 rfl
      have k1 : ∀ j, j ≠ 10 → gI τ1 (B + 45) j = gI τ0 (B + 45) j := fun j hj => by rw [← hτ1, rI_nk hj]
      have k10 : gI τ1 (B + 45) 10 = nI 0 := by rw [← hτ1, rI_eq]
      have S1A : Sm (plP B σ) σ τ1 := Sm_mono S1 (fun a ha => Or.inl (by omega))
      have hr : RdR A p q (gI τ1 (B + 45) 10) (gI τ1 (B + 45) 11) (gI τ1 (B + 45) 6) (gI τ1 (B + 47)) := Or.inl ⟨k10, no⟩
      have k := K τ1 σ (Or.inl rfl) S1A (caF τ1 σ (Or.inl rfl) S1A (Or.inl hl0) (by rw [k1 7 (by omega)]; exact f7) hr (by rw [k1 8 (by omega)]; exact f8) (by rw [k1 9 (by omega)]; exact f9)) hr
      rw [k10] at k
      exact k
  by_cases c7 : gI σ (B + 45) 7 = nI cc
  · by_cases c8 : gI σ (B + 45) 8 = p
    · by_cases c9 : gI σ (B + 45) 9 = q
      · have hr := (ha.2.2 5 (by omega)).2 c7
        rw [h5, cw_r (by omega), cw_r (by omega)] at hr
        have hr : RdR A (gI σ (B + 45) 8) (gI σ (B + 45) 9) (gI σ (B + 45) 10) (gI σ (B + 45) 11) (gI σ (B + 45) 6) (gI σ (B + 47)) := hr
        rw [c8, c9] at hr
        have k := K σ σ (Or.inl rfl) (Sm_refl _ _) ha hr
        have v01 : gI σ (B + 45) 10 = nI 0 ∨ gI σ (B + 45) 10 = nI 1 := hr.imp (fun z => z.1) (fun z => z.1)
        rcases v01 with v | v
        · rw [v] at k
          simp (disch := omega) only [c_73, e_73_0, e_73_1, e_73_4, e_73_5, e_73_8, e_73_11, e_73_14, e_73_15, e_73_18, e_73_19, e_73_22, e_73_23, e_73_26, e_73_27, e_73_30, e_73_31, e_73_34, n10, n01, Nat.lt_irrefl, Nat.not_lt_zero, ne_eq, Nat.add_zero, Nat.one_ne_zero, Nat.zero_ne_one, Nat.reduceEqDiff, bI_T, bI_F, bI_0, bI_1, bI_01, not_and_self, true_and, and_true, not_true_eq_false, not_false_eq_true, false_imp_iff, true_imp_iff, imp_self, gPv_n, gPv_i, gPv_r, gPv_0, Option.toList_some, Option.toList_none, List.singleton_append, List.cons_append, List.nil_append, List.length_nil, List.length_cons, Nat.zero_le, Nat.reduceAdd, Nat.reduceLeDiff, or_true, true_or, false_or, or_false, and_self, and_false, false_and, implies_true, Option.some.injEq, exists_eq_left', nL, nI_add, nI_mul, nI_clamp, nI_ltI, nI_leI, nI_eq, nI_pos, nI_pos', Nat.reduceAdd, Nat.reduceMul, Nat.reducePow, sk_1 hv, sr_1_0 hv, sr_1_1 hv, sr_1_2 hv, sr_1_3 hv, sr_1_4 hv, sr_1_7 hv, sr_1_9 hv, sr_1_14 hv, sr_1_15 hv, sr_1_16 hv, sk_45 hv, sr_45_0 hv, sr_45_1 hv, sr_45_2 hv, sr_45_3 hv, sr_45_4 hv, e17, c7, c8, c9, v]
          exact k
        · rw [v] at k
          simp (disch := omega) only [c_73, e_73_0, e_73_1, e_73_4, e_73_5, e_73_8, e_73_11, e_73_14, e_73_15, e_73_18, e_73_19, e_73_22, e_73_23, e_73_26, e_73_27, e_73_30, e_73_31, e_73_34, n10, n01, Nat.lt_irrefl, Nat.not_lt_zero, ne_eq, Nat.add_zero, Nat.one_ne_zero, Nat.zero_ne_one, Nat.reduceEqDiff, bI_T, bI_F, bI_0, bI_1, bI_01, not_and_self, true_and, and_true, not_true_eq_false, not_false_eq_true, false_imp_iff, true_imp_iff, imp_self, gPv_n, gPv_i, gPv_r, gPv_0, Option.toList_some, Option.toList_none, List.singleton_append, List.cons_append, List.nil_append, List.length_nil, List.length_cons, Nat.zero_le, Nat.reduceAdd, Nat.reduceLeDiff, or_true, true_or, false_or, or_false, and_self, and_false, false_and, implies_true, Option.some.injEq, exists_eq_left', nL, nI_add, nI_mul, nI_clamp, nI_ltI, nI_leI, nI_eq, nI_pos, nI_pos', Nat.reduceAdd, Nat.reduceMul, Nat.reducePow, sk_1 hv, sr_1_0 hv, sr_1_1 hv, sr_1_2 hv, sr_1_3 hv, sr_1_4 hv, sr_1_7 hv, sr_1_9 hv, sr_1_14 hv, sr_1_15 hv, sr_1_16 hv, sk_45 hv, sr_45_0 hv, sr_45_1 hv, sr_45_2 hv, sr_45_3 hv, sr_45_4 hv, e17, c7, c8, c9, v]
          exact k
      · simp (disch := omega) only [c_73, e_73_0, e_73_1, e_73_4, e_73_5, e_73_8, e_73_11, e_73_14, e_73_15, e_73_18, e_73_19, e_73_22, e_73_23, e_73_26, e_73_27, e_73_30, e_73_31, e_73_34, n10, n01, Nat.lt_irrefl, Nat.not_lt_zero, ne_eq, Nat.add_zero, Nat.one_ne_zero, Nat.zero_ne_one, Nat.reduceEqDiff, bI_T, bI_F, bI_0, bI_1, bI_01, not_and_self, true_and, and_true, not_true_eq_false, not_false_eq_true, false_imp_iff, true_imp_iff, imp_self, gPv_n, gPv_i, gPv_r, gPv_0, Option.toList_some, Option.toList_none, List.singleton_append, List.cons_append, List.nil_append, List.length_nil, List.length_cons, Nat.zero_le, Nat.reduceAdd, Nat.reduceLeDiff, or_true, true_or, false_or, or_false, and_self, and_false, false_and, implies_true, Option.some.injEq, exists_eq_left', nL, sk_1 hv, sr_1_0 hv, sr_1_1 hv, sr_1_2 hv, sr_1_3 hv, sr_1_4 hv, sr_1_7 hv, sr_1_9 hv, sr_1_14 hv, sr_1_15 hv, sr_1_16 hv, sk_45 hv, sr_45_0 hv, sr_45_1 hv, sr_45_2 hv, sr_45_3 hv, sr_45_4 hv, e17, c7, c8, c9]
        exact main
    · simp (disch := omega) only [c_73, e_73_0, e_73_1, e_73_4, e_73_5, e_73_8, e_73_11, e_73_14, e_73_15, e_73_18, e_73_19, e_73_22, e_73_23, e_73_26, e_73_27, e_73_30, e_73_31, e_73_34, n10, n01, Nat.lt_irrefl, Nat.not_lt_zero, ne_eq, Nat.add_zero, Nat.one_ne_zero, Nat.zero_ne_one, Nat.reduceEqDiff, bI_T, bI_F, bI_0, bI_1, bI_01, not_and_self, true_and, and_true, not_true_eq_false, not_false_eq_true, false_imp_iff, true_imp_iff, imp_self, gPv_n, gPv_i, gPv_r, gPv_0, Option.toList_some, Option.toList_none, List.singleton_append, List.cons_append, List.nil_append, List.length_nil, List.length_cons, Nat.zero_le, Nat.reduceAdd, Nat.reduceLeDiff, or_true, true_or, false_or, or_false, and_self, and_false, false_and, implies_true, Option.some.injEq, exists_eq_left', nL, sk_1 hv, sr_1_0 hv, sr_1_1 hv, sr_1_2 hv, sr_1_3 hv, sr_1_4 hv, sr_1_7 hv, sr_1_9 hv, sr_1_14 hv, sr_1_15 hv, sr_1_16 hv, sk_45 hv, sr_45_0 hv, sr_45_1 hv, sr_45_2 hv, sr_45_3 hv, sr_45_4 hv, e17, c7, c8]
      exact main
  · simp (disch := omega) only [c_73, e_73_0, e_73_1, e_73_4, e_73_5, e_73_8, e_73_11, e_73_14, e_73_15, e_73_18, e_73_19, e_73_22, e_73_23, e_73_26, e_73_27, e_73_30, e_73_31, e_73_34, n10, n01, Nat.lt_irrefl, Nat.not_lt_zero, ne_eq, Nat.add_zero, Nat.one_ne_zero, Nat.zero_ne_one, Nat.reduceEqDiff, bI_T, bI_F, bI_0, bI_1, bI_01, not_and_self, true_and, and_true, not_true_eq_false, not_false_eq_true, false_imp_iff, true_imp_iff, imp_self, gPv_n, gPv_i, gPv_r, gPv_0, Option.toList_some, Option.toList_none, List.singleton_append, List.cons_append, List.nil_append, List.length_nil, List.length_cons, Nat.zero_le, Nat.reduceAdd, Nat.reduceLeDiff, or_true, true_or, false_or, or_false, and_self, and_false, false_and, implies_true, Option.some.injEq, exists_eq_left', nL, sk_1 hv, sr_1_0 hv, sr_1_1 hv, sr_1_2 hv, sr_1_3 hv, sr_1_4 hv, sr_1_7 hv, sr_1_9 hv, sr_1_14 hv, sr_1_15 hv, sr_1_16 hv, sk_45 hv, sr_45_0 hv, sr_45_1 hv, sr_45_2 hv, sr_45_3 hv, sr_45_4 hv, e17, c7]
    exact main
end
/-! rounds: the model's answer -/
section
variable {B : Nat} {σ : gS} {A : Nat → Int32} {d v : Nat} {Q : Option Value → gS → Prop}
theorem t_round {p q : Int32} (X : MX B σ A) (hmc : Mc B A σ v) (h30 : gI σ (B + 54) 30 = -nI 1) (h32 : gI σ (B + 54) 32 = -nI 1) (K0 : ∀ τ', (τ' = σ ∨ QM B A v σ τ') → (∀ h b, p = nI h → q = nI b → ¬ RdK A h b) → Q (some (.int (-nI 1))) τ') (K1 : ∀ τ' h b, QM B A v σ τ' → p = nI h → q = nI b → RdK A h b → LbO B A τ' → TbI B A h b (2 ^ hn A) 0 τ' → Q (some (.int (nI (lrA A h b h)))) τ') : wc (d + 71) 266 [.ref (B + 54), .int p, .int q] σ Q := by
  have hv := X.1
  have wh := X.2.2.1
  have h12 := hn_le wh
  have p12 : 2 ^ hn A ≤ 4096 := Nat.pow_le_pow_right (by decide) h12
  by_cases c : RdA A p q
  · have cr : ∀ (d : Nat) (Q : Option Value → gS → Prop), wc (d + 3) 264 [.ref (B + 54), .int p, .int q] σ Q ↔ Q (some (.int (nI 1))) σ := fun d Q => by
      rw [t_canRound X]
      rw [show @bI (RdA A p q) (Classical.propDecidable _) = nI 1 from @if_pos _ (Classical.propDecidable _) c _ _ _]
    obtain ⟨h, b, rfl, rfl, c1, c2, c3, c4⟩ := c
    simp (disch := omega) only [c_266, e_266_0, e_266_1, e_266_2, e_266_3, e_266_6, e_266_11, e_266_12, e_266_13, e_266_14, n10, n01, Nat.lt_irrefl, Nat.not_lt_zero, ne_eq, Nat.add_zero, Nat.one_ne_zero, Nat.zero_ne_one, Nat.reduceEqDiff, bI_T, bI_F, bI_0, bI_1, bI_01, not_and_self, true_and, and_true, not_true_eq_false, not_false_eq_true, false_imp_iff, true_imp_iff, imp_self, gPv_n, gPv_i, gPv_r, gPv_0, Option.toList_some, Option.toList_none, List.singleton_append, List.cons_append, List.nil_append, List.length_nil, List.length_cons, Nat.zero_le, Nat.reduceAdd, Nat.reduceLeDiff, or_true, true_or, false_or, or_false, and_self, and_false, false_and, implies_true, Option.some.injEq, exists_eq_left', nL, nI_add, nI_mul, nI_clamp, nI_ltI, nI_leI, nI_eq, nI_pos, nI_pos', Nat.reduceAdd, Nat.reduceMul, Nat.reducePow, sk_54 hv, sr_54_2 hv, sr_54_3 hv, sr_54_4 hv, sr_54_5 hv, sr_54_7 hv, sr_54_8 hv, sr_54_9 hv, sr_54_12 hv, sr_54_13 hv, sr_54_14 hv, sr_54_22 hv, sr_54_25 hv, sr_54_26 hv, sr_54_27 hv, sr_54_34 hv, sr_54_35 hv, sr_54_36 hv, sr_54_37 hv, sr_54_38 hv, sr_54_40 hv, sr_54_43 hv, sr_54_44 hv, sr_54_45 hv, sr_54_46 hv, sr_54_47 hv, cr]
    refine t_least (d := d) X hmc h30 h32 c1 c2 ?_
    intro τ' hq hL hT
    have b0 := lrA_le (A := A) (hm := h) (td := b) (a := h)
    by_cases cl : lrA A h b h < 1000000
    · simp (disch := omega) only [e_266_17, e_266_18, e_266_19, e_266_21, e_266_24, e_266_25, e_266_28, e_266_29, n10, n01, Nat.lt_irrefl, Nat.not_lt_zero, ne_eq, Nat.add_zero, Nat.one_ne_zero, Nat.zero_ne_one, Nat.reduceEqDiff, bI_T, bI_F, bI_0, bI_1, bI_01, not_and_self, true_and, and_true, not_true_eq_false, not_false_eq_true, false_imp_iff, true_imp_iff, imp_self, gPv_n, gPv_i, gPv_r, gPv_0, Option.toList_some, Option.toList_none, List.singleton_append, List.cons_append, List.nil_append, List.length_nil, List.length_cons, Nat.zero_le, Nat.reduceAdd, Nat.reduceLeDiff, or_true, true_or, false_or, or_false, and_self, and_false, false_and, implies_true, Option.some.injEq, exists_eq_left', nL, nI_add, nI_mul, nI_clamp, nI_ltI, nI_leI, nI_eq, nI_pos, nI_pos', Nat.reduceAdd, Nat.reduceMul, Nat.reducePow, cl]
      exact K1 τ' h b hq rfl rfl ⟨c1, c2, c3, c4, cl⟩ hL hT
    · simp (disch := omega) only [e_266_17, e_266_18, e_266_19, e_266_21, e_266_24, e_266_25, e_266_28, e_266_29, n10, n01, Nat.lt_irrefl, Nat.not_lt_zero, ne_eq, Nat.add_zero, Nat.one_ne_zero, Nat.zero_ne_one, Nat.reduceEqDiff, bI_T, bI_F, bI_0, bI_1, bI_01, not_and_self, true_and, and_true, not_true_eq_false, not_false_eq_true, false_imp_iff, true_imp_iff, imp_self, gPv_n, gPv_i, gPv_r, gPv_0, Option.toList_some, Option.toList_none, List.singleton_append, List.cons_append, List.nil_append, List.length_nil, List.length_cons, Nat.zero_le, Nat.reduceAdd, Nat.reduceLeDiff, or_true, true_or, false_or, or_false, and_self, and_false, false_and, implies_true, Option.some.injEq, exists_eq_left', nL, nI_add, nI_mul, nI_clamp, nI_ltI, nI_leI, nI_eq, nI_pos, nI_pos', Nat.reduceAdd, Nat.reduceMul, Nat.reducePow, cl]
      refine K0 τ' (Or.inr hq) (fun h' b' e1 e2 r => ?_)
      have r' := r
      obtain ⟨r1, r2, r3, r4, r5⟩ := r'
      rw [nI_eq (by omega) (by omega)] at e1 e2
      rw [← e1, ← e2] at r5
      exact cl r5
  · have cr : ∀ (d : Nat) (Q : Option Value → gS → Prop), wc (d + 3) 264 [.ref (B + 54), .int p, .int q] σ Q ↔ Q (some (.int (nI 0))) σ := fun d Q => by
      rw [t_canRound X]
      rw [show @bI (RdA A p q) (Classical.propDecidable _) = nI 0 from @if_neg _ (Classical.propDecidable _) c _ _ _]
    simp (disch := omega) only [c_266, e_266_0, e_266_1, e_266_2, e_266_3, e_266_6, e_266_9, e_266_10, n10, n01, Nat.lt_irrefl, Nat.not_lt_zero, ne_eq, Nat.add_zero, Nat.one_ne_zero, Nat.zero_ne_one, Nat.reduceEqDiff, bI_T, bI_F, bI_0, bI_1, bI_01, not_and_self, true_and, and_true, not_true_eq_false, not_false_eq_true, false_imp_iff, true_imp_iff, imp_self, gPv_n, gPv_i, gPv_r, gPv_0, Option.toList_some, Option.toList_none, List.singleton_append, List.cons_append, List.nil_append, List.length_nil, List.length_cons, Nat.zero_le, Nat.reduceAdd, Nat.reduceLeDiff, or_true, true_or, false_or, or_false, and_self, and_false, false_and, implies_true, Option.some.injEq, exists_eq_left', nL, nI_add, nI_mul, nI_clamp, nI_ltI, nI_leI, nI_eq, nI_pos, nI_pos', Nat.reduceAdd, Nat.reduceMul, Nat.reducePow, sk_54 hv, sr_54_2 hv, sr_54_3 hv, sr_54_4 hv, sr_54_5 hv, sr_54_7 hv, sr_54_8 hv, sr_54_9 hv, sr_54_12 hv, sr_54_13 hv, sr_54_14 hv, sr_54_22 hv, sr_54_25 hv, sr_54_26 hv, sr_54_27 hv, sr_54_34 hv, sr_54_35 hv, sr_54_36 hv, sr_54_37 hv, sr_54_38 hv, sr_54_40 hv, sr_54_43 hv, sr_54_44 hv, sr_54_45 hv, sr_54_46 hv, sr_54_47 hv, cr]
    refine K0 σ (Or.inl rfl) (fun h b e1 e2 r => c ?_)
    obtain ⟨r1, r2, r3, r4, r5⟩ := r
    exact ⟨h, b, e1, e2, r1, r2, r3, r4⟩
end
/-! the round's own part of the invariant -/
section
variable {CV : Nat → (Nat → Int32) → (Nat → Nat → Int32) → Prop} {G : gG} {σ : gS} {k : Nat}
theorem Inv_l {τ : gS} {P : Nat → Prop} (hI : Inv LSx CV MVx G σ k) (hS : Sm P σ τ) : gB G + 80 ≤ gn τ ∧ gn τ ≤ gB G + 100 + 60 * k ∧ ∃ l s, gR τ (gB G + 45) 5 = some l ∧ gK τ l = 21 ∧ gN τ l = s * 2 ^ s ∧ s ≤ 11 ∧ (l = gB G + 49 ∨ gB G + 80 ≤ l ∧ l < gn τ) := by
  obtain ⟨own, i1, i2, _⟩ := hI
  obtain ⟨w1, l, s, w2, w3, w4, w5, w6, w7⟩ := i2
  rw [hS.2.2.2.1, hS.2.2.1, hS.1, hS.2.1]
  refine ⟨i1.2.2.2.2.2.2.1, i1.2.2.2.2.2.2.2, l, s, w2, w3, w4, w5, ?_⟩
  rcases w6 with w6 | w6
  · exact Or.inl w6
  · have := w1 l (by omega)
    exact Or.inr this
/-- behind the class's rounds and the model's answer -/
theorem Inv_rd {τ2 σA τ3 τ4 : gS} {cc v : Nat} (hk : k < 512) (hI : Inv LSx CV MVx G σ k) (hm : Mc (gB G) (gI σ (gB G + 56)) σ v) (hS1 : Sm (fun a => gB G + 25 ≤ a ∧ a < gB G + 50) σ τ2) (hC2 : Ca CV (gB G) (gI σ (gB G + 56)) τ2 cc) (hA : AlS (gB G) τ2 σA) (hS2 : Sm (plP (gB G) σA) σA τ3) (hCa : Ca CV (gB G) (gI σ (gB G + 56)) τ3 cc) (hq : τ4 = τ3 ∨ QM (gB G) (gI σ (gB G + 56)) v τ3 τ4) : Inv LSx CV MVx G τ4 (k + 1) := by
  have I2 : Inv LSx CV MVx G τ2 (k + 1) := Inv_Q1 hk hI hS1 hC2
  have e56 : gI τ2 (gB G + 56) = gI σ (gB G + 56) := hS1.2.2.2.2.2.2.1 _ (by omega)
  have e54 : gI τ2 (gB G + 54) = gI σ (gB G + 54) := hS1.2.2.2.2.2.2.1 _ (by omega)
  obtain ⟨n1, n2, _⟩ := Inv_l hI hS1
  have IA : Inv LSx CV MVx G σA (k + 1) := by
    rcases hA with rfl | ⟨q, l0, a1, a2, a3, rfl⟩
    · exact I2
    · exact Inv_al I2 (by omega) a2 a1 a3
  have rA : ∀ o, o < 80 → gI σA (gB G + o) = gI τ2 (gB G + o) := fun o ho => AlS_I hA (by omega)
  have lA : ∀ a, gR σA (gB G + 45) 5 = some a → a = gB G + 49 ∨ gB G + 80 ≤ a := by
    intro a ha
    obtain ⟨_, _, l, s, l1, _, _, _, l5⟩ := Inv_l IA (Sm_refl (fun _ => False) σA)
    rw [l1] at ha
    have : l = a := by simpa using ha
    omega
  have r3 : ∀ o, 50 ≤ o → o < 80 → gI τ3 (gB G + o) = gI σA (gB G + o) := fun o h1 h2 => hS2.2.2.2.2.2.2.1 _ (by
    rintro (z | z)
    · omega
    · have := lA _ z
      omega)
  have f54 : gI τ3 (gB G + 54) = gI σ (gB G + 54) := by rw [r3 54 (by omega) (by omega), rA 54 (by omega), e54]
  have hS3 : Sm (fun a => gB G + 25 ≤ a ∧ a < gB G + 50 ∨ gR σA (gB G + 45) 5 = some a) σA τ3 := Sm_mono hS2 (fun a ha => by
    rcases ha with ha | ha
    · exact Or.inl ⟨by omega, by omega⟩
    · exact Or.inr ha)
  have eA56 : gI σA (gB G + 56) = gI σ (gB G + 56) := by rw [rA 56 (by omega), e56]
  have eA54 : gI σA (gB G + 54) = gI σ (gB G + 54) := by rw [rA 54 (by omega), e54]
  rw [← eA56] at hCa hq
  rcases hq with rfl | hq
  · refine Inv_qr2 (by omega) IA hS3 hCa (Sm_refl _ _) (fun j _ => by rw [r3 54 (by omega) (by omega)]) (Or.inl ⟨by rw [r3 54 (by omega) (by omega)], by rw [r3 54 (by omega) (by omega)], r3 66 (by omega) (by omega), r3 67 (by omega) (by omega), r3 68 (by omega) (by omega)⟩)
  · obtain ⟨h1, h2, h3, h4, h5, h6⟩ := hq
    refine Inv_qr2 (by omega) IA hS3 hCa h1 ?_ (Or.inr ⟨by rw [h4, eA54]; exact hm.1.symm, by rw [h5]; exact h6⟩)
    intro j hj
    obtain ⟨z1, z2⟩ := Inv_30 hI
    rcases hj with hj | hj | hj | hj | hj | hj | hj | hj
    · rw [h2 j (by omega), f54, eA54]
    · rw [h2 j (by omega), f54, eA54]
    · rw [h2 j (by omega), f54, eA54]
    · rw [h2 j (by omega), f54, eA54]
    · rw [h2 j (by omega), f54, eA54]
    · rw [hj, h3.1, eA54, z1]
    · rw [hj, h3.2, eA54, z2]
    · rw [h2 j (by omega), f54, eA54]
theorem gSc_A {τ2 σA τ3 : gS} {b : Nat} (hb : b < gB G) (hS1 : Sm (fun a => gB G + 25 ≤ a ∧ a < gB G + 50) σ τ2) (hgn : gB G + 80 ≤ gn τ2) (hA : AlS (gB G) τ2 σA) (hS2 : Sm (plP (gB G) σA) σA τ3) (hl : ∀ a, gR σA (gB G + 45) 5 = some a → gB G ≤ a) : gSc b σ τ3 := by
  have h1 : gSc b σ τ2 := gSc_S hS1 (by omega)
  have h2 : gK σA b = gK τ2 b ∧ gN σA b = gN τ2 b ∧ gI σA b = gI τ2 b := by
    rcases hA with rfl | ⟨q, l0, a1, a2, a3, rfl⟩
    · exact ⟨rfl, rfl, rfl⟩
    · exact ⟨al_K (by omega), al_N (by omega), al_I (by omega)⟩
  obtain ⟨g1, g2, g3⟩ := h1
  refine ⟨by rw [hS2.1, h2.1]; exact g1, by rw [hS2.2.1, h2.2.1]; exact g2, ?_⟩
  rw [hS2.2.2.2.2.2.2.1 b ?_, h2.2.2]
  · exact g3
  · rintro (z | z)
    · omega
    · have := hl _ z
      omega
set_option maxHeartbeats 2000000 in
theorem ob_round (hcv : CVl CV) (h2 : ∀ A W, CV 2 A W ↔ ∀ a b, a < 12 → b < 12 → W 6 (12 * a + b) = nI (mM A a b) ∧ W 7 (12 * a + b) = nI (fl (mM A) 12 a b)) (h5 : ∀ A W, CV 5 A W ↔ RdR A (W 20 8) (W 20 9) (W 20 10) (W 20 11) (W 20 6) (W 22)) : gOb (Inv LSx CV MVx G) (gb G) (gB G) (gB G + 54) 145 266 2 := by
  intro σ k as hl hk hI
  obtain ⟨p0, p1, rfl⟩ := len2 hl
  have hv := Inv_Sh hI
  have hb := Inv_b hI
  obtain ⟨own, cc, v, hc, ha, hX, hm⟩ := Inv_ctx hI hk
  obtain ⟨z30, z32⟩ := Inv_30 hI
  have w1 := hX.2.2.1
  simp (disch := first | omega | (simp only [IvS_I, IvS_J, IvS_r]; assumption)) only [List.map_cons, List.map_nil, Value.int.injEq, gSc_r, gSc_I, n10, n01, Nat.lt_irrefl, Nat.not_lt_zero, ne_eq, Nat.add_zero, Nat.one_ne_zero, Nat.zero_ne_one, Nat.reduceEqDiff, bI_T, bI_F, bI_0, bI_1, bI_01, not_and_self, true_and, and_true, not_true_eq_false, not_false_eq_true, false_imp_iff, true_imp_iff, imp_self, gPv_n, gPv_i, gPv_r, gPv_0, Option.toList_some, Option.toList_none, List.singleton_append, List.cons_append, List.nil_append, List.length_nil, List.length_cons, Nat.zero_le, Nat.reduceAdd, Nat.reduceLeDiff, or_true, true_or, false_or, or_false, and_self, and_false, false_and, implies_true, Option.some.injEq, exists_eq_left', nL, c_145, e_145_0, e_145_1, e_145_4, e_145_5, e_145_8, sk_0 hv, sr_0_0 hv, sr_0_1 hv, sr_0_2 hv, sr_0_4 hv, sr_0_7 hv, sr_0_9 hv, sr_0_10 hv, sr_0_11 hv, sr_0_12 hv, sr_0_13 hv, sr_0_14 hv, sk_25 hv, sr_25_0 hv, sr_25_1 hv, sr_25_2 hv, sr_25_3 hv, sr_25_4 hv, sr_25_5 hv]
  refine s_openRows (d := 992) hcv hc ha ?_
  intro τ hS hcT haT hr
  have hvT := hcT.1
  simp (disch := omega) only [e_145_11, n10, n01, Nat.lt_irrefl, Nat.not_lt_zero, ne_eq, Nat.add_zero, Nat.one_ne_zero, Nat.zero_ne_one, Nat.reduceEqDiff, bI_T, bI_F, bI_0, bI_1, bI_01, not_and_self, true_and, and_true, not_true_eq_false, not_false_eq_true, false_imp_iff, true_imp_iff, imp_self, gPv_n, gPv_i, gPv_r, gPv_0, Option.toList_some, Option.toList_none, List.singleton_append, List.cons_append, List.nil_append, List.length_nil, List.length_cons, Nat.zero_le, Nat.reduceAdd, Nat.reduceLeDiff, or_true, true_or, false_or, or_false, and_self, and_false, false_and, implies_true, Option.some.injEq, exists_eq_left', nL, sk_25 hvT, sr_25_0 hvT, sr_25_1 hvT, sr_25_2 hvT, sr_25_3 hvT, sr_25_4 hvT, sr_25_5 hvT]
  refine s_measure (d := 994) hcv h2 hcT haT hr ?_
  intro τ2 hS2 hcT2 haT2 hM2
  have hv2 := hcT2.1
  have hS02 : Sm (fun a => gB G + 25 ≤ a ∧ a < gB G + 50) σ τ2 := Sm_trans (Sm_mono hS (fun a ha => by omega)) (Sm_mono hS2 (fun a ha => by omega))
  obtain ⟨n1, n2, l, s, l1, l2, l3, l4, l5⟩ := Inv_l hI hS02
  simp (disch := omega) only [e_145_14, e_145_15, e_145_18, e_145_19, e_145_20, n10, n01, Nat.lt_irrefl, Nat.not_lt_zero, ne_eq, Nat.add_zero, Nat.one_ne_zero, Nat.zero_ne_one, Nat.reduceEqDiff, bI_T, bI_F, bI_0, bI_1, bI_01, not_and_self, true_and, and_true, not_true_eq_false, not_false_eq_true, false_imp_iff, true_imp_iff, imp_self, gPv_n, gPv_i, gPv_r, gPv_0, Option.toList_some, Option.toList_none, List.singleton_append, List.cons_append, List.nil_append, List.length_nil, List.length_cons, Nat.zero_le, Nat.reduceAdd, Nat.reduceLeDiff, or_true, true_or, false_or, or_false, and_self, and_false, false_and, implies_true, Option.some.injEq, exists_eq_left', nL, sk_0 hv2, sr_0_0 hv2, sr_0_1 hv2, sr_0_2 hv2, sr_0_4 hv2, sr_0_7 hv2, sr_0_9 hv2, sr_0_10 hv2, sr_0_11 hv2, sr_0_12 hv2, sr_0_13 hv2, sr_0_14 hv2, sk_45 hv2, sr_45_0 hv2, sr_45_1 hv2, sr_45_2 hv2, sr_45_3 hv2, sr_45_4 hv2]
  refine s_plan (d := 994) hcv h5 hcT2 haT2 hM2 n1 l1 l2 l3 l4 l5 ?_
  intro τ3 σA hAS hS3 haT3 hR
  have I2 : Inv LSx CV MVx G τ2 (k + 1) := Inv_Q1 hk hI hS02 haT2
  have lA : ∀ a, gR σA (gB G + 45) 5 = some a → a = gB G + 49 ∨ gB G + 80 ≤ a := by
    intro a ha
    rcases hAS with rfl | ⟨q, l0, a1, a2, a3, rfl⟩
    · rw [l1] at ha
      have : l = a := by simpa using ha
      omega
    · rw [al_R5] at ha
      have : gn τ2 = a := by simpa using ha
      omega
  have hvA : IvS (gB G) σA := by
    rcases hAS with rfl | ⟨_, _, _, _, _, rfl⟩
    · exact hv2
    · exact IvS_al hv2 n1
  have hv3 : IvS (gB G) τ3 := fr_IvS hS3.1 hS3.2.1 hS3.2.2.1 hvA
  have r3 : ∀ o, 50 ≤ o → o < 80 → gI τ3 (gB G + o) = gI σ (gB G + o) := fun o h1 h2 => by
    rw [hS3.2.2.2.2.2.2.1 _ (by
      rintro (z | z)
      · omega
      · have := lA _ z
        omega), AlS_I hAS (by omega), hS02.2.2.2.2.2.2.1 _ (by omega)]
  have XT : MX (gB G) τ3 (gI σ (gB G + 56)) := ⟨hv3, r3 56 (by omega) (by omega), hX.2.2⟩
  have hmT : Mc (gB G) (gI σ (gB G + 56)) τ3 v := by
    simp only [Mc, r3 54 (by omega) (by omega), r3 66 (by omega) (by omega), r3 67 (by omega) (by omega), r3 68 (by omega) (by omega)]
    exact hm
  have q30 : gI τ3 (gB G + 54) 30 = -nI 1 := by rw [r3 54 (by omega) (by omega)]; exact z30
  have q32 : gI τ3 (gB G + 54) 32 = -nI 1 := by rw [r3 54 (by omega) (by omega)]; exact z32
  have sc : gSc (gb G) σ τ3 ∧ gK τ3 (gB G + 54) = 13 := ⟨gSc_A hb hS02 n1 hAS hS3 (fun a ha => by have := lA a ha; omega), sk_54 hv3⟩
  have fin : ∀ τ4, (τ4 = τ3 ∨ QM (gB G) (gI σ (gB G + 56)) v τ3 τ4) → Inv LSx CV MVx G τ4 (k + 1) := fun τ4 hq => Inv_rd hk hI hm hS02 haT2 hAS hS3 haT3 hq
  rcases hR with ⟨c0, no⟩ | ⟨c1, h, b, s', e1, e2, hK, e3, e4, e5, e6⟩
  · rw [c0]
    simp (disch := omega) only [e_145_23, e_145_26, e_145_27, e_145_30, e_145_33, e_145_36, e_145_37, n10, n01, Nat.lt_irrefl, Nat.not_lt_zero, ne_eq, Nat.add_zero, Nat.one_ne_zero, Nat.zero_ne_one, Nat.reduceEqDiff, bI_T, bI_F, bI_0, bI_1, bI_01, not_and_self, true_and, and_true, not_true_eq_false, not_false_eq_true, false_imp_iff, true_imp_iff, imp_self, gPv_n, gPv_i, gPv_r, gPv_0, Option.toList_some, Option.toList_none, List.singleton_append, List.cons_append, List.nil_append, List.length_nil, List.length_cons, Nat.zero_le, Nat.reduceAdd, Nat.reduceLeDiff, or_true, true_or, false_or, or_false, and_self, and_false, false_and, implies_true, Option.some.injEq, exists_eq_left', nL, nI_add, nI_mul, nI_clamp, nI_ltI, nI_leI, nI_eq, nI_pos, nI_pos', Nat.reduceAdd, Nat.reduceMul, Nat.reducePow]
    refine ⟨sc, _, rfl, ?_⟩
    refine t_round (d := 929) XT hmT q30 q32 ?_ ?_
    · intro τ4 hq _
      exact ⟨rfl, fin τ4 hq⟩
    · intro τ4 h b hq f1 f2 hK _ _
      exact absurd hK (no h b f1 f2)
  · rw [c1]
    simp (disch := omega) only [e_145_23, e_145_26, e_145_27, e_145_30, e_145_33, e_145_36, e_145_37, n10, n01, Nat.lt_irrefl, Nat.not_lt_zero, ne_eq, Nat.add_zero, Nat.one_ne_zero, Nat.zero_ne_one, Nat.reduceEqDiff, bI_T, bI_F, bI_0, bI_1, bI_01, not_and_self, true_and, and_true, not_true_eq_false, not_false_eq_true, false_imp_iff, true_imp_iff, imp_self, gPv_n, gPv_i, gPv_r, gPv_0, Option.toList_some, Option.toList_none, List.singleton_append, List.cons_append, List.nil_append, List.length_nil, List.length_cons, Nat.zero_le, Nat.reduceAdd, Nat.reduceLeDiff, or_true, true_or, false_or, or_false, and_self, and_false, false_and, implies_true, Option.some.injEq, exists_eq_left', nL, nI_add, nI_mul, nI_clamp, nI_ltI, nI_leI, nI_eq, nI_pos, nI_pos', Nat.reduceAdd, Nat.reduceMul, Nat.reducePow, sk_0 hv3, sr_0_0 hv3, sr_0_1 hv3, sr_0_2 hv3, sr_0_4 hv3, sr_0_7 hv3, sr_0_9 hv3, sr_0_10 hv3, sr_0_11 hv3, sr_0_12 hv3, sr_0_13 hv3, sr_0_14 hv3, sk_45 hv3, sr_45_0 hv3, sr_45_1 hv3, sr_45_2 hv3, sr_45_3 hv3, sr_45_4 hv3, e5]
    refine ⟨sc, _, rfl, ?_⟩
    refine t_round (d := 929) XT hmT q30 q32 ?_ ?_
    · intro τ4 hq no
      exact absurd hK (no h b e1 e2)
    · intro τ4 h' b' hq f1 f2 hK' _ _
      have h12 := hn_le w1
      have p12 : 2 ^ hn (gI σ (gB G + 56)) ≤ 4096 := Nat.pow_le_pow_right (by decide) h12
      rw [e1, nI_eq (by have := hK.1; omega) (by have := hK'.1; omega)] at f1
      rw [e2, nI_eq (by have := hK.2.1; omega) (by have := hK'.2.1; omega)] at f2
      rw [← f1, ← f2]
      exact ⟨rfl, fin τ4 (Or.inr hq)⟩
end
