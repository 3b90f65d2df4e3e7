/-! feed -/
theorem fd4_K {B q : Nat} {x : Int32} {σ : gS} : gK (fd4 σ B x q) = gK σ := by simp only [fd4, n_K_I]
theorem fd4_N {B q : Nat} {x : Int32} {σ : gS} : gN (fd4 σ B x q) = gN σ := by simp only [fd4, n_N_I]
def fd20 (σ : gS) (B : Nat) (a b c e f : Int32) (q : Nat) : gS := fd4 (fd4 (fd4 (fd4 (fd4 σ B a q) B b (q + 4)) B c (q + 4 + 4)) B e (q + 4 + 4 + 4)) B f (q + 4 + 4 + 4 + 4)
theorem s_feed {d : Nat} {Q : Option Value → gS → Prop} {B q : Nat} {a b c e f : Int32} {σ : gS} (hv : IvS B σ) (h3 : gI σ B 3 = nI q) (hq : q + 20 ≤ 400) : wc (d + 2) 122 [.ref B, .int a, .int b, .int c, .int e, .int f] σ Q ↔ Q (some (.int (nI (q + 20)))) (fd20 σ B a b c e f q) := by
  simp (disch := omega) only [c_122, e_122_0, e_122_1, e_122_4, e_122_6, e_122_7, e_122_10, e_122_13, e_122_14, e_122_15, e_122_16, e_122_17, e_122_20, e_122_21, e_122_22, e_122_25, e_122_26, e_122_27, e_122_30, e_122_31, e_122_33, e_122_36, e_122_37, e_122_39, e_122_42, e_122_43, e_122_46, n10, n01, Nat.lt_irrefl, Nat.not_lt_zero, ne_eq, Nat.add_zero, Nat.one_ne_zero, Nat.zero_ne_one, Nat.reduceEqDiff, bI_T, bI_F, bI_0, bI_1, bI_01, not_and_self, true_and, and_true, not_true_eq_false, not_false_eq_true, false_imp_iff, true_imp_iff, imp_self, gPv_n, gPv_i, gPv_r, gPv_0, Option.toList_some, Option.toList_none, List.singleton_append, List.cons_append, List.nil_append, List.length_nil, List.length_cons, Nat.zero_le, Nat.reduceAdd, Nat.reduceLeDiff, or_true, true_or, false_or, or_false, and_self, and_false, false_and, implies_true, Option.some.injEq, exists_eq_left', nL, nI_add, nI_mul, nI_clamp, nI_ltI, nI_leI, nI_eq, nI_pos, nI_pos', Nat.reduceAdd, Nat.reduceMul, Nat.reducePow, sk_0 hv, sr_0_0 hv, sr_0_1 hv, sr_0_2 hv, sr_0_4 hv, sr_0_7 hv, sr_0_9 hv, sr_0_10 hv, sr_0_11 hv, sr_0_12 hv, sr_0_13 hv, sr_0_14 hv, h3, hq, s_feed4 hv h3 (show q + 4 ≤ 400 by omega), s_feed4 (fd4_v hv) fd4_3 (show q + 4 + 4 ≤ 400 by omega), s_feed4 (fd4_v (fd4_v hv)) fd4_3 (show q + 4 + 4 + 4 ≤ 400 by omega), s_feed4 (fd4_v (fd4_v (fd4_v hv))) fd4_3 (show q + 4 + 4 + 4 + 4 ≤ 400 by omega), s_feed4 (fd4_v (fd4_v (fd4_v (fd4_v hv)))) fd4_3 (show q + 4 + 4 + 4 + 4 + 4 ≤ 400 by omega), fd4_K, fd4_3]
  simp only [Nat.add_assoc, Nat.reduceAdd, fd20]
theorem fdR_0 {X : Nat → Int32} {q : Nat} {T : Nat → Int32} : fdR X q T 0 = T := by
  funext j
  simp only [fdR]
  rw [if_neg (by omega)]
def md5 (σ : gS) (B : Nat) (a b c e f : Int32) : gS := sI (sI (sI (sI (sI σ (B + 61) 0 a) (B + 61) 1 b) (B + 61) 2 c) (B + 61) 3 e) (B + 61) 4 f
theorem t_feed {d : Nat} {Q : Option Value → gS → Prop} {B q : Nat} {a b c e f : Int32} {σ : gS} (hv : IvS B σ) (h10 : gI σ (B + 54) 10 = nI q) (hq : q + 20 ≤ 400) : wc (d + 1) 194 [.ref (B + 54), .int a, .int b, .int c, .int e, .int f] σ Q ↔ Q (some (.int (nI (q + 20)))) (sI (sIr (md5 σ B a b c e f) (B + 60) (fdR (gI (md5 σ B a b c e f) (B + 61)) q (gI (md5 σ B a b c e f) (B + 60)) 20)) (B + 54) 10 (nI (q + 20))) := by
  have hv5 : IvS B (md5 σ B a b c e f) := by simp only [md5, IvS_I]; exact hv
  have h5 : gI (md5 σ B a b c e f) (B + 54) 10 = nI q := by simp (disch := omega) only [md5, rI_ne]; exact h10
  simp (disch := omega) only [c_194, e_194_0, e_194_1, e_194_4, e_194_6, e_194_7, e_194_10, e_194_13, e_194_14, e_194_15, e_194_16, e_194_19, e_194_20, e_194_21, e_194_22, e_194_23, e_194_26, e_194_27, e_194_28, e_194_29, e_194_30, e_194_33, e_194_34, e_194_35, e_194_36, e_194_37, e_194_40, e_194_41, e_194_43, e_194_44, e_194_45, e_194_48, e_194_49, e_194_51, e_194_52, e_194_53, n10, n01, Nat.lt_irrefl, Nat.not_lt_zero, ne_eq, Nat.add_zero, Nat.one_ne_zero, Nat.zero_ne_one, Nat.reduceEqDiff, bI_T, bI_F, bI_0, bI_1, bI_01, not_and_self, true_and, and_true, not_true_eq_false, not_false_eq_true, false_imp_iff, true_imp_iff, imp_self, gPv_n, gPv_i, gPv_r, gPv_0, Option.toList_some, Option.toList_none, List.singleton_append, List.cons_append, List.nil_append, List.length_nil, List.length_cons, Nat.zero_le, Nat.reduceAdd, Nat.reduceLeDiff, or_true, true_or, false_or, or_false, and_self, and_false, false_and, implies_true, Option.some.injEq, exists_eq_left', n_K_I, n_K_J, n_K_R, n_K_r, n_N_I, n_N_J, n_N_R, n_N_r, n_R_I, n_R_J, n_R_r, n_J_I, n_J_R, n_J_r, n_I_J, n_I_R, n_n_I, n_n_J, n_n_R, n_n_r, n_w_I, n_w_J, n_w_R, n_w_r, n_T_I, n_T_J, n_T_R, n_T_r, rI_ne, rI_nk, rI_eq, rr_ne, rr_eq, n_J_J, n_R_R, Nat.add_left_cancel_iff, Nat.add_right_cancel_iff, Nat.add_eq_left, Nat.left_eq_add, Nat.reduceEqDiff, Nat.reduceAdd, Nat.zero_ne_one, Nat.one_ne_zero, false_and, and_false, true_and, and_true, and_self, if_false, if_true, ↓reduceIte, nL, nI_add, nI_mul, nI_clamp, nI_ltI, nI_leI, nI_eq, nI_pos, nI_pos', Nat.reduceAdd, Nat.reduceMul, Nat.reducePow, sk_54 hv, sr_54_2 hv, sr_54_3 hv, sr_54_4 hv, sr_54_5 hv, sr_54_7 hv, sr_54_8 hv, sr_54_9 hv, sr_54_12 hv, sr_54_13 hv, sr_54_14 hv, sr_54_22 hv, sr_54_25 hv, sr_54_26 hv, sr_54_27 hv, sr_54_34 hv, sr_54_35 hv, sr_54_36 hv, sr_54_37 hv, sr_54_38 hv, sr_54_40 hv, sr_54_43 hv, sr_54_44 hv, sr_54_45 hv, sr_54_46 hv, sr_54_47 hv, sk_61 hv, sn_61 hv, h10, hq, Nat.reduceLT]
  have e0 : sI (sI (sI (sI (sI σ (B + 61) 0 a) (B + 61) 1 b) (B + 61) 2 c) (B + 61) 3 e) (B + 61) 4 f = sIr (md5 σ B a b c e f) (B + 60) (fdR (gI (md5 σ B a b c e f) (B + 61)) q (gI (md5 σ B a b c e f) (B + 60)) 0) := by
    rw [fdR_0, sIr_id]
    rfl
  rw [e0, t_fd (gPv_i _) hv5 h5 hq (fun _ _ => rfl) 20 0 (by omega)]
  simp (disch := omega) only [e_194_101, e_194_102, e_194_102n, e_194_103, e_194_106, e_194_108, e_194_109, e_194_112, e_194_113, e_194_116, n10, n01, Nat.lt_irrefl, Nat.not_lt_zero, ne_eq, Nat.add_zero, Nat.one_ne_zero, Nat.zero_ne_one, Nat.reduceEqDiff, bI_T, bI_F, bI_0, bI_1, bI_01, not_and_self, true_and, and_true, not_true_eq_false, not_false_eq_true, false_imp_iff, true_imp_iff, imp_self, gPv_n, gPv_i, gPv_r, gPv_0, Option.toList_some, Option.toList_none, List.singleton_append, List.cons_append, List.nil_append, List.length_nil, List.length_cons, Nat.zero_le, Nat.reduceAdd, Nat.reduceLeDiff, or_true, true_or, false_or, or_false, and_self, and_false, false_and, implies_true, Option.some.injEq, exists_eq_left', n_K_I, n_K_J, n_K_R, n_K_r, n_N_I, n_N_J, n_N_R, n_N_r, n_R_I, n_R_J, n_R_r, n_J_I, n_J_R, n_J_r, n_I_J, n_I_R, n_n_I, n_n_J, n_n_R, n_n_r, n_w_I, n_w_J, n_w_R, n_w_r, n_T_I, n_T_J, n_T_R, n_T_r, rI_ne, rI_nk, rI_eq, rr_ne, rr_eq, n_J_J, n_R_R, Nat.add_left_cancel_iff, Nat.add_right_cancel_iff, Nat.add_eq_left, Nat.left_eq_add, Nat.reduceEqDiff, Nat.reduceAdd, Nat.zero_ne_one, Nat.one_ne_zero, false_and, and_false, true_and, and_true, and_self, if_false, if_true, ↓reduceIte, nL, nI_add, nI_mul, nI_clamp, nI_ltI, nI_leI, nI_eq, nI_pos, nI_pos', Nat.reduceAdd, Nat.reduceMul, Nat.reducePow, sk_54 hv5, sr_54_2 hv5, sr_54_3 hv5, sr_54_4 hv5, sr_54_5 hv5, sr_54_7 hv5, sr_54_8 hv5, sr_54_9 hv5, sr_54_12 hv5, sr_54_13 hv5, sr_54_14 hv5, sr_54_22 hv5, sr_54_25 hv5, sr_54_26 hv5, sr_54_27 hv5, sr_54_34 hv5, sr_54_35 hv5, sr_54_36 hv5, sr_54_37 hv5, sr_54_38 hv5, sr_54_40 hv5, sr_54_43 hv5, sr_54_44 hv5, sr_54_45 hv5, sr_54_46 hv5, sr_54_47 hv5, sk_60 hv5, sn_60 hv5, h5, rr_ne]
theorem fd20_S {B q : Nat} {a b c e f : Int32} {σ : gS} : Sm (fun a => B ≤ a ∧ a < B + 80) σ (fd20 σ B a b c e f q) := fd4_S (fd4_S (fd4_S (fd4_S (fd4_S (Sm_refl _ _)))))
theorem fd20_v {B q : Nat} {a b c e f : Int32} {σ : gS} (hv : IvS B σ) : IvS B (fd20 σ B a b c e f q) := fd4_v (fd4_v (fd4_v (fd4_v (fd4_v hv))))
theorem fd20_o {B q : Nat} {a b c e f : Int32} {σ : gS} {x : Nat} (h1 : x ≠ B) (h2 : x ≠ B + 19) : gI (fd20 σ B a b c e f q) x = gI σ x := by
  rw [fd20, fd4_o h1 h2, fd4_o h1 h2, fd4_o h1 h2, fd4_o h1 h2, fd4_o h1 h2]
theorem fd20_b {B q : Nat} {a b c e f : Int32} {σ : gS} {j : Nat} (h1 : j ≠ 3) : gI (fd20 σ B a b c e f q) B j = gI σ B j := by
  rw [fd20, fd4_b h1, fd4_b h1, fd4_b h1, fd4_b h1, fd4_b h1]
theorem fd20_3 {B q : Nat} {a b c e f : Int32} {σ : gS} : gI (fd20 σ B a b c e f q) B 3 = nI (q + 20) := by
  rw [fd20, fd4_3]
theorem fd20_t {B q : Nat} {a b c e f : Int32} {σ : gS} {j : Nat} (h : j < q) : gI (fd20 σ B a b c e f q) (B + 19) j = gI σ (B + 19) j := by
  rw [fd20, fd4_t (by omega), fd4_t (by omega), fd4_t (by omega), fd4_t (by omega), fd4_t (by omega)]
theorem md5_X {B : Nat} {a b c e f : Int32} {σ : gS} : gI (md5 σ B a b c e f) (B + 61) 0 = a ∧ gI (md5 σ B a b c e f) (B + 61) 1 = b ∧ gI (md5 σ B a b c e f) (B + 61) 2 = c ∧ gI (md5 σ B a b c e f) (B + 61) 3 = e ∧ gI (md5 σ B a b c e f) (B + 61) 4 = f := by
  simp (disch := omega) only [md5, rI_nk, rI_eq, and_self]
theorem fd20_n {B q : Nat} {a b c e f : Int32} {σ τ : gS} {m : Nat} (h : m < 20) : gI (fd20 σ B a b c e f q) (B + 19) (q + m) = nI (bU (gI (md5 τ B a b c e f) (B + 61) (m / 4)) (24 - 8 * (m % 4))) := by
  obtain ⟨x0, x1, x2, x3, x4⟩ := md5_X (B := B) (a := a) (b := b) (c := c) (e := e) (f := f) (σ := τ)
  have hm : m % 4 < 4 := Nat.mod_lt _ (by omega)
  have h5 : m / 4 = 0 ∨ m / 4 = 1 ∨ m / 4 = 2 ∨ m / 4 = 3 ∨ m / 4 = 4 := by omega
  rw [fd20]
  rcases h5 with h5 | h5 | h5 | h5 | h5
  · rw [h5, x0, fd4_t (by omega), fd4_t (by omega), fd4_t (by omega), fd4_t (by omega), show q + m = q + m % 4 from by omega, fd4_n hm]
  · rw [h5, x1, fd4_t (by omega), fd4_t (by omega), fd4_t (by omega), show q + m = q + 4 + m % 4 from by omega, fd4_n hm]
  · rw [h5, x2, fd4_t (by omega), fd4_t (by omega), show q + m = q + 4 + 4 + m % 4 from by omega, fd4_n hm]
  · rw [h5, x3, fd4_t (by omega), show q + m = q + 4 + 4 + 4 + m % 4 from by omega, fd4_n hm]
  · rw [h5, x4, show q + m = q + 4 + 4 + 4 + 4 + m % 4 from by omega, fd4_n hm]
section
variable {LS : (Nat → Int32) → (Nat → Int32) → Nat → (Nat → Int32) → Nat → (Nat → Int32) → Nat → (Nat → Int32) → (Nat → Int32) → Nat → Prop} {CV : Nat → (Nat → Int32) → (Nat → Nat → Int32) → Prop} {MV : (Nat → Int32) → Int32 → (Nat → Int32) → (Nat → Int32) → (Nat → Int32) → Prop}
theorem ob_feed {G : gG} : gOb (Inv LS CV MV G) (gb G) (gB G) (gB G + 54) 122 194 5 := by
  intro σ k as hl hk hI
  obtain ⟨p0, p1, p2, p3, p4, rfl⟩ := len5 hl
  have hv := Inv_Sh hI
  have hb := Inv_b hI
  obtain ⟨q, q1, q2, q3, q4⟩ := Inv_i6 hI
  simp only [List.map_cons, List.map_nil]
  by_cases h : q + 20 ≤ 400
  · rw [s_feed (d := 998) hv q2 h]
    have hv1 : IvS (gB G) (fd20 σ (gB G) p0 p1 p2 p3 p4 q) := fd20_v hv
    refine ⟨⟨gSc_S fd20_S (by omega), sk_54 hv1⟩, _, rfl, ?_⟩
    rw [t_feed (d := 999) hv1 (by rw [fd20_o (by omega) (by omega)]; exact q3) h]
    refine ⟨rfl, ?_⟩
    refine Inv_same6 (σ := σ) ?_ hI ?_ ?_ ?_ ?_ ?_ hk
    · refine Sm_I (Sm_r ?_ ⟨by omega, by omega⟩) ⟨by omega, by omega⟩
      unfold md5
      refine Sm_I (Sm_I (Sm_I (Sm_I (Sm_I fd20_S ⟨by omega, by omega⟩) ⟨by omega, by omega⟩) ⟨by omega, by omega⟩) ⟨by omega, by omega⟩) ⟨by omega, by omega⟩
    · intro o h1 h2 h3 h4 h5 h6 h7
      simp (disch := omega) only [rI_ne, rr_ne, md5]
      exact fd20_o (by omega) (by omega)
    · intro _
      refine ⟨q + 20, h, ?_, ?_, ?_⟩
      · simp (disch := omega) only [rI_ne, rr_ne, md5]
        exact fd20_3
      · simp only [rI_eq]
      · intro j hj
        have e1 : gI (sI (sIr (md5 (fd20 σ (gB G) p0 p1 p2 p3 p4 q) (gB G) p0 p1 p2 p3 p4) (gB G + 60) (fdR (gI (md5 (fd20 σ (gB G) p0 p1 p2 p3 p4 q) (gB G) p0 p1 p2 p3 p4) (gB G + 61)) q (gI (md5 (fd20 σ (gB G) p0 p1 p2 p3 p4 q) (gB G) p0 p1 p2 p3 p4) (gB G + 60)) 20)) (gB G + 54) 10 (nI (q + 20))) (gB G + 19) = gI (fd20 σ (gB G) p0 p1 p2 p3 p4 q) (gB G + 19) := by simp (disch := omega) only [rI_ne, rr_ne, md5]
        have e2 : gI (sI (sIr (md5 (fd20 σ (gB G) p0 p1 p2 p3 p4 q) (gB G) p0 p1 p2 p3 p4) (gB G + 60) (fdR (gI (md5 (fd20 σ (gB G) p0 p1 p2 p3 p4 q) (gB G) p0 p1 p2 p3 p4) (gB G + 61)) q (gI (md5 (fd20 σ (gB G) p0 p1 p2 p3 p4 q) (gB G) p0 p1 p2 p3 p4) (gB G + 60)) 20)) (gB G + 54) 10 (nI (q + 20))) (gB G + 60) = fdR (gI (md5 (fd20 σ (gB G) p0 p1 p2 p3 p4 q) (gB G) p0 p1 p2 p3 p4) (gB G + 61)) q (gI (md5 (fd20 σ (gB G) p0 p1 p2 p3 p4 q) (gB G) p0 p1 p2 p3 p4) (gB G + 60)) 20 := by simp (disch := omega) only [rI_ne, rr_eq]
        rw [e1, e2]
        by_cases hj2 : j < q
        · obtain ⟨b, b1, b2, b3⟩ := q4 j hj2
          refine ⟨b, b1, (fd20_t hj2).trans b2, ?_⟩
          simp only [fdR]
          rw [if_neg (by omega)]
          simp (disch := omega) only [rI_ne, md5]
          rw [fd20_o (by omega) (by omega)]
          exact b3
        · refine ⟨_, bU_lt (gI (md5 (fd20 σ (gB G) p0 p1 p2 p3 p4 q) (gB G) p0 p1 p2 p3 p4) (gB G + 61) ((j - q) / 4)) (24 - 8 * ((j - q) % 4)), ?_, ?_⟩
          · rw [← fd20_n (σ := σ) (q := q) (show j - q < 20 by omega), show q + (j - q) = j from by omega]
          · simp only [fdR]
            rw [if_pos ⟨by omega, by omega⟩]
    · intro j hj
      simp (disch := omega) only [rI_ne, rI_nk, rr_ne, md5]
      rw [fd20_o (by omega) (by omega)]
    · left
      simp (disch := omega) only [rI_ne, rI_nk, rr_ne, md5]
      rw [fd20_o (by omega) (by omega)]
    · intro h7
      have e1 : ∀ x j, x ≠ gB G + 61 → x ≠ gB G + 60 → (x ≠ gB G + 54 ∨ j ≠ 10) → (x ≠ gB G ∨ j ≠ 3) → x ≠ gB G + 19 → gI (sI (sIr (md5 (fd20 σ (gB G) p0 p1 p2 p3 p4 q) (gB G) p0 p1 p2 p3 p4) (gB G + 60) (fdR (gI (md5 (fd20 σ (gB G) p0 p1 p2 p3 p4 q) (gB G) p0 p1 p2 p3 p4) (gB G + 61)) q (gI (md5 (fd20 σ (gB G) p0 p1 p2 p3 p4 q) (gB G) p0 p1 p2 p3 p4) (gB G + 60)) 20)) (gB G + 54) 10 (nI (q + 20))) x j = gI σ x j := by
        intro x j x1 x2 x3 x4 x5
        have y1 : gI (sI (sIr (md5 (fd20 σ (gB G) p0 p1 p2 p3 p4 q) (gB G) p0 p1 p2 p3 p4) (gB G + 60) (fdR (gI (md5 (fd20 σ (gB G) p0 p1 p2 p3 p4 q) (gB G) p0 p1 p2 p3 p4) (gB G + 61)) q (gI (md5 (fd20 σ (gB G) p0 p1 p2 p3 p4 q) (gB G) p0 p1 p2 p3 p4) (gB G + 60)) 20)) (gB G + 54) 10 (nI (q + 20))) x j = gI (fd20 σ (gB G) p0 p1 p2 p3 p4 q) x j := by
          by_cases x6 : x = gB G + 54
          · subst x6
            simp (disch := omega) only [rI_ne, rI_nk, rr_ne, md5]
          · simp (disch := omega) only [rI_ne, rr_ne, md5]
        rw [y1]
        by_cases x6 : x = gB G
        · subst x6
          exact fd20_b (by omega)
        · rw [fd20_o x6 x5]
      simp only [I7] at h7 ⊢
      simp (disch := omega) only [e1]
      exact h7
  · have h' : ¬ q + 20 ≤ 400 := h
    simp (disch := first | omega | (simp only [IvS_I, IvS_J, IvS_r]; assumption)) only [List.map_cons, List.map_nil, Value.int.injEq, gSc_r, gSc_I, n10, n01, Nat.lt_irrefl, Nat.not_lt_zero, ne_eq, Nat.add_zero, Nat.one_ne_zero, Nat.zero_ne_one, Nat.reduceEqDiff, bI_T, bI_F, bI_0, bI_1, bI_01, not_and_self, true_and, and_true, not_true_eq_false, not_false_eq_true, false_imp_iff, true_imp_iff, imp_self, gPv_n, gPv_i, gPv_r, gPv_0, Option.toList_some, Option.toList_none, List.singleton_append, List.cons_append, List.nil_append, List.length_nil, List.length_cons, Nat.zero_le, Nat.reduceAdd, Nat.reduceLeDiff, or_true, true_or, false_or, or_false, and_self, and_false, false_and, implies_true, Option.some.injEq, exists_eq_left', c_122, e_122_0, e_122_1, e_122_4, e_122_6, e_122_7, e_122_10, e_122_13, e_122_14, c_194, e_194_0, e_194_1, e_194_4, e_194_6, e_194_7, e_194_10, e_194_13, e_194_14, sk_0 hv, sr_0_0 hv, sr_0_1 hv, sr_0_2 hv, sr_0_4 hv, sr_0_7 hv, sr_0_9 hv, sr_0_10 hv, sr_0_11 hv, sr_0_12 hv, sr_0_13 hv, sr_0_14 hv, sk_54 hv, sr_54_2 hv, sr_54_3 hv, sr_54_4 hv, sr_54_5 hv, sr_54_7 hv, sr_54_8 hv, sr_54_9 hv, sr_54_12 hv, sr_54_13 hv, sr_54_14 hv, sr_54_22 hv, sr_54_25 hv, sr_54_26 hv, sr_54_27 hv, sr_54_34 hv, sr_54_35 hv, sr_54_36 hv, sr_54_37 hv, sr_54_38 hv, sr_54_40 hv, sr_54_43 hv, sr_54_44 hv, sr_54_45 hv, sr_54_46 hv, sr_54_47 hv, nL, nI_add, nI_mul, nI_clamp, nI_ltI, nI_leI, nI_eq, nI_pos, nI_pos', Nat.reduceAdd, Nat.reduceMul, Nat.reducePow, q2, q3, h']
    exact Inv_up hI
end
