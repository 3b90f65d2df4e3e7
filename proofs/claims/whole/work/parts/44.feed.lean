/-! bytes fed -/
def bU (x : Int32) (s : Nat) : Nat := ((x.toBitVec >>> s).setWidth 8).toNat
theorem bU_lt (x : Int32) (s : Nat) : bU x s < 256 := ((x.toBitVec >>> s).setWidth 8).isLt
theorem sb_all : ∀ n : Nat, n < 256 → (Int8.ofBitVec (BitVec.ofNat 8 n)).toInt32 = sb n := by decide +kernel
theorem sh_um : ∀ s : Nat, s < 32 → (((nI s).toUInt32 &&& Int32.toUInt32 (nI 31)).toBitVec % 32).toNat = s := by decide +kernel
theorem bU_c (x : Int32) {s : Nat} (hs : s ≤ 24) : ((x.toUInt32 >>> ((nI s).toUInt32 &&& Int32.toUInt32 (nI 31))).toInt32 &&& nI 255) = nI (bU x s) := by
  refine Int32.toBitVec.inj ?_
  refine BitVec.eq_of_getLsbD_eq ?_
  intro i hi
  have h1 : (x.toUInt32 >>> ((nI s).toUInt32 &&& Int32.toUInt32 (nI 31))).toInt32.toBitVec = x.toBitVec >>> s := by
    show (x.toUInt32 >>> ((nI s).toUInt32 &&& Int32.toUInt32 (nI 31))).toBitVec = _
    rw [UInt32.toBitVec_shiftRight, BitVec.ushiftRight_eq', sh_um s (by omega)]
    rfl
  rw [Int32.toBitVec_and, h1, nI_bv, nI_bv, bU]
  simp only [BitVec.getLsbD_and, BitVec.getLsbD_ushiftRight, BitVec.getLsbD_ofNat, hi, decide_true, Bool.true_and]
  have h2 : (255 : Nat).testBit i = decide (i < 8) := Nat.testBit_two_pow_sub_one 8 i
  rw [h2]
  have h3 : ((x.toBitVec >>> s).setWidth 8).toNat.testBit i = ((x.toBitVec >>> s).setWidth 8).getLsbD i := rfl
  rw [h3, BitVec.getLsbD_setWidth, BitVec.getLsbD_ushiftRight, Bool.and_comm]
theorem bU_m (x : Int32) {s : Nat} (hs : s ≤ 24) : (x >>> (nI s &&& nI 31)).toInt8.toInt32 = sb (bU x s) := by
  rw [← sb_all (bU x s) (bU_lt x s)]
  congr 1
  refine Int8.toBitVec.inj ?_
  rw [Int32.toBitVec_toInt8]
  show _ = BitVec.ofNat 8 (bU x s)
  rw [bU, BitVec.ofNat_toNat, BitVec.setWidth_eq, Int32.toBitVec_shiftRight, sh_am s (by omega)]
  refine BitVec.eq_of_getLsbD_eq ?_
  intro i hi
  have h2 : s % 4294967296 = s := Nat.mod_eq_of_lt (by omega)
  have h4 : s + i < 32 := by omega
  have h5 : ¬ 32 ≤ i := by omega
  have h6 : i < 32 := by omega
  simp only [BitVec.getLsbD_signExtend, h6, BitVec.getLsbD_setWidth, BitVec.getLsbD_sshiftRight', BitVec.toNat_ofNat, Nat.reducePow, h2, hi, decide_true, Bool.true_and, BitVec.getLsbD_ushiftRight, h4, if_true, h5, decide_false, Bool.not_false]
theorem sb_8 : ∀ n : Nat, n < 256 → (sb n).toInt8.toInt32 = sb n := by decide +kernel
theorem i8_i8 (v : Int32) : v.toInt8.toInt32.toInt8.toInt32 = v.toInt8.toInt32 := by rw [Int8.toInt8_toInt32]
def fd4 (σ : gS) (B : Nat) (x : Int32) (q : Nat) : gS := sI (sI (sI (sI (sI (sI (sI (sI σ (B + 19) q (nI (bU x 24))) B 3 (nI (q + 1))) (B + 19) (q + 1) (nI (bU x 16))) B 3 (nI (q + 2))) (B + 19) (q + 2) (nI (bU x 8))) B 3 (nI (q + 3))) (B + 19) (q + 3) (nI (bU x 0))) B 3 (nI (q + 4))
set_option maxHeartbeats 1000000 in
theorem s_feed4 {d : Nat} {Q : Option Value → gS → Prop} {B q : Nat} {x : Int32} {σ : gS} (hv : IvS B σ) (h3 : gI σ B 3 = nI q) (hq : q + 4 ≤ 400) : wc (d + 1) 157 [.ref B, .int x] σ Q ↔ Q none (fd4 σ B x q) := by
  have a1 : nI 24 + -nI 8 = nI 16 := by decide
  have a2 : nI 16 + -nI 8 = nI 8 := by decide
  have a3 : nI 8 + -nI 8 = nI 0 := by decide
  have a4 : nI 0 + -nI 8 = -nI 8 := by decide
  have a5 : (-nI 8 < nI 0) = True := by decide
  have z0 : ¬ 400 ≤ q := by omega
  have z1 : ¬ 400 ≤ q + 1 := by omega
  have z2 : ¬ 400 ≤ q + 2 := by omega
  have z3 : ¬ 400 ≤ q + 3 := by omega
  have y0 : q < 400 := by omega
  have y1 : q + 1 < 400 := by omega
  have y2 : q + 2 < 400 := by omega
  have y3 : q + 3 < 400 := by omega
  simp only [c_157, e_157_0, e_157_2, n10, n01, Nat.lt_irrefl, Nat.not_lt_zero, ne_eq, Nat.add_zero, Nat.one_ne_zero, Nat.zero_ne_one, Nat.reduceEqDiff, bI_T, bI_F, bI_0, bI_1, bI_01, not_and_self, true_and, and_true, not_true_eq_false, not_false_eq_true, false_imp_iff, true_imp_iff, imp_self, gPv_n, gPv_i, gPv_r, gPv_0, Option.toList_some, Option.toList_none, List.singleton_append, List.cons_append, List.nil_append, List.length_nil, List.length_cons, Nat.zero_le, Nat.reduceAdd, Nat.reduceLeDiff, or_true, true_or, false_or, or_false, and_self, and_false, false_and, implies_true, Option.some.injEq, exists_eq_left', nL]
  rw [e_157_3]
  simp (disch := omega) only [e_157_4, e_157_7, e_157_8, e_157_11, e_157_14, e_157_17, e_157_18, e_157_21, e_157_22, e_157_25, e_157_26, e_157_27, e_157_28, e_157_31, e_157_32, e_157_33, e_157_34, e_157_34n, e_157_35, e_157_38, e_157_39, e_157_40, e_157_43, e_157_46, e_157_49, n10, n01, Nat.lt_irrefl, Nat.not_lt_zero, ne_eq, Nat.add_zero, Nat.one_ne_zero, Nat.zero_ne_one, Nat.reduceEqDiff, bI_T, bI_F, bI_0, bI_1, bI_01, not_and_self, true_and, and_true, not_true_eq_false, not_false_eq_true, false_imp_iff, true_imp_iff, imp_self, gPv_n, gPv_i, gPv_r, gPv_0, Option.toList_some, Option.toList_none, List.singleton_append, List.cons_append, List.nil_append, List.length_nil, List.length_cons, Nat.zero_le, Nat.reduceAdd, Nat.reduceLeDiff, or_true, true_or, false_or, or_false, and_self, and_false, false_and, implies_true, Option.some.injEq, exists_eq_left', n_K_I, n_K_J, n_K_R, n_K_r, n_N_I, n_N_J, n_N_R, n_N_r, n_R_I, n_R_J, n_R_r, n_J_I, n_J_R, n_J_r, n_I_J, n_I_R, n_n_I, n_n_J, n_n_R, n_n_r, n_w_I, n_w_J, n_w_R, n_w_r, n_T_I, n_T_J, n_T_R, n_T_r, rI_ne, rI_nk, rI_eq, rr_ne, rr_eq, n_J_J, n_R_R, Nat.add_left_cancel_iff, Nat.add_right_cancel_iff, Nat.add_eq_left, Nat.left_eq_add, Nat.reduceEqDiff, Nat.reduceAdd, Nat.zero_ne_one, Nat.one_ne_zero, false_and, and_false, true_and, and_true, and_self, if_false, if_true, ↓reduceIte, nL, nI_add, nI_mul, nI_clamp, nI_ltI, nI_leI, nI_eq, nI_pos, nI_pos', Nat.reduceAdd, Nat.reduceMul, Nat.reducePow, sk_0 hv, sr_0_0 hv, sr_0_1 hv, sr_0_2 hv, sr_0_4 hv, sr_0_7 hv, sr_0_9 hv, sr_0_10 hv, sr_0_11 hv, sr_0_12 hv, sr_0_13 hv, sr_0_14 hv, sk_19 hv, sn_19 hv, h3, a1, a2, a3, a4, a5, z0, z1, z2, z3, y0, y1, y2, y3, bU_c, Nat.add_assoc, Nat.reduceAdd]
  rw [e_157_3]
  simp (disch := omega) only [e_157_4, e_157_7, e_157_8, e_157_11, e_157_14, e_157_17, e_157_18, e_157_21, e_157_22, e_157_25, e_157_26, e_157_27, e_157_28, e_157_31, e_157_32, e_157_33, e_157_34, e_157_34n, e_157_35, e_157_38, e_157_39, e_157_40, e_157_43, e_157_46, e_157_49, n10, n01, Nat.lt_irrefl, Nat.not_lt_zero, ne_eq, Nat.add_zero, Nat.one_ne_zero, Nat.zero_ne_one, Nat.reduceEqDiff, bI_T, bI_F, bI_0, bI_1, bI_01, not_and_self, true_and, and_true, not_true_eq_false, not_false_eq_true, false_imp_iff, true_imp_iff, imp_self, gPv_n, gPv_i, gPv_r, gPv_0, Option.toList_some, Option.toList_none, List.singleton_append, List.cons_append, List.nil_append, List.length_nil, List.length_cons, Nat.zero_le, Nat.reduceAdd, Nat.reduceLeDiff, or_true, true_or, false_or, or_false, and_self, and_false, false_and, implies_true, Option.some.injEq, exists_eq_left', n_K_I, n_K_J, n_K_R, n_K_r, n_N_I, n_N_J, n_N_R, n_N_r, n_R_I, n_R_J, n_R_r, n_J_I, n_J_R, n_J_r, n_I_J, n_I_R, n_n_I, n_n_J, n_n_R, n_n_r, n_w_I, n_w_J, n_w_R, n_w_r, n_T_I, n_T_J, n_T_R, n_T_r, rI_ne, rI_nk, rI_eq, rr_ne, rr_eq, n_J_J, n_R_R, Nat.add_left_cancel_iff, Nat.add_right_cancel_iff, Nat.add_eq_left, Nat.left_eq_add, Nat.reduceEqDiff, Nat.reduceAdd, Nat.zero_ne_one, Nat.one_ne_zero, false_and, and_false, true_and, and_true, and_self, if_false, if_true, ↓reduceIte, nL, nI_add, nI_mul, nI_clamp, nI_ltI, nI_leI, nI_eq, nI_pos, nI_pos', Nat.reduceAdd, Nat.reduceMul, Nat.reducePow, sk_0 hv, sr_0_0 hv, sr_0_1 hv, sr_0_2 hv, sr_0_4 hv, sr_0_7 hv, sr_0_9 hv, sr_0_10 hv, sr_0_11 hv, sr_0_12 hv, sr_0_13 hv, sr_0_14 hv, sk_19 hv, sn_19 hv, h3, a1, a2, a3, a4, a5, z0, z1, z2, z3, y0, y1, y2, y3, bU_c, Nat.add_assoc, Nat.reduceAdd]
  rw [e_157_3]
  simp (disch := omega) only [e_157_4, e_157_7, e_157_8, e_157_11, e_157_14, e_157_17, e_157_18, e_157_21, e_157_22, e_157_25, e_157_26, e_157_27, e_157_28, e_157_31, e_157_32, e_157_33, e_157_34, e_157_34n, e_157_35, e_157_38, e_157_39, e_157_40, e_157_43, e_157_46, e_157_49, n10, n01, Nat.lt_irrefl, Nat.not_lt_zero, ne_eq, Nat.add_zero, Nat.one_ne_zero, Nat.zero_ne_one, Nat.reduceEqDiff, bI_T, bI_F, bI_0, bI_1, bI_01, not_and_self, true_and, and_true, not_true_eq_false, not_false_eq_true, false_imp_iff, true_imp_iff, imp_self, gPv_n, gPv_i, gPv_r, gPv_0, Option.toList_some, Option.toList_none, List.singleton_append, List.cons_append, List.nil_append, List.length_nil, List.length_cons, Nat.zero_le, Nat.reduceAdd, Nat.reduceLeDiff, or_true, true_or, false_or, or_false, and_self, and_false, false_and, implies_true, Option.some.injEq, exists_eq_left', n_K_I, n_K_J, n_K_R, n_K_r, n_N_I, n_N_J, n_N_R, n_N_r, n_R_I, n_R_J, n_R_r, n_J_I, n_J_R, n_J_r, n_I_J, n_I_R, n_n_I, n_n_J, n_n_R, n_n_r, n_w_I, n_w_J, n_w_R, n_w_r, n_T_I, n_T_J, n_T_R, n_T_r, rI_ne, rI_nk, rI_eq, rr_ne, rr_eq, n_J_J, n_R_R, Nat.add_left_cancel_iff, Nat.add_right_cancel_iff, Nat.add_eq_left, Nat.left_eq_add, Nat.reduceEqDiff, Nat.reduceAdd, Nat.zero_ne_one, Nat.one_ne_zero, false_and, and_false, true_and, and_true, and_self, if_false, if_true, ↓reduceIte, nL, nI_add, nI_mul, nI_clamp, nI_ltI, nI_leI, nI_eq, nI_pos, nI_pos', Nat.reduceAdd, Nat.reduceMul, Nat.reducePow, sk_0 hv, sr_0_0 hv, sr_0_1 hv, sr_0_2 hv, sr_0_4 hv, sr_0_7 hv, sr_0_9 hv, sr_0_10 hv, sr_0_11 hv, sr_0_12 hv, sr_0_13 hv, sr_0_14 hv, sk_19 hv, sn_19 hv, h3, a1, a2, a3, a4, a5, z0, z1, z2, z3, y0, y1, y2, y3, bU_c, Nat.add_assoc, Nat.reduceAdd]
  rw [e_157_3]
  simp (disch := omega) only [e_157_4, e_157_7, e_157_8, e_157_11, e_157_14, e_157_17, e_157_18, e_157_21, e_157_22, e_157_25, e_157_26, e_157_27, e_157_28, e_157_31, e_157_32, e_157_33, e_157_34, e_157_34n, e_157_35, e_157_38, e_157_39, e_157_40, e_157_43, e_157_46, e_157_49, n10, n01, Nat.lt_irrefl, Nat.not_lt_zero, ne_eq, Nat.add_zero, Nat.one_ne_zero, Nat.zero_ne_one, Nat.reduceEqDiff, bI_T, bI_F, bI_0, bI_1, bI_01, not_and_self, true_and, and_true, not_true_eq_false, not_false_eq_true, false_imp_iff, true_imp_iff, imp_self, gPv_n, gPv_i, gPv_r, gPv_0, Option.toList_some, Option.toList_none, List.singleton_append, List.cons_append, List.nil_append, List.length_nil, List.length_cons, Nat.zero_le, Nat.reduceAdd, Nat.reduceLeDiff, or_true, true_or, false_or, or_false, and_self, and_false, false_and, implies_true, Option.some.injEq, exists_eq_left', n_K_I, n_K_J, n_K_R, n_K_r, n_N_I, n_N_J, n_N_R, n_N_r, n_R_I, n_R_J, n_R_r, n_J_I, n_J_R, n_J_r, n_I_J, n_I_R, n_n_I, n_n_J, n_n_R, n_n_r, n_w_I, n_w_J, n_w_R, n_w_r, n_T_I, n_T_J, n_T_R, n_T_r, rI_ne, rI_nk, rI_eq, rr_ne, rr_eq, n_J_J, n_R_R, Nat.add_left_cancel_iff, Nat.add_right_cancel_iff, Nat.add_eq_left, Nat.left_eq_add, Nat.reduceEqDiff, Nat.reduceAdd, Nat.zero_ne_one, Nat.one_ne_zero, false_and, and_false, true_and, and_true, and_self, if_false, if_true, ↓reduceIte, nL, nI_add, nI_mul, nI_clamp, nI_ltI, nI_leI, nI_eq, nI_pos, nI_pos', Nat.reduceAdd, Nat.reduceMul, Nat.reducePow, sk_0 hv, sr_0_0 hv, sr_0_1 hv, sr_0_2 hv, sr_0_4 hv, sr_0_7 hv, sr_0_9 hv, sr_0_10 hv, sr_0_11 hv, sr_0_12 hv, sr_0_13 hv, sr_0_14 hv, sk_19 hv, sn_19 hv, h3, a1, a2, a3, a4, a5, z0, z1, z2, z3, y0, y1, y2, y3, bU_c, Nat.add_assoc, Nat.reduceAdd]
  rw [e_157_3]
  simp (disch := omega) only [e_157_4, e_157_7, e_157_8, e_157_11, e_157_14, e_157_17, e_157_18, e_157_21, e_157_22, e_157_25, e_157_26, e_157_27, e_157_28, e_157_31, e_157_32, e_157_33, e_157_34, e_157_34n, e_157_35, e_157_38, e_157_39, e_157_40, e_157_43, e_157_46, e_157_49, n10, n01, Nat.lt_irrefl, Nat.not_lt_zero, ne_eq, Nat.add_zero, Nat.one_ne_zero, Nat.zero_ne_one, Nat.reduceEqDiff, bI_T, bI_F, bI_0, bI_1, bI_01, not_and_self, true_and, and_true, not_true_eq_false, not_false_eq_true, false_imp_iff, true_imp_iff, imp_self, gPv_n, gPv_i, gPv_r, gPv_0, Option.toList_some, Option.toList_none, List.singleton_append, List.cons_append, List.nil_append, List.length_nil, List.length_cons, Nat.zero_le, Nat.reduceAdd, Nat.reduceLeDiff, or_true, true_or, false_or, or_false, and_self, and_false, false_and, implies_true, Option.some.injEq, exists_eq_left', n_K_I, n_K_J, n_K_R, n_K_r, n_N_I, n_N_J, n_N_R, n_N_r, n_R_I, n_R_J, n_R_r, n_J_I, n_J_R, n_J_r, n_I_J, n_I_R, n_n_I, n_n_J, n_n_R, n_n_r, n_w_I, n_w_J, n_w_R, n_w_r, n_T_I, n_T_J, n_T_R, n_T_r, rI_ne, rI_nk, rI_eq, rr_ne, rr_eq, n_J_J, n_R_R, Nat.add_left_cancel_iff, Nat.add_right_cancel_iff, Nat.add_eq_left, Nat.left_eq_add, Nat.reduceEqDiff, Nat.reduceAdd, Nat.zero_ne_one, Nat.one_ne_zero, false_and, and_false, true_and, and_true, and_self, if_false, if_true, ↓reduceIte, nL, nI_add, nI_mul, nI_clamp, nI_ltI, nI_leI, nI_eq, nI_pos, nI_pos', Nat.reduceAdd, Nat.reduceMul, Nat.reducePow, sk_0 hv, sr_0_0 hv, sr_0_1 hv, sr_0_2 hv, sr_0_4 hv, sr_0_7 hv, sr_0_9 hv, sr_0_10 hv, sr_0_11 hv, sr_0_12 hv, sr_0_13 hv, sr_0_14 hv, sk_19 hv, sn_19 hv, h3, a1, a2, a3, a4, a5, z0, z1, z2, z3, y0, y1, y2, y3, bU_c, Nat.add_assoc, Nat.reduceAdd]
  rfl
theorem fd4_S {B q : Nat} {x : Int32} {σ τ : gS} (h : Sm (fun a => B ≤ a ∧ a < B + 80) σ τ) : Sm (fun a => B ≤ a ∧ a < B + 80) σ (fd4 τ B x q) := by
  unfold fd4
  exact Sm_B0 (Sm_B (Sm_B0 (Sm_B (Sm_B0 (Sm_B (Sm_B0 (Sm_B h (by decide))) (by decide))) (by decide))) (by decide))
theorem fd4_3 {B q : Nat} {x : Int32} {σ : gS} : gI (fd4 σ B x q) B 3 = nI (q + 4) := by simp only [fd4, rI_eq]
theorem fd4_v {B q : Nat} {x : Int32} {σ : gS} (hv : IvS B σ) : IvS B (fd4 σ B x q) := by simp only [fd4, IvS_I]; exact hv
theorem fd4_o {B q : Nat} {x : Int32} {σ : gS} {b : Nat} (h1 : b ≠ B) (h2 : b ≠ B + 19) : gI (fd4 σ B x q) b = gI σ b := by simp (disch := omega) only [fd4, rI_ne]
theorem fd4_b {B q : Nat} {x : Int32} {σ : gS} {j : Nat} (h1 : j ≠ 3) : gI (fd4 σ B x q) B j = gI σ B j := by simp (disch := omega) only [fd4, rI_ne, rI_nk]
theorem fd4_t {B q : Nat} {x : Int32} {σ : gS} {j : Nat} (h : j < q ∨ q + 4 ≤ j) : gI (fd4 σ B x q) (B + 19) j = gI σ (B + 19) j := by simp (disch := omega) only [fd4, rI_ne, rI_nk]
theorem fd4_n {B q : Nat} {x : Int32} {σ : gS} {i : Nat} (h : i < 4) : gI (fd4 σ B x q) (B + 19) (q + i) = nI (bU x (24 - 8 * i)) := by
  have : i = 0 ∨ i = 1 ∨ i = 2 ∨ i = 3 := by omega
  rcases this with rfl | rfl | rfl | rfl <;> simp (disch := omega) only [fd4, rI_ne, rI_nk, rI_eq, Nat.add_zero, Nat.reduceMul, Nat.reduceSub]
theorem sIr_id {σ : gS} {a : Nat} : sIr σ a (gI σ a) = σ := by
  have : gUr (gI σ) a (gI σ a) = gI σ := by
    funext b j
    simp only [gUr]
    split
    · next h => rw [h]
    · rfl
  simp only [sIr, this]
  rfl
def fdR (X : Nat → Int32) (q : Nat) (T : Nat → Int32) (k : Nat) : Nat → Int32 := fun j => if q ≤ j ∧ j < q + k then sb (bU (X ((j - q) / 4)) (24 - 8 * ((j - q) % 4))) else T j
theorem fdR_s {X : Nat → Int32} {q k : Nat} {T : Nat → Int32} : up (fdR X q T k) (q + k) (sb (bU (X (k / 4)) (24 - 8 * (k % 4)))) = fdR X q T (k + 1) := by
  funext j
  by_cases h : j = q + k
  · subst h
    rw [up_eq]
    simp only [fdR]
    rw [if_pos ⟨by omega, by omega⟩, show q + k - q = k from by omega]
  · rw [up_ne h]
    simp only [fdR]
    by_cases h2 : q ≤ j ∧ j < q + k
    · rw [if_pos h2, if_pos ⟨h2.1, by omega⟩]
    · rw [if_neg h2, if_neg (by omega)]
theorem t_fd {d : Nat} {Q : Option Value → gS → Prop} {B q : Nat} {σ : gS} {T X : Nat → Int32} {x1 x2 x3 x4 x5 : Option Value} (h5 : gPv x5 = true) (hv : IvS B σ) (h10 : gI σ (B + 54) 10 = nI q) (hq : q + 20 ≤ 400) (hX : ∀ i, i < 5 → gI σ (B + 61) i = X i) : ∀ m k : Nat, k + m = 20 → (wp d pr_194 Q 55 [some (.ref (B + 54)), x1, x2, x3, x4, x5, some (.int (nI k))] [] (sIr σ (B + 60) (fdR X q T k)) ↔ wp d pr_194 Q 101 [some (.ref (B + 54)), x1, x2, x3, x4, x5, some (.int (nI 20))] [] (sIr σ (B + 60) (fdR X q T 20))) := by
  intro m
  induction m with
  | zero =>
    intro k hk
    have : k = 20 := by omega
    subst this
    simp (disch := omega) only [e_194_55, e_194_57, e_194_59, n10, n01, Nat.lt_irrefl, Nat.not_lt_zero, ne_eq, Nat.add_zero, Nat.one_ne_zero, Nat.zero_ne_one, Nat.reduceEqDiff, bI_T, bI_F, bI_0, bI_1, bI_01, not_and_self, true_and, and_true, not_true_eq_false, not_false_eq_true, false_imp_iff, true_imp_iff, imp_self, gPv_n, gPv_i, gPv_r, gPv_0, Option.toList_some, Option.toList_none, List.singleton_append, List.cons_append, List.nil_append, List.length_nil, List.length_cons, Nat.zero_le, Nat.reduceAdd, Nat.reduceLeDiff, or_true, true_or, false_or, or_false, and_self, and_false, false_and, implies_true, Option.some.injEq, exists_eq_left', nL, nI_add, nI_mul, nI_clamp, nI_ltI, nI_leI, nI_eq, nI_pos, nI_pos', Nat.reduceAdd, Nat.reduceMul, Nat.reducePow, Nat.le_refl]
  | succ m ih =>
    intro k hk
    have z : ¬ 20 ≤ k := by omega
    have z4 : ¬ 4 = 0 := by omega
    have z1 : k / 4 < 5 := by omega
    have z2 : q + k < 400 := by omega
    have z3 : nI 24 - nI (8 * (k % 4)) = nI (24 - 8 * (k % 4)) := nI_sub (by omega)
    have zk : 8 * (k % 4) ≤ 24 := by omega
    rw [e_194_55]
    simp (disch := first | omega | (simp only [n_K_r]; exact sk_60 hv)) only [e_194_57, e_194_59, e_194_62, e_194_63, e_194_66, e_194_67, e_194_70, e_194_72, e_194_73, e_194_74, e_194_77, e_194_79, e_194_80, e_194_81, e_194_82, e_194_84, e_194_86, e_194_88, e_194_89, e_194_90, e_194_91, e_194_92, e_194_93, e_194_94, e_194_94n, e_194_95, e_194_98, n10, n01, Nat.lt_irrefl, Nat.not_lt_zero, ne_eq, Nat.add_zero, Nat.one_ne_zero, Nat.zero_ne_one, Nat.reduceEqDiff, bI_T, bI_F, bI_0, bI_1, bI_01, not_and_self, true_and, and_true, not_true_eq_false, not_false_eq_true, false_imp_iff, true_imp_iff, imp_self, gPv_n, gPv_i, gPv_r, gPv_0, Option.toList_some, Option.toList_none, List.singleton_append, List.cons_append, List.nil_append, List.length_nil, List.length_cons, Nat.zero_le, Nat.reduceAdd, Nat.reduceLeDiff, or_true, true_or, false_or, or_false, and_self, and_false, false_and, implies_true, Option.some.injEq, exists_eq_left', n_K_I, n_K_J, n_K_R, n_K_r, n_N_I, n_N_J, n_N_R, n_N_r, n_R_I, n_R_J, n_R_r, n_J_I, n_J_R, n_J_r, n_I_J, n_I_R, n_n_I, n_n_J, n_n_R, n_n_r, n_w_I, n_w_J, n_w_R, n_w_r, n_T_I, n_T_J, n_T_R, n_T_r, rI_ne, rI_nk, rI_eq, rr_ne, rr_eq, n_J_J, n_R_R, Nat.add_left_cancel_iff, Nat.add_right_cancel_iff, Nat.add_eq_left, Nat.left_eq_add, Nat.reduceEqDiff, Nat.reduceAdd, Nat.zero_ne_one, Nat.one_ne_zero, false_and, and_false, true_and, and_true, and_self, if_false, if_true, ↓reduceIte, nL, nI_add, nI_mul, nI_clamp, nI_ltI, nI_leI, nI_eq, nI_pos, nI_pos', Nat.reduceAdd, Nat.reduceMul, Nat.reducePow, sk_54 hv, sr_54_2 hv, sr_54_3 hv, sr_54_4 hv, sr_54_5 hv, sr_54_7 hv, sr_54_8 hv, sr_54_9 hv, sr_54_12 hv, sr_54_13 hv, sr_54_14 hv, sr_54_22 hv, sr_54_25 hv, sr_54_26 hv, sr_54_27 hv, sr_54_34 hv, sr_54_35 hv, sr_54_36 hv, sr_54_37 hv, sr_54_38 hv, sr_54_40 hv, sr_54_43 hv, sr_54_44 hv, sr_54_45 hv, sr_54_46 hv, sr_54_47 hv, sk_60 hv, sn_60 hv, sk_61 hv, sn_61 hv, h10, z, z4, z1, z2, hX, nI_div, nI_rem, z3, bU_m, i8_i8, sI_r2]
    rw [sb_8 _ (bU_lt _ _), fdR_s, ih (k + 1) (by omega)]
    exact ⟨fun z => z.2, fun z => ⟨h5, z⟩⟩
