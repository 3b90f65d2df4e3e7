/-! what the store says behind each change -/
theorem n_K_I (σ : gS) (a k : Nat) (v : Int32) : gK (sI σ a k v) = gK σ := Eq.trans rfl rfl
theorem n_K_J (σ : gS) (a k : Nat) (v : Int64) : gK (sJ σ a k v) = gK σ := Eq.trans rfl rfl
theorem n_K_R (σ : gS) (a k : Nat) (v : Option Nat) : gK (sR σ a k v) = gK σ := Eq.trans rfl rfl
theorem n_K_r (σ : gS) (a : Nat) (f : Nat → Int32) : gK (sIr σ a f) = gK σ := Eq.trans rfl rfl
theorem n_N_I (σ : gS) (a k : Nat) (v : Int32) : gN (sI σ a k v) = gN σ := Eq.trans rfl rfl
theorem n_N_J (σ : gS) (a k : Nat) (v : Int64) : gN (sJ σ a k v) = gN σ := Eq.trans rfl rfl
theorem n_N_R (σ : gS) (a k : Nat) (v : Option Nat) : gN (sR σ a k v) = gN σ := Eq.trans rfl rfl
theorem n_N_r (σ : gS) (a : Nat) (f : Nat → Int32) : gN (sIr σ a f) = gN σ := Eq.trans rfl rfl
theorem n_R_I (σ : gS) (a k : Nat) (v : Int32) : gR (sI σ a k v) = gR σ := Eq.trans rfl rfl
theorem n_R_J (σ : gS) (a k : Nat) (v : Int64) : gR (sJ σ a k v) = gR σ := Eq.trans rfl rfl
theorem n_R_r (σ : gS) (a : Nat) (f : Nat → Int32) : gR (sIr σ a f) = gR σ := Eq.trans rfl rfl
theorem n_J_I (σ : gS) (a k : Nat) (v : Int32) : gJ (sI σ a k v) = gJ σ := Eq.trans rfl rfl
theorem n_J_R (σ : gS) (a k : Nat) (v : Option Nat) : gJ (sR σ a k v) = gJ σ := Eq.trans rfl rfl
theorem n_J_r (σ : gS) (a : Nat) (f : Nat → Int32) : gJ (sIr σ a f) = gJ σ := Eq.trans rfl rfl
theorem n_I_J (σ : gS) (a k : Nat) (v : Int64) : gI (sJ σ a k v) = gI σ := Eq.trans rfl rfl
theorem n_I_R (σ : gS) (a k : Nat) (v : Option Nat) : gI (sR σ a k v) = gI σ := Eq.trans rfl rfl
theorem n_n_I (σ : gS) (a k : Nat) (v : Int32) : gn (sI σ a k v) = gn σ := Eq.trans rfl rfl
theorem n_n_J (σ : gS) (a k : Nat) (v : Int64) : gn (sJ σ a k v) = gn σ := Eq.trans rfl rfl
theorem n_n_R (σ : gS) (a k : Nat) (v : Option Nat) : gn (sR σ a k v) = gn σ := Eq.trans rfl rfl
theorem n_n_r (σ : gS) (a : Nat) (f : Nat → Int32) : gn (sIr σ a f) = gn σ := Eq.trans rfl rfl
theorem n_w_I (σ : gS) (a k : Nat) (v : Int32) : gw (sI σ a k v) = gw σ := Eq.trans rfl rfl
theorem n_w_J (σ : gS) (a k : Nat) (v : Int64) : gw (sJ σ a k v) = gw σ := Eq.trans rfl rfl
theorem n_w_R (σ : gS) (a k : Nat) (v : Option Nat) : gw (sR σ a k v) = gw σ := Eq.trans rfl rfl
theorem n_w_r (σ : gS) (a : Nat) (f : Nat → Int32) : gw (sIr σ a f) = gw σ := Eq.trans rfl rfl
theorem n_T_I (σ : gS) (a k : Nat) (v : Int32) : gT (sI σ a k v) = gT σ := Eq.trans rfl rfl
theorem n_T_J (σ : gS) (a k : Nat) (v : Int64) : gT (sJ σ a k v) = gT σ := Eq.trans rfl rfl
theorem n_T_R (σ : gS) (a k : Nat) (v : Option Nat) : gT (sR σ a k v) = gT σ := Eq.trans rfl rfl
theorem n_T_r (σ : gS) (a : Nat) (f : Nat → Int32) : gT (sIr σ a f) = gT σ := Eq.trans rfl rfl
theorem n_K_N (σ : gS) (k n w b : Nat) : gK (sNw σ k n w) b = if b = gn σ then k else gK σ b := Eq.trans rfl rfl
theorem n_N_N (σ : gS) (k n w b : Nat) : gN (sNw σ k n w) b = if b = gn σ then n else gN σ b := Eq.trans rfl rfl
theorem n_I_N (σ : gS) (k n w b j : Nat) : gI (sNw σ k n w) b j = if b = gn σ then 0 else gI σ b j := Eq.trans rfl rfl
theorem n_J_N (σ : gS) (k n w b j : Nat) : gJ (sNw σ k n w) b j = if b = gn σ then 0 else gJ σ b j := Eq.trans rfl rfl
theorem n_R_N (σ : gS) (k n w b j : Nat) : gR (sNw σ k n w) b j = if b = gn σ then none else gR σ b j := Eq.trans rfl rfl
theorem n_n_N (σ : gS) (k n w : Nat) : gn (sNw σ k n w) = gn σ + 1 := Eq.trans rfl rfl
theorem n_w_N (σ : gS) (k n w : Nat) : gw (sNw σ k n w) = gw σ + w := Eq.trans rfl rfl
theorem n_T_N (σ : gS) (k n w : Nat) : gT (sNw σ k n w) = gT σ := Eq.trans rfl rfl
theorem n_I_I (σ : gS) (a k : Nat) (v : Int32) (b j : Nat) : gI (sI σ a k v) b j = if b = a ∧ j = k then v else gI σ b j := Eq.trans rfl rfl
theorem n_J_J (σ : gS) (a k : Nat) (v : Int64) (b j : Nat) : gJ (sJ σ a k v) b j = if b = a ∧ j = k then v else gJ σ b j := Eq.trans rfl rfl
theorem n_R_R (σ : gS) (a k : Nat) (v : Option Nat) (b j : Nat) : gR (sR σ a k v) b j = if b = a ∧ j = k then v else gR σ b j := Eq.trans rfl rfl
theorem n_I_r (σ : gS) (a : Nat) (f : Nat → Int32) (b j : Nat) : gI (sIr σ a f) b j = if b = a then f j else gI σ b j := Eq.trans rfl rfl
theorem tn_0 : (0 : Int32).toNatClampNeg = 0 := rfl
theorem tn_2 : (2 : Int32).toNatClampNeg = 2 := rfl
theorem tn_4 : (4 : Int32).toNatClampNeg = 4 := rfl
theorem tn_5 : (5 : Int32).toNatClampNeg = 5 := rfl
theorem tn_6 : (6 : Int32).toNatClampNeg = 6 := rfl
theorem lz_6 : ((6 : Int32) < 0) = False := eq_false (by decide)
theorem tn_7 : (7 : Int32).toNatClampNeg = 7 := rfl
theorem tn_8 : (8 : Int32).toNatClampNeg = 8 := rfl
theorem tn_9 : (9 : Int32).toNatClampNeg = 9 := rfl
theorem tn_12 : (12 : Int32).toNatClampNeg = 12 := rfl
theorem tn_40 : (40 : Int32).toNatClampNeg = 40 := rfl
theorem tn_64 : (64 : Int32).toNatClampNeg = 64 := rfl
theorem tn_66 : (66 : Int32).toNatClampNeg = 66 := rfl
theorem tn_68 : (68 : Int32).toNatClampNeg = 68 := rfl
theorem tn_144 : (144 : Int32).toNatClampNeg = 144 := rfl
theorem tn_400 : (400 : Int32).toNatClampNeg = 400 := rfl
theorem tn_401 : (401 : Int32).toNatClampNeg = 401 := rfl
theorem tn_5062 : (5062 : Int32).toNatClampNeg = 5062 := rfl
theorem tn_10124 : (10124 : Int32).toNatClampNeg = 10124 := rfl
theorem tn_49152 : (49152 : Int32).toNatClampNeg = 49152 := rfl
theorem lz_0 : ((0 : Int32) < 0) = False := eq_false (by decide)
theorem lz_2 : ((2 : Int32) < 0) = False := eq_false (by decide)
theorem lz_4 : ((4 : Int32) < 0) = False := eq_false (by decide)
theorem lz_5 : ((5 : Int32) < 0) = False := eq_false (by decide)
theorem lz_7 : ((7 : Int32) < 0) = False := eq_false (by decide)
theorem lz_8 : ((8 : Int32) < 0) = False := eq_false (by decide)
theorem lz_9 : ((9 : Int32) < 0) = False := eq_false (by decide)
theorem lz_12 : ((12 : Int32) < 0) = False := eq_false (by decide)
theorem lz_40 : ((40 : Int32) < 0) = False := eq_false (by decide)
theorem lz_64 : ((64 : Int32) < 0) = False := eq_false (by decide)
theorem lz_66 : ((66 : Int32) < 0) = False := eq_false (by decide)
theorem lz_68 : ((68 : Int32) < 0) = False := eq_false (by decide)
theorem lz_144 : ((144 : Int32) < 0) = False := eq_false (by decide)
theorem lz_400 : ((400 : Int32) < 0) = False := eq_false (by decide)
theorem lz_401 : ((401 : Int32) < 0) = False := eq_false (by decide)
theorem lz_5062 : ((5062 : Int32) < 0) = False := eq_false (by decide)
theorem lz_10124 : ((10124 : Int32) < 0) = False := eq_false (by decide)
theorem lz_49152 : ((49152 : Int32) < 0) = False := eq_false (by decide)
theorem zl_4 : ((0 : Int32) < 4) = True := eq_true (by decide)
theorem zl_8 : ((0 : Int32) < 8) = True := eq_true (by decide)
/-- CornerTown.Pairs -/
def i_36_4 (σ : gS) (a : Nat) : gS := (sR (sNw (sR (sNw (sI σ a 2 (0)) 21 4 4) a 0 (some (gn σ))) 21 4 4) a 1 (some (gn σ + 1)))
set_option maxHeartbeats 4000000 in
set_option maxRecDepth 20000 in
theorem s_i_36_4 {d : Nat} {Q : Option Value → gS → Prop} {σ : gS} {a : Nat} (hK : gK σ a = 6) (ha : a < gn σ) : wc (d + 1) 36 [.ref a, .int 4] σ Q ↔ Q none (i_36_4 σ a) := by
  have hne : ∀ j, ¬ a = gn σ + j := fun j => by omega
  have hn0 : ¬ a = gn σ := by omega
  unfold i_36_4
  simp only [c_36, e_36_0, e_36_1, e_36_4, e_36_5, e_36_6, e_36_9, e_36_10, e_36_11, e_36_12, e_36_15, e_36_17, e_36_20, e_36_21, e_36_22, e_36_23, e_36_26, e_36_28, e_36_31,  tn_0, lz_0, tn_2, lz_2, tn_4, lz_4, tn_5, lz_5, tn_6, lz_6, tn_7, lz_7, tn_8, lz_8, tn_9, lz_9, tn_12, lz_12, tn_40, lz_40, tn_64, lz_64, tn_66, lz_66, tn_68, lz_68, tn_144, lz_144, tn_400, lz_400, tn_401, lz_401, tn_5062, lz_5062, tn_10124, lz_10124, tn_49152, lz_49152, zl_4, zl_8, hK, hne, hn0, if_false, if_true, n_K_I, n_K_J, n_K_R, n_K_N, n_n_I, n_n_J, n_n_R, n_n_N, n_R_I, n_R_J, n_R_R, n_R_N, n_N_I, n_N_J, n_N_R, n_N_N, and_self, false_and, and_false, Option.some.injEq, exists_eq_left, exists_eq_left', true_and, and_true, or_true, true_or, or_self, Nat.add_assoc, Nat.reduceAdd, Nat.add_left_cancel_iff, Nat.add_right_cancel_iff, Nat.reduceEqDiff, Nat.left_eq_add, Nat.add_eq_left, List.length_cons, List.length_nil, Nat.reduceLeDiff, Nat.zero_le, Option.toList_none, List.nil_append, Nat.lt_add_right_iff_pos, Nat.add_lt_add_iff_left, Nat.reduceLT, Nat.zero_lt_succ, Nat.lt_add_one, eq_self, not_false_eq_true]
/-- CornerTown.Pairs -/
def i_36_8 (σ : gS) (a : Nat) : gS := (sR (sNw (sR (sNw (sI σ a 2 (0)) 21 8 8) a 0 (some (gn σ))) 21 8 8) a 1 (some (gn σ + 1)))
set_option maxHeartbeats 4000000 in
set_option maxRecDepth 20000 in
theorem s_i_36_8 {d : Nat} {Q : Option Value → gS → Prop} {σ : gS} {a : Nat} (hK : gK σ a = 6) (ha : a < gn σ) : wc (d + 1) 36 [.ref a, .int 8] σ Q ↔ Q none (i_36_8 σ a) := by
  have hne : ∀ j, ¬ a = gn σ + j := fun j => by omega
  have hn0 : ¬ a = gn σ := by omega
  unfold i_36_8
  simp only [c_36, e_36_0, e_36_1, e_36_4, e_36_5, e_36_6, e_36_9, e_36_10, e_36_11, e_36_12, e_36_15, e_36_17, e_36_20, e_36_21, e_36_22, e_36_23, e_36_26, e_36_28, e_36_31,  tn_0, lz_0, tn_2, lz_2, tn_4, lz_4, tn_5, lz_5, tn_6, lz_6, tn_7, lz_7, tn_8, lz_8, tn_9, lz_9, tn_12, lz_12, tn_40, lz_40, tn_64, lz_64, tn_66, lz_66, tn_68, lz_68, tn_144, lz_144, tn_400, lz_400, tn_401, lz_401, tn_5062, lz_5062, tn_10124, lz_10124, tn_49152, lz_49152, zl_4, zl_8, hK, hne, hn0, if_false, if_true, n_K_I, n_K_J, n_K_R, n_K_N, n_n_I, n_n_J, n_n_R, n_n_N, n_R_I, n_R_J, n_R_R, n_R_N, n_N_I, n_N_J, n_N_R, n_N_N, and_self, false_and, and_false, Option.some.injEq, exists_eq_left, exists_eq_left', true_and, and_true, or_true, true_or, or_self, Nat.add_assoc, Nat.reduceAdd, Nat.add_left_cancel_iff, Nat.add_right_cancel_iff, Nat.reduceEqDiff, Nat.left_eq_add, Nat.add_eq_left, List.length_cons, List.length_nil, Nat.reduceLeDiff, Nat.zero_le, Option.toList_none, List.nil_append, Nat.lt_add_right_iff_pos, Nat.add_lt_add_iff_left, Nat.reduceLT, Nat.zero_lt_succ, Nat.lt_add_one, eq_self, not_false_eq_true]
/-- CornerTown.Town -/
def i_99 (σ : gS) (a : Nat) : gS := (sI (sR (i_36_8 (sNw (sR (i_36_4 (sNw (sR (i_36_4 (sNw (sI (sI (sI (sI (sR (sNw (sI (sR (sNw (sI (sI (sR (sNw (sR (sNw (sR (sNw (sR (sNw (sR (sNw σ 21 12 12) a 0 (some (gn σ))) 21 12 12) a 1 (some (gn σ + 1))) 21 12 12) a 2 (some (gn σ + 2))) 21 12 12) a 3 (some (gn σ + 3))) 21 12 12) a 4 (some (gn σ + 4))) a 5 (0)) a 6 (0)) 21 12 12) a 7 (some (gn σ + 5))) a 8 (0)) 24 6 6) a 9 (some (gn σ + 6))) a 10 (0)) a 11 (-1)) a 12 (12)) a 13 (0)) 6 0 3) (gn σ + 7)) a 14 (some (gn σ + 7))) 6 0 3) (gn σ + 10)) a 15 (some (gn σ + 10))) 6 0 3) (gn σ + 13)) a 16 (some (gn σ + 13))) a 17 (0))
set_option maxHeartbeats 4000000 in
set_option maxRecDepth 20000 in
theorem s_i_99 {d : Nat} {Q : Option Value → gS → Prop} {σ : gS} {a : Nat} (hK : gK σ a = 11) (ha : a < gn σ) : wc (d + 2) 99 [.ref a] σ Q ↔ Q none (i_99 σ a) := by
  have hne : ∀ j, ¬ a = gn σ + j := fun j => by omega
  have hn0 : ¬ a = gn σ := by omega
  unfold i_99
  simp only [c_99, e_99_0, e_99_1, e_99_4, e_99_5, e_99_7, e_99_9, e_99_12, e_99_13, e_99_15, e_99_17, e_99_20, e_99_21, e_99_23, e_99_25, e_99_28, e_99_29, e_99_31, e_99_33, e_99_36, e_99_37, e_99_39, e_99_41, e_99_44, e_99_45, e_99_46, e_99_49, e_99_50, e_99_51, e_99_54, e_99_55, e_99_57, e_99_59, e_99_62, e_99_63, e_99_64, e_99_67, e_99_68, e_99_70, e_99_73, e_99_76, e_99_77, e_99_78, e_99_81, e_99_82, e_99_83, e_99_86, e_99_87, e_99_89, e_99_92, e_99_93, e_99_94, e_99_97, e_99_98, e_99_101, e_99_101n, e_99_102, e_99_103, e_99_106, e_99_109, e_99_110, e_99_113, e_99_113n, e_99_114, e_99_115, e_99_118, e_99_121, e_99_122, e_99_125, e_99_125n, e_99_126, e_99_128, e_99_131, e_99_134, e_99_135, e_99_136, e_99_139, s_i_36_4, i_36_4, s_i_36_8, i_36_8,  tn_0, lz_0, tn_2, lz_2, tn_4, lz_4, tn_5, lz_5, tn_6, lz_6, tn_7, lz_7, tn_8, lz_8, tn_9, lz_9, tn_12, lz_12, tn_40, lz_40, tn_64, lz_64, tn_66, lz_66, tn_68, lz_68, tn_144, lz_144, tn_400, lz_400, tn_401, lz_401, tn_5062, lz_5062, tn_10124, lz_10124, tn_49152, lz_49152, zl_4, zl_8, hK, hne, hn0, if_false, if_true, n_K_I, n_K_J, n_K_R, n_K_N, n_n_I, n_n_J, n_n_R, n_n_N, n_R_I, n_R_J, n_R_R, n_R_N, n_N_I, n_N_J, n_N_R, n_N_N, and_self, false_and, and_false, Option.some.injEq, exists_eq_left, exists_eq_left', true_and, and_true, or_true, true_or, or_self, Nat.add_assoc, Nat.reduceAdd, Nat.add_left_cancel_iff, Nat.add_right_cancel_iff, Nat.reduceEqDiff, Nat.left_eq_add, Nat.add_eq_left, List.length_cons, List.length_nil, Nat.reduceLeDiff, Nat.zero_le, Option.toList_none, List.nil_append, Nat.lt_add_right_iff_pos, Nat.add_lt_add_iff_left, Nat.reduceLT, Nat.zero_lt_succ, Nat.lt_add_one, eq_self, not_false_eq_true]
/-- CornerTown.Reader -/
def i_40 (σ : gS) (a p0 : Nat) : gS := (sR (sI (sI (sI (sI (sI (sI (sI (sI (sI (sR (sNw (sR (sNw (sR (sNw σ 21 400 400) a 1 (some (gn σ))) 21 12 12) a 2 (some (gn σ + 1))) 21 12 12) a 3 (some (gn σ + 2))) a 4 (0)) a 5 (0)) a 6 (0)) a 7 (0)) a 8 (0)) a 9 (0)) a 10 (0)) a 11 (0)) a 12 (-1)) a 0 (some p0))
set_option maxHeartbeats 4000000 in
set_option maxRecDepth 20000 in
theorem s_i_40 {d : Nat} {Q : Option Value → gS → Prop} {σ : gS} {a p0 : Nat} (hK : gK σ a = 7) (ha : a < gn σ) : wc (d + 1) 40 [.ref a, .ref p0] σ Q ↔ Q none (i_40 σ a p0) := by
  have hne : ∀ j, ¬ a = gn σ + j := fun j => by omega
  have hn0 : ¬ a = gn σ := by omega
  unfold i_40
  simp only [c_40, e_40_0, e_40_1, e_40_4, e_40_5, e_40_8, e_40_10, e_40_13, e_40_14, e_40_16, e_40_18, e_40_21, e_40_22, e_40_24, e_40_26, e_40_29, e_40_30, e_40_31, e_40_34, e_40_35, e_40_36, e_40_39, e_40_40, e_40_41, e_40_44, e_40_45, e_40_46, e_40_49, e_40_50, e_40_51, e_40_54, e_40_55, e_40_56, e_40_59, e_40_60, e_40_61, e_40_64, e_40_65, e_40_66, e_40_69, e_40_70, e_40_71, e_40_74, e_40_75, e_40_75n, e_40_76, e_40_79,  tn_0, lz_0, tn_2, lz_2, tn_4, lz_4, tn_5, lz_5, tn_6, lz_6, tn_7, lz_7, tn_8, lz_8, tn_9, lz_9, tn_12, lz_12, tn_40, lz_40, tn_64, lz_64, tn_66, lz_66, tn_68, lz_68, tn_144, lz_144, tn_400, lz_400, tn_401, lz_401, tn_5062, lz_5062, tn_10124, lz_10124, tn_49152, lz_49152, zl_4, zl_8, hK, hne, hn0, if_false, if_true, n_K_I, n_K_J, n_K_R, n_K_N, n_n_I, n_n_J, n_n_R, n_n_N, n_R_I, n_R_J, n_R_R, n_R_N, n_N_I, n_N_J, n_N_R, n_N_N, and_self, false_and, and_false, Option.some.injEq, exists_eq_left, exists_eq_left', true_and, and_true, or_true, true_or, or_self, Nat.add_assoc, Nat.reduceAdd, Nat.add_left_cancel_iff, Nat.add_right_cancel_iff, Nat.reduceEqDiff, Nat.left_eq_add, Nat.add_eq_left, List.length_cons, List.length_nil, Nat.reduceLeDiff, Nat.zero_le, Option.toList_none, List.nil_append, Nat.lt_add_right_iff_pos, Nat.add_lt_add_iff_left, Nat.reduceLT, Nat.zero_lt_succ, Nat.lt_add_one, eq_self, not_false_eq_true]
/-- CornerTown.Reckoner -/
def i_62 (σ : gS) (a : Nat) : gS := (sI (sI (sR (sNw (sR (sNw σ 21 9 9) a 0 (some (gn σ))) 22 64 64) a 1 (some (gn σ + 1))) a 2 (0)) a 3 (0))
set_option maxHeartbeats 4000000 in
set_option maxRecDepth 20000 in
theorem s_i_62 {d : Nat} {Q : Option Value → gS → Prop} {σ : gS} {a : Nat} (hK : gK σ a = 8) (ha : a < gn σ) : wc (d + 1) 62 [.ref a] σ Q ↔ Q none (i_62 σ a) := by
  have hne : ∀ j, ¬ a = gn σ + j := fun j => by omega
  have hn0 : ¬ a = gn σ := by omega
  unfold i_62
  simp only [c_62, e_62_0, e_62_1, e_62_4, e_62_5, e_62_7, e_62_9, e_62_12, e_62_13, e_62_15, e_62_17, e_62_20, e_62_21, e_62_22, e_62_25, e_62_26, e_62_27, e_62_30,  tn_0, lz_0, tn_2, lz_2, tn_4, lz_4, tn_5, lz_5, tn_6, lz_6, tn_7, lz_7, tn_8, lz_8, tn_9, lz_9, tn_12, lz_12, tn_40, lz_40, tn_64, lz_64, tn_66, lz_66, tn_68, lz_68, tn_144, lz_144, tn_400, lz_400, tn_401, lz_401, tn_5062, lz_5062, tn_10124, lz_10124, tn_49152, lz_49152, zl_4, zl_8, hK, hne, hn0, if_false, if_true, n_K_I, n_K_J, n_K_R, n_K_N, n_n_I, n_n_J, n_n_R, n_n_N, n_R_I, n_R_J, n_R_R, n_R_N, n_N_I, n_N_J, n_N_R, n_N_N, and_self, false_and, and_false, Option.some.injEq, exists_eq_left, exists_eq_left', true_and, and_true, or_true, true_or, or_self, Nat.add_assoc, Nat.reduceAdd, Nat.add_left_cancel_iff, Nat.add_right_cancel_iff, Nat.reduceEqDiff, Nat.left_eq_add, Nat.add_eq_left, List.length_cons, List.length_nil, Nat.reduceLeDiff, Nat.zero_le, Option.toList_none, List.nil_append, Nat.lt_add_right_iff_pos, Nat.add_lt_add_iff_left, Nat.reduceLT, Nat.zero_lt_succ, Nat.lt_add_one, eq_self, not_false_eq_true]
/-- CornerTown.Streets -/
def i_82 (σ : gS) (a p0 : Nat) : gS := (sR (sI (sI (sI (sR (sNw (sR (sNw (sR (sNw (sR (sNw (sR (i_62 (sNw σ 8 0 4) (gn σ)) a 1 (some (gn σ))) 21 12 12) a 2 (some (gn σ + 3))) 21 12 12) a 3 (some (gn σ + 4))) 21 144 144) a 4 (some (gn σ + 5))) 21 144 144) a 5 (some (gn σ + 6))) a 6 (-1)) a 7 (-1)) a 8 (-1)) a 0 (some p0))
set_option maxHeartbeats 4000000 in
set_option maxRecDepth 20000 in
theorem s_i_82 {d : Nat} {Q : Option Value → gS → Prop} {σ : gS} {a p0 : Nat} (hK : gK σ a = 10) (ha : a < gn σ) : wc (d + 2) 82 [.ref a, .ref p0] σ Q ↔ Q none (i_82 σ a p0) := by
  have hne : ∀ j, ¬ a = gn σ + j := fun j => by omega
  have hn0 : ¬ a = gn σ := by omega
  have hf_62 : ∀ P : Option Value → gS → Prop, wc (d + 1) 62 [.ref (gn σ)] (sNw σ 8 0 4) P ↔ P none (i_62 (sNw σ 8 0 4) (gn σ)) := fun P => s_i_62 (d := d + 0) (va_up_self _ _ _) (Nat.lt_succ_self _)
  unfold i_82
  simp only [c_82, e_82_0, e_82_1, e_82_4, e_82_5, e_82_8, e_82_8n, e_82_9, e_82_12, e_82_15, e_82_16, e_82_18, e_82_20, e_82_23, e_82_24, e_82_26, e_82_28, e_82_31, e_82_32, e_82_35, e_82_37, e_82_40, e_82_41, e_82_44, e_82_46, e_82_49, e_82_50, e_82_51, e_82_54, e_82_55, e_82_56, e_82_59, e_82_60, e_82_61, e_82_64, e_82_65, e_82_65n, e_82_66, e_82_69, hf_62, s_i_62, i_62,  tn_0, lz_0, tn_2, lz_2, tn_4, lz_4, tn_5, lz_5, tn_6, lz_6, tn_7, lz_7, tn_8, lz_8, tn_9, lz_9, tn_12, lz_12, tn_40, lz_40, tn_64, lz_64, tn_66, lz_66, tn_68, lz_68, tn_144, lz_144, tn_400, lz_400, tn_401, lz_401, tn_5062, lz_5062, tn_10124, lz_10124, tn_49152, lz_49152, zl_4, zl_8, hK, hne, hn0, if_false, if_true, n_K_I, n_K_J, n_K_R, n_K_N, n_n_I, n_n_J, n_n_R, n_n_N, n_R_I, n_R_J, n_R_R, n_R_N, n_N_I, n_N_J, n_N_R, n_N_N, and_self, false_and, and_false, Option.some.injEq, exists_eq_left, exists_eq_left', true_and, and_true, or_true, true_or, or_self, Nat.add_assoc, Nat.reduceAdd, Nat.add_left_cancel_iff, Nat.add_right_cancel_iff, Nat.reduceEqDiff, Nat.left_eq_add, Nat.add_eq_left, List.length_cons, List.length_nil, Nat.reduceLeDiff, Nat.zero_le, Option.toList_none, List.nil_append, Nat.lt_add_right_iff_pos, Nat.add_lt_add_iff_left, Nat.reduceLT, Nat.zero_lt_succ, Nat.lt_add_one, eq_self, not_false_eq_true]
/-- CornerTown.Crossings -/
def i_0 (σ : gS) (a p0 : Nat) : gS := (sR (sI (sI (sI (sI (sR (sNw (sR (sNw (sR (sNw σ 21 12 12) a 1 (some (gn σ))) 21 12 12) a 2 (some (gn σ + 1))) 21 12 12) a 3 (some (gn σ + 2))) a 4 (-1)) a 5 (0)) a 6 (0)) a 7 (0)) a 0 (some p0))
set_option maxHeartbeats 4000000 in
set_option maxRecDepth 20000 in
theorem s_i_0 {d : Nat} {Q : Option Value → gS → Prop} {σ : gS} {a p0 : Nat} (hK : gK σ a = 1) (ha : a < gn σ) : wc (d + 1) 0 [.ref a, .ref p0] σ Q ↔ Q none (i_0 σ a p0) := by
  have hne : ∀ j, ¬ a = gn σ + j := fun j => by omega
  have hn0 : ¬ a = gn σ := by omega
  unfold i_0
  simp only [c_0, e_0_0, e_0_1, e_0_4, e_0_5, e_0_7, e_0_9, e_0_12, e_0_13, e_0_15, e_0_17, e_0_20, e_0_21, e_0_23, e_0_25, e_0_28, e_0_29, e_0_30, e_0_33, e_0_34, e_0_35, e_0_38, e_0_39, e_0_40, e_0_43, e_0_44, e_0_45, e_0_48, e_0_49, e_0_49n, e_0_50, e_0_53,  tn_0, lz_0, tn_2, lz_2, tn_4, lz_4, tn_5, lz_5, tn_6, lz_6, tn_7, lz_7, tn_8, lz_8, tn_9, lz_9, tn_12, lz_12, tn_40, lz_40, tn_64, lz_64, tn_66, lz_66, tn_68, lz_68, tn_144, lz_144, tn_400, lz_400, tn_401, lz_401, tn_5062, lz_5062, tn_10124, lz_10124, tn_49152, lz_49152, zl_4, zl_8, hK, hne, hn0, if_false, if_true, n_K_I, n_K_J, n_K_R, n_K_N, n_n_I, n_n_J, n_n_R, n_n_N, n_R_I, n_R_J, n_R_R, n_R_N, n_N_I, n_N_J, n_N_R, n_N_N, and_self, false_and, and_false, Option.some.injEq, exists_eq_left, exists_eq_left', true_and, and_true, or_true, true_or, or_self, Nat.add_assoc, Nat.reduceAdd, Nat.add_left_cancel_iff, Nat.add_right_cancel_iff, Nat.reduceEqDiff, Nat.left_eq_add, Nat.add_eq_left, List.length_cons, List.length_nil, Nat.reduceLeDiff, Nat.zero_le, Option.toList_none, List.nil_append, Nat.lt_add_right_iff_pos, Nat.add_lt_add_iff_left, Nat.reduceLT, Nat.zero_lt_succ, Nat.lt_add_one, eq_self, not_false_eq_true]
/-- CornerTown.DoorSearch -/
def i_11 (σ : gS) (a p0 : Nat) : gS := (sR (sI (sI (sI (sR (sNw (sI (sR (sNw (sR (sNw (sR (sNw σ 21 12 12) a 1 (some (gn σ))) 21 66 66) a 2 (some (gn σ + 1))) 21 66 66) a 3 (some (gn σ + 2))) a 4 (0)) 21 4 4) a 5 (some (gn σ + 3))) a 6 (-1)) a 7 (-1)) a 8 (0)) a 0 (some p0))
set_option maxHeartbeats 4000000 in
set_option maxRecDepth 20000 in
theorem s_i_11 {d : Nat} {Q : Option Value → gS → Prop} {σ : gS} {a p0 : Nat} (hK : gK σ a = 2) (ha : a < gn σ) : wc (d + 1) 11 [.ref a, .ref p0] σ Q ↔ Q none (i_11 σ a p0) := by
  have hne : ∀ j, ¬ a = gn σ + j := fun j => by omega
  have hn0 : ¬ a = gn σ := by omega
  unfold i_11
  simp only [c_11, e_11_0, e_11_1, e_11_4, e_11_5, e_11_7, e_11_9, e_11_12, e_11_13, e_11_15, e_11_17, e_11_20, e_11_21, e_11_23, e_11_25, e_11_28, e_11_29, e_11_30, e_11_33, e_11_34, e_11_35, e_11_37, e_11_40, e_11_41, e_11_42, e_11_45, e_11_46, e_11_47, e_11_50, e_11_51, e_11_52, e_11_55, e_11_56, e_11_56n, e_11_57, e_11_60,  tn_0, lz_0, tn_2, lz_2, tn_4, lz_4, tn_5, lz_5, tn_6, lz_6, tn_7, lz_7, tn_8, lz_8, tn_9, lz_9, tn_12, lz_12, tn_40, lz_40, tn_64, lz_64, tn_66, lz_66, tn_68, lz_68, tn_144, lz_144, tn_400, lz_400, tn_401, lz_401, tn_5062, lz_5062, tn_10124, lz_10124, tn_49152, lz_49152, zl_4, zl_8, hK, hne, hn0, if_false, if_true, n_K_I, n_K_J, n_K_R, n_K_N, n_n_I, n_n_J, n_n_R, n_n_N, n_R_I, n_R_J, n_R_R, n_R_N, n_N_I, n_N_J, n_N_R, n_N_N, and_self, false_and, and_false, Option.some.injEq, exists_eq_left, exists_eq_left', true_and, and_true, or_true, true_or, or_self, Nat.add_assoc, Nat.reduceAdd, Nat.add_left_cancel_iff, Nat.add_right_cancel_iff, Nat.reduceEqDiff, Nat.left_eq_add, Nat.add_eq_left, List.length_cons, List.length_nil, Nat.reduceLeDiff, Nat.zero_le, Option.toList_none, List.nil_append, Nat.lt_add_right_iff_pos, Nat.add_lt_add_iff_left, Nat.reduceLT, Nat.zero_lt_succ, Nat.lt_add_one, eq_self, not_false_eq_true]
/-- CornerTown.News -/
def i_30 (σ : gS) (a p0 : Nat) : gS := (sR (sI (sI (sI (sI (sI (sI (sR (sNw (sR (sNw σ 21 12 12) a 1 (some (gn σ))) 21 12 12) a 2 (some (gn σ + 1))) a 3 (-1)) a 4 (-1)) a 5 (0)) a 6 (0)) a 7 (-1)) a 8 (-1)) a 0 (some p0))
set_option maxHeartbeats 4000000 in
set_option maxRecDepth 20000 in
theorem s_i_30 {d : Nat} {Q : Option Value → gS → Prop} {σ : gS} {a p0 : Nat} (hK : gK σ a = 5) (ha : a < gn σ) : wc (d + 1) 30 [.ref a, .ref p0] σ Q ↔ Q none (i_30 σ a p0) := by
  have hne : ∀ j, ¬ a = gn σ + j := fun j => by omega
  have hn0 : ¬ a = gn σ := by omega
  unfold i_30
  simp only [c_30, e_30_0, e_30_1, e_30_4, e_30_5, e_30_7, e_30_9, e_30_12, e_30_13, e_30_15, e_30_17, e_30_20, e_30_21, e_30_22, e_30_25, e_30_26, e_30_27, e_30_30, e_30_31, e_30_32, e_30_35, e_30_36, e_30_37, e_30_40, e_30_41, e_30_42, e_30_45, e_30_46, e_30_47, e_30_50, e_30_51, e_30_51n, e_30_52, e_30_55,  tn_0, lz_0, tn_2, lz_2, tn_4, lz_4, tn_5, lz_5, tn_6, lz_6, tn_7, lz_7, tn_8, lz_8, tn_9, lz_9, tn_12, lz_12, tn_40, lz_40, tn_64, lz_64, tn_66, lz_66, tn_68, lz_68, tn_144, lz_144, tn_400, lz_400, tn_401, lz_401, tn_5062, lz_5062, tn_10124, lz_10124, tn_49152, lz_49152, zl_4, zl_8, hK, hne, hn0, if_false, if_true, n_K_I, n_K_J, n_K_R, n_K_N, n_n_I, n_n_J, n_n_R, n_n_N, n_R_I, n_R_J, n_R_R, n_R_N, n_N_I, n_N_J, n_N_R, n_N_N, and_self, false_and, and_false, Option.some.injEq, exists_eq_left, exists_eq_left', true_and, and_true, or_true, true_or, or_self, Nat.add_assoc, Nat.reduceAdd, Nat.add_left_cancel_iff, Nat.add_right_cancel_iff, Nat.reduceEqDiff, Nat.left_eq_add, Nat.add_eq_left, List.length_cons, List.length_nil, Nat.reduceLeDiff, Nat.zero_le, Option.toList_none, List.nil_append, Nat.lt_add_right_iff_pos, Nat.add_lt_add_iff_left, Nat.reduceLT, Nat.zero_lt_succ, Nat.lt_add_one, eq_self, not_false_eq_true]
/-- CornerTown.Rounds -/
def i_71 (σ : gS) (a p0 p1 : Nat) : gS := (sR (sR (sI (sI (sI (sI (sI (sI (sR (sNw (sR (sNw (sR (sNw (sR (sNw σ 21 12 12) a 2 (some (gn σ))) 21 12 12) a 3 (some (gn σ + 1))) 21 144 144) a 4 (some (gn σ + 2))) 21 0 0) a 5 (some (gn σ + 3))) a 6 (0)) a 7 (-1)) a 8 (-1)) a 9 (0)) a 10 (0)) a 11 (0)) a 0 (some p0)) a 1 (some p1))
set_option maxHeartbeats 4000000 in
set_option maxRecDepth 20000 in
theorem s_i_71 {d : Nat} {Q : Option Value → gS → Prop} {σ : gS} {a p0 p1 : Nat} (hK : gK σ a = 9) (ha : a < gn σ) : wc (d + 1) 71 [.ref a, .ref p0, .ref p1] σ Q ↔ Q none (i_71 σ a p0 p1) := by
  have hne : ∀ j, ¬ a = gn σ + j := fun j => by omega
  have hn0 : ¬ a = gn σ := by omega
  unfold i_71
  simp only [c_71, e_71_0, e_71_1, e_71_4, e_71_5, e_71_7, e_71_9, e_71_12, e_71_13, e_71_15, e_71_17, e_71_20, e_71_21, e_71_24, e_71_26, e_71_29, e_71_30, e_71_31, e_71_33, e_71_36, e_71_37, e_71_38, e_71_41, e_71_42, e_71_43, e_71_46, e_71_47, e_71_48, e_71_51, e_71_52, e_71_53, e_71_56, e_71_57, e_71_58, e_71_61, e_71_62, e_71_63, e_71_66, e_71_67, e_71_67n, e_71_68, e_71_71, e_71_72, e_71_72n, e_71_73, e_71_76,  tn_0, lz_0, tn_2, lz_2, tn_4, lz_4, tn_5, lz_5, tn_6, lz_6, tn_7, lz_7, tn_8, lz_8, tn_9, lz_9, tn_12, lz_12, tn_40, lz_40, tn_64, lz_64, tn_66, lz_66, tn_68, lz_68, tn_144, lz_144, tn_400, lz_400, tn_401, lz_401, tn_5062, lz_5062, tn_10124, lz_10124, tn_49152, lz_49152, zl_4, zl_8, hK, hne, hn0, if_false, if_true, n_K_I, n_K_J, n_K_R, n_K_N, n_n_I, n_n_J, n_n_R, n_n_N, n_R_I, n_R_J, n_R_R, n_R_N, n_N_I, n_N_J, n_N_R, n_N_N, and_self, false_and, and_false, Option.some.injEq, exists_eq_left, exists_eq_left', true_and, and_true, or_true, true_or, or_self, Nat.add_assoc, Nat.reduceAdd, Nat.add_left_cancel_iff, Nat.add_right_cancel_iff, Nat.reduceEqDiff, Nat.left_eq_add, Nat.add_eq_left, List.length_cons, List.length_nil, Nat.reduceLeDiff, Nat.zero_le, Option.toList_none, List.nil_append, Nat.lt_add_right_iff_pos, Nat.add_lt_add_iff_left, Nat.reduceLT, Nat.zero_lt_succ, Nat.lt_add_one, eq_self, not_false_eq_true]
/-- CornerTown.Floods -/
def i_20 (σ : gS) (a p0 p1 p2 : Nat) : gS := (sR (sR (sR (sJ (sI (sR (sNw (sR (sNw (sR (sNw σ 21 12 12) a 3 (some (gn σ))) 21 40 40) a 4 (some (gn σ + 1))) 21 40 40) a 5 (some (gn σ + 2))) a 6 (0)) a 7 (0)) a 0 (some p0)) a 1 (some p1)) a 2 (some p2))
set_option maxHeartbeats 4000000 in
set_option maxRecDepth 20000 in
theorem s_i_20 {d : Nat} {Q : Option Value → gS → Prop} {σ : gS} {a p0 p1 p2 : Nat} (hK : gK σ a = 3) (ha : a < gn σ) : wc (d + 1) 20 [.ref a, .ref p0, .ref p1, .ref p2] σ Q ↔ Q none (i_20 σ a p0 p1 p2) := by
  have hne : ∀ j, ¬ a = gn σ + j := fun j => by omega
  have hn0 : ¬ a = gn σ := by omega
  unfold i_20
  simp only [c_20, e_20_0, e_20_1, e_20_4, e_20_5, e_20_7, e_20_9, e_20_12, e_20_13, e_20_15, e_20_17, e_20_20, e_20_21, e_20_23, e_20_25, e_20_28, e_20_29, e_20_30, e_20_33, e_20_34, e_20_35, e_20_38, e_20_39, e_20_39n, e_20_40, e_20_43, e_20_44, e_20_44n, e_20_45, e_20_48, e_20_49, e_20_49n, e_20_50, e_20_53,  tn_0, lz_0, tn_2, lz_2, tn_4, lz_4, tn_5, lz_5, tn_6, lz_6, tn_7, lz_7, tn_8, lz_8, tn_9, lz_9, tn_12, lz_12, tn_40, lz_40, tn_64, lz_64, tn_66, lz_66, tn_68, lz_68, tn_144, lz_144, tn_400, lz_400, tn_401, lz_401, tn_5062, lz_5062, tn_10124, lz_10124, tn_49152, lz_49152, zl_4, zl_8, hK, hne, hn0, if_false, if_true, n_K_I, n_K_J, n_K_R, n_K_N, n_n_I, n_n_J, n_n_R, n_n_N, n_R_I, n_R_J, n_R_R, n_R_N, n_N_I, n_N_J, n_N_R, n_N_N, and_self, false_and, and_false, Option.some.injEq, exists_eq_left, exists_eq_left', true_and, and_true, or_true, true_or, or_self, Nat.add_assoc, Nat.reduceAdd, Nat.add_left_cancel_iff, Nat.add_right_cancel_iff, Nat.reduceEqDiff, Nat.left_eq_add, Nat.add_eq_left, List.length_cons, List.length_nil, Nat.reduceLeDiff, Nat.zero_le, Option.toList_none, List.nil_append, Nat.lt_add_right_iff_pos, Nat.add_lt_add_iff_left, Nat.reduceLT, Nat.zero_lt_succ, Nat.lt_add_one, eq_self, not_false_eq_true]
