/-! what the store behind the constructors holds -/
set_option maxHeartbeats 1000000 in
set_option maxRecDepth 20000 in
theorem v1_0_3 (G : gG) : gI (gS1 G) (gB G) 3 = 0 := by
  simp only [gS1, i_36_4, i_36_8, i_99, i_40, i_62, i_82, i_0, i_11, i_30, i_71, i_20, i_113, i_168, n_K_I, n_K_J, n_K_R, n_K_N, n_N_I, n_N_J, n_N_R, n_N_N, n_R_I, n_R_J, n_R_R, n_R_N, n_I_J, n_I_R, n_I_I, n_I_N, n_n_I, n_n_J, n_n_R, n_n_N, gn_S0, if_true, if_false, Nat.add_assoc, Nat.reduceAdd, Nat.add_left_cancel_iff, Nat.add_right_cancel_iff, Nat.reduceEqDiff, Nat.left_eq_add, Nat.add_eq_left, and_self, false_and, and_false, true_and, and_true, Nat.zero_ne_one, Nat.one_ne_zero]
set_option maxHeartbeats 1000000 in
set_option maxRecDepth 20000 in
theorem v1_0_5 (G : gG) : gI (gS1 G) (gB G) 5 = -1 := by
  simp only [gS1, i_36_4, i_36_8, i_99, i_40, i_62, i_82, i_0, i_11, i_30, i_71, i_20, i_113, i_168, n_K_I, n_K_J, n_K_R, n_K_N, n_N_I, n_N_J, n_N_R, n_N_N, n_R_I, n_R_J, n_R_R, n_R_N, n_I_J, n_I_R, n_I_I, n_I_N, n_n_I, n_n_J, n_n_R, n_n_N, gn_S0, if_true, if_false, Nat.add_assoc, Nat.reduceAdd, Nat.add_left_cancel_iff, Nat.add_right_cancel_iff, Nat.reduceEqDiff, Nat.left_eq_add, Nat.add_eq_left, and_self, false_and, and_false, true_and, and_true, Nat.zero_ne_one, Nat.one_ne_zero]
set_option maxHeartbeats 1000000 in
set_option maxRecDepth 20000 in
theorem v1_0_6 (G : gG) : gI (gS1 G) (gB G) 6 = 0 := by
  simp only [gS1, i_36_4, i_36_8, i_99, i_40, i_62, i_82, i_0, i_11, i_30, i_71, i_20, i_113, i_168, n_K_I, n_K_J, n_K_R, n_K_N, n_N_I, n_N_J, n_N_R, n_N_N, n_R_I, n_R_J, n_R_R, n_R_N, n_I_J, n_I_R, n_I_I, n_I_N, n_n_I, n_n_J, n_n_R, n_n_N, gn_S0, if_true, if_false, Nat.add_assoc, Nat.reduceAdd, Nat.add_left_cancel_iff, Nat.add_right_cancel_iff, Nat.reduceEqDiff, Nat.left_eq_add, Nat.add_eq_left, and_self, false_and, and_false, true_and, and_true, Nat.zero_ne_one, Nat.one_ne_zero]
set_option maxHeartbeats 1000000 in
set_option maxRecDepth 20000 in
theorem v1_0_8 (G : gG) : gI (gS1 G) (gB G) 8 = 0 := by
  simp only [gS1, i_36_4, i_36_8, i_99, i_40, i_62, i_82, i_0, i_11, i_30, i_71, i_20, i_113, i_168, n_K_I, n_K_J, n_K_R, n_K_N, n_N_I, n_N_J, n_N_R, n_N_N, n_R_I, n_R_J, n_R_R, n_R_N, n_I_J, n_I_R, n_I_I, n_I_N, n_n_I, n_n_J, n_n_R, n_n_N, gn_S0, if_true, if_false, Nat.add_assoc, Nat.reduceAdd, Nat.add_left_cancel_iff, Nat.add_right_cancel_iff, Nat.reduceEqDiff, Nat.left_eq_add, Nat.add_eq_left, and_self, false_and, and_false, true_and, and_true, Nat.zero_ne_one, Nat.one_ne_zero]
set_option maxHeartbeats 1000000 in
set_option maxRecDepth 20000 in
theorem v1_54_0 (G : gG) : gI (gS1 G) (gB G + 54) 0 = 0 := by
  simp only [gS1, i_36_4, i_36_8, i_99, i_40, i_62, i_82, i_0, i_11, i_30, i_71, i_20, i_113, i_168, n_K_I, n_K_J, n_K_R, n_K_N, n_N_I, n_N_J, n_N_R, n_N_N, n_R_I, n_R_J, n_R_R, n_R_N, n_I_J, n_I_R, n_I_I, n_I_N, n_n_I, n_n_J, n_n_R, n_n_N, gn_S0, if_true, if_false, Nat.add_assoc, Nat.reduceAdd, Nat.add_left_cancel_iff, Nat.add_right_cancel_iff, Nat.reduceEqDiff, Nat.left_eq_add, Nat.add_eq_left, and_self, false_and, and_false, true_and, and_true, Nat.zero_ne_one, Nat.one_ne_zero]
set_option maxHeartbeats 1000000 in
set_option maxRecDepth 20000 in
theorem v1_54_1 (G : gG) : gI (gS1 G) (gB G + 54) 1 = 0 := by
  simp only [gS1, i_36_4, i_36_8, i_99, i_40, i_62, i_82, i_0, i_11, i_30, i_71, i_20, i_113, i_168, n_K_I, n_K_J, n_K_R, n_K_N, n_N_I, n_N_J, n_N_R, n_N_N, n_R_I, n_R_J, n_R_R, n_R_N, n_I_J, n_I_R, n_I_I, n_I_N, n_n_I, n_n_J, n_n_R, n_n_N, gn_S0, if_true, if_false, Nat.add_assoc, Nat.reduceAdd, Nat.add_left_cancel_iff, Nat.add_right_cancel_iff, Nat.reduceEqDiff, Nat.left_eq_add, Nat.add_eq_left, and_self, false_and, and_false, true_and, and_true, Nat.zero_ne_one, Nat.one_ne_zero]
set_option maxHeartbeats 1000000 in
set_option maxRecDepth 20000 in
theorem v1_54_6 (G : gG) : gI (gS1 G) (gB G + 54) 6 = 0 := by
  simp only [gS1, i_36_4, i_36_8, i_99, i_40, i_62, i_82, i_0, i_11, i_30, i_71, i_20, i_113, i_168, n_K_I, n_K_J, n_K_R, n_K_N, n_N_I, n_N_J, n_N_R, n_N_N, n_R_I, n_R_J, n_R_R, n_R_N, n_I_J, n_I_R, n_I_I, n_I_N, n_n_I, n_n_J, n_n_R, n_n_N, gn_S0, if_true, if_false, Nat.add_assoc, Nat.reduceAdd, Nat.add_left_cancel_iff, Nat.add_right_cancel_iff, Nat.reduceEqDiff, Nat.left_eq_add, Nat.add_eq_left, and_self, false_and, and_false, true_and, and_true, Nat.zero_ne_one, Nat.one_ne_zero]
set_option maxHeartbeats 1000000 in
set_option maxRecDepth 20000 in
theorem v1_54_10 (G : gG) : gI (gS1 G) (gB G + 54) 10 = 0 := by
  simp only [gS1, i_36_4, i_36_8, i_99, i_40, i_62, i_82, i_0, i_11, i_30, i_71, i_20, i_113, i_168, n_K_I, n_K_J, n_K_R, n_K_N, n_N_I, n_N_J, n_N_R, n_N_N, n_R_I, n_R_J, n_R_R, n_R_N, n_I_J, n_I_R, n_I_I, n_I_N, n_n_I, n_n_J, n_n_R, n_n_N, gn_S0, if_true, if_false, Nat.add_assoc, Nat.reduceAdd, Nat.add_left_cancel_iff, Nat.add_right_cancel_iff, Nat.reduceEqDiff, Nat.left_eq_add, Nat.add_eq_left, and_self, false_and, and_false, true_and, and_true, Nat.zero_ne_one, Nat.one_ne_zero]
set_option maxHeartbeats 1000000 in
set_option maxRecDepth 20000 in
theorem v1_54_11 (G : gG) : gI (gS1 G) (gB G + 54) 11 = -1 := by
  simp only [gS1, i_36_4, i_36_8, i_99, i_40, i_62, i_82, i_0, i_11, i_30, i_71, i_20, i_113, i_168, n_K_I, n_K_J, n_K_R, n_K_N, n_N_I, n_N_J, n_N_R, n_N_N, n_R_I, n_R_J, n_R_R, n_R_N, n_I_J, n_I_R, n_I_I, n_I_N, n_n_I, n_n_J, n_n_R, n_n_N, gn_S0, if_true, if_false, Nat.add_assoc, Nat.reduceAdd, Nat.add_left_cancel_iff, Nat.add_right_cancel_iff, Nat.reduceEqDiff, Nat.left_eq_add, Nat.add_eq_left, and_self, false_and, and_false, true_and, and_true, Nat.zero_ne_one, Nat.one_ne_zero]
set_option maxHeartbeats 1000000 in
set_option maxRecDepth 20000 in
theorem v1_54_28 (G : gG) : gI (gS1 G) (gB G + 54) 28 = -1 := by
  simp only [gS1, i_36_4, i_36_8, i_99, i_40, i_62, i_82, i_0, i_11, i_30, i_71, i_20, i_113, i_168, n_K_I, n_K_J, n_K_R, n_K_N, n_N_I, n_N_J, n_N_R, n_N_N, n_R_I, n_R_J, n_R_R, n_R_N, n_I_J, n_I_R, n_I_I, n_I_N, n_n_I, n_n_J, n_n_R, n_n_N, gn_S0, if_true, if_false, Nat.add_assoc, Nat.reduceAdd, Nat.add_left_cancel_iff, Nat.add_right_cancel_iff, Nat.reduceEqDiff, Nat.left_eq_add, Nat.add_eq_left, and_self, false_and, and_false, true_and, and_true, Nat.zero_ne_one, Nat.one_ne_zero]
set_option maxHeartbeats 1000000 in
set_option maxRecDepth 20000 in
theorem v1_54_30 (G : gG) : gI (gS1 G) (gB G + 54) 30 = -1 := by
  simp only [gS1, i_36_4, i_36_8, i_99, i_40, i_62, i_82, i_0, i_11, i_30, i_71, i_20, i_113, i_168, n_K_I, n_K_J, n_K_R, n_K_N, n_N_I, n_N_J, n_N_R, n_N_N, n_R_I, n_R_J, n_R_R, n_R_N, n_I_J, n_I_R, n_I_I, n_I_N, n_n_I, n_n_J, n_n_R, n_n_N, gn_S0, if_true, if_false, Nat.add_assoc, Nat.reduceAdd, Nat.add_left_cancel_iff, Nat.add_right_cancel_iff, Nat.reduceEqDiff, Nat.left_eq_add, Nat.add_eq_left, and_self, false_and, and_false, true_and, and_true, Nat.zero_ne_one, Nat.one_ne_zero]
set_option maxHeartbeats 1000000 in
set_option maxRecDepth 20000 in
theorem v1_54_32 (G : gG) : gI (gS1 G) (gB G + 54) 32 = -1 := by
  simp only [gS1, i_36_4, i_36_8, i_99, i_40, i_62, i_82, i_0, i_11, i_30, i_71, i_20, i_113, i_168, n_K_I, n_K_J, n_K_R, n_K_N, n_N_I, n_N_J, n_N_R, n_N_N, n_R_I, n_R_J, n_R_R, n_R_N, n_I_J, n_I_R, n_I_I, n_I_N, n_n_I, n_n_J, n_n_R, n_n_N, gn_S0, if_true, if_false, Nat.add_assoc, Nat.reduceAdd, Nat.add_left_cancel_iff, Nat.add_right_cancel_iff, Nat.reduceEqDiff, Nat.left_eq_add, Nat.add_eq_left, and_self, false_and, and_false, true_and, and_true, Nat.zero_ne_one, Nat.one_ne_zero]
set_option maxHeartbeats 1000000 in
set_option maxRecDepth 20000 in
theorem v1_54_48 (G : gG) : gI (gS1 G) (gB G + 54) 48 = 0 := by
  simp only [gS1, i_36_4, i_36_8, i_99, i_40, i_62, i_82, i_0, i_11, i_30, i_71, i_20, i_113, i_168, n_K_I, n_K_J, n_K_R, n_K_N, n_N_I, n_N_J, n_N_R, n_N_N, n_R_I, n_R_J, n_R_R, n_R_N, n_I_J, n_I_R, n_I_I, n_I_N, n_n_I, n_n_J, n_n_R, n_n_N, gn_S0, if_true, if_false, Nat.add_assoc, Nat.reduceAdd, Nat.add_left_cancel_iff, Nat.add_right_cancel_iff, Nat.reduceEqDiff, Nat.left_eq_add, Nat.add_eq_left, and_self, false_and, and_false, true_and, and_true, Nat.zero_ne_one, Nat.one_ne_zero]
set_option maxHeartbeats 1000000 in
set_option maxRecDepth 20000 in
theorem v1_1_5 (G : gG) : gI (gS1 G) (gB G + 1) 5 = 0 := by
  simp only [gS1, i_36_4, i_36_8, i_99, i_40, i_62, i_82, i_0, i_11, i_30, i_71, i_20, i_113, i_168, n_K_I, n_K_J, n_K_R, n_K_N, n_N_I, n_N_J, n_N_R, n_N_N, n_R_I, n_R_J, n_R_R, n_R_N, n_I_J, n_I_R, n_I_I, n_I_N, n_n_I, n_n_J, n_n_R, n_n_N, gn_S0, if_true, if_false, Nat.add_assoc, Nat.reduceAdd, Nat.add_left_cancel_iff, Nat.add_right_cancel_iff, Nat.reduceEqDiff, Nat.left_eq_add, Nat.add_eq_left, and_self, false_and, and_false, true_and, and_true, Nat.zero_ne_one, Nat.one_ne_zero]
set_option maxHeartbeats 1000000 in
set_option maxRecDepth 20000 in
theorem v1_1_6 (G : gG) : gI (gS1 G) (gB G + 1) 6 = 0 := by
  simp only [gS1, i_36_4, i_36_8, i_99, i_40, i_62, i_82, i_0, i_11, i_30, i_71, i_20, i_113, i_168, n_K_I, n_K_J, n_K_R, n_K_N, n_N_I, n_N_J, n_N_R, n_N_N, n_R_I, n_R_J, n_R_R, n_R_N, n_I_J, n_I_R, n_I_I, n_I_N, n_n_I, n_n_J, n_n_R, n_n_N, gn_S0, if_true, if_false, Nat.add_assoc, Nat.reduceAdd, Nat.add_left_cancel_iff, Nat.add_right_cancel_iff, Nat.reduceEqDiff, Nat.left_eq_add, Nat.add_eq_left, and_self, false_and, and_false, true_and, and_true, Nat.zero_ne_one, Nat.one_ne_zero]
set_option maxHeartbeats 1000000 in
set_option maxRecDepth 20000 in
theorem v1_1_8 (G : gG) : gI (gS1 G) (gB G + 1) 8 = 0 := by
  simp only [gS1, i_36_4, i_36_8, i_99, i_40, i_62, i_82, i_0, i_11, i_30, i_71, i_20, i_113, i_168, n_K_I, n_K_J, n_K_R, n_K_N, n_N_I, n_N_J, n_N_R, n_N_N, n_R_I, n_R_J, n_R_R, n_R_N, n_I_J, n_I_R, n_I_I, n_I_N, n_n_I, n_n_J, n_n_R, n_n_N, gn_S0, if_true, if_false, Nat.add_assoc, Nat.reduceAdd, Nat.add_left_cancel_iff, Nat.add_right_cancel_iff, Nat.reduceEqDiff, Nat.left_eq_add, Nat.add_eq_left, and_self, false_and, and_false, true_and, and_true, Nat.zero_ne_one, Nat.one_ne_zero]
set_option maxHeartbeats 1000000 in
set_option maxRecDepth 20000 in
theorem v1_1_10 (G : gG) : gI (gS1 G) (gB G + 1) 10 = 0 := by
  simp only [gS1, i_36_4, i_36_8, i_99, i_40, i_62, i_82, i_0, i_11, i_30, i_71, i_20, i_113, i_168, n_K_I, n_K_J, n_K_R, n_K_N, n_N_I, n_N_J, n_N_R, n_N_N, n_R_I, n_R_J, n_R_R, n_R_N, n_I_J, n_I_R, n_I_I, n_I_N, n_n_I, n_n_J, n_n_R, n_n_N, gn_S0, if_true, if_false, Nat.add_assoc, Nat.reduceAdd, Nat.add_left_cancel_iff, Nat.add_right_cancel_iff, Nat.reduceEqDiff, Nat.left_eq_add, Nat.add_eq_left, and_self, false_and, and_false, true_and, and_true, Nat.zero_ne_one, Nat.one_ne_zero]
set_option maxHeartbeats 1000000 in
set_option maxRecDepth 20000 in
theorem v1_1_11 (G : gG) : gI (gS1 G) (gB G + 1) 11 = -1 := by
  simp only [gS1, i_36_4, i_36_8, i_99, i_40, i_62, i_82, i_0, i_11, i_30, i_71, i_20, i_113, i_168, n_K_I, n_K_J, n_K_R, n_K_N, n_N_I, n_N_J, n_N_R, n_N_N, n_R_I, n_R_J, n_R_R, n_R_N, n_I_J, n_I_R, n_I_I, n_I_N, n_n_I, n_n_J, n_n_R, n_n_N, gn_S0, if_true, if_false, Nat.add_assoc, Nat.reduceAdd, Nat.add_left_cancel_iff, Nat.add_right_cancel_iff, Nat.reduceEqDiff, Nat.left_eq_add, Nat.add_eq_left, and_self, false_and, and_false, true_and, and_true, Nat.zero_ne_one, Nat.one_ne_zero]
set_option maxHeartbeats 1000000 in
set_option maxRecDepth 20000 in
theorem v1_1_12 (G : gG) : gI (gS1 G) (gB G + 1) 12 = 12 := by
  simp only [gS1, i_36_4, i_36_8, i_99, i_40, i_62, i_82, i_0, i_11, i_30, i_71, i_20, i_113, i_168, n_K_I, n_K_J, n_K_R, n_K_N, n_N_I, n_N_J, n_N_R, n_N_N, n_R_I, n_R_J, n_R_R, n_R_N, n_I_J, n_I_R, n_I_I, n_I_N, n_n_I, n_n_J, n_n_R, n_n_N, gn_S0, if_true, if_false, Nat.add_assoc, Nat.reduceAdd, Nat.add_left_cancel_iff, Nat.add_right_cancel_iff, Nat.reduceEqDiff, Nat.left_eq_add, Nat.add_eq_left, and_self, false_and, and_false, true_and, and_true, Nat.zero_ne_one, Nat.one_ne_zero]
set_option maxHeartbeats 1000000 in
set_option maxRecDepth 20000 in
theorem v1_1_13 (G : gG) : gI (gS1 G) (gB G + 1) 13 = 0 := by
  simp only [gS1, i_36_4, i_36_8, i_99, i_40, i_62, i_82, i_0, i_11, i_30, i_71, i_20, i_113, i_168, n_K_I, n_K_J, n_K_R, n_K_N, n_N_I, n_N_J, n_N_R, n_N_N, n_R_I, n_R_J, n_R_R, n_R_N, n_I_J, n_I_R, n_I_I, n_I_N, n_n_I, n_n_J, n_n_R, n_n_N, gn_S0, if_true, if_false, Nat.add_assoc, Nat.reduceAdd, Nat.add_left_cancel_iff, Nat.add_right_cancel_iff, Nat.reduceEqDiff, Nat.left_eq_add, Nat.add_eq_left, and_self, false_and, and_false, true_and, and_true, Nat.zero_ne_one, Nat.one_ne_zero]
set_option maxHeartbeats 1000000 in
set_option maxRecDepth 20000 in
theorem v1_1_17 (G : gG) : gI (gS1 G) (gB G + 1) 17 = 0 := by
  simp only [gS1, i_36_4, i_36_8, i_99, i_40, i_62, i_82, i_0, i_11, i_30, i_71, i_20, i_113, i_168, n_K_I, n_K_J, n_K_R, n_K_N, n_N_I, n_N_J, n_N_R, n_N_N, n_R_I, n_R_J, n_R_R, n_R_N, n_I_J, n_I_R, n_I_I, n_I_N, n_n_I, n_n_J, n_n_R, n_n_N, gn_S0, if_true, if_false, Nat.add_assoc, Nat.reduceAdd, Nat.add_left_cancel_iff, Nat.add_right_cancel_iff, Nat.reduceEqDiff, Nat.left_eq_add, Nat.add_eq_left, and_self, false_and, and_false, true_and, and_true, Nat.zero_ne_one, Nat.one_ne_zero]
set_option maxHeartbeats 1000000 in
set_option maxRecDepth 20000 in
theorem v1_9_2 (G : gG) : gI (gS1 G) (gB G + 9) 2 = 0 := by
  simp only [gS1, i_36_4, i_36_8, i_99, i_40, i_62, i_82, i_0, i_11, i_30, i_71, i_20, i_113, i_168, n_K_I, n_K_J, n_K_R, n_K_N, n_N_I, n_N_J, n_N_R, n_N_N, n_R_I, n_R_J, n_R_R, n_R_N, n_I_J, n_I_R, n_I_I, n_I_N, n_n_I, n_n_J, n_n_R, n_n_N, gn_S0, if_true, if_false, Nat.add_assoc, Nat.reduceAdd, Nat.add_left_cancel_iff, Nat.add_right_cancel_iff, Nat.reduceEqDiff, Nat.left_eq_add, Nat.add_eq_left, and_self, false_and, and_false, true_and, and_true, Nat.zero_ne_one, Nat.one_ne_zero]
set_option maxHeartbeats 1000000 in
set_option maxRecDepth 20000 in
theorem v1_12_2 (G : gG) : gI (gS1 G) (gB G + 12) 2 = 0 := by
  simp only [gS1, i_36_4, i_36_8, i_99, i_40, i_62, i_82, i_0, i_11, i_30, i_71, i_20, i_113, i_168, n_K_I, n_K_J, n_K_R, n_K_N, n_N_I, n_N_J, n_N_R, n_N_N, n_R_I, n_R_J, n_R_R, n_R_N, n_I_J, n_I_R, n_I_I, n_I_N, n_n_I, n_n_J, n_n_R, n_n_N, gn_S0, if_true, if_false, Nat.add_assoc, Nat.reduceAdd, Nat.add_left_cancel_iff, Nat.add_right_cancel_iff, Nat.reduceEqDiff, Nat.left_eq_add, Nat.add_eq_left, and_self, false_and, and_false, true_and, and_true, Nat.zero_ne_one, Nat.one_ne_zero]
set_option maxHeartbeats 1000000 in
set_option maxRecDepth 20000 in
theorem v1_15_2 (G : gG) : gI (gS1 G) (gB G + 15) 2 = 0 := by
  simp only [gS1, i_36_4, i_36_8, i_99, i_40, i_62, i_82, i_0, i_11, i_30, i_71, i_20, i_113, i_168, n_K_I, n_K_J, n_K_R, n_K_N, n_N_I, n_N_J, n_N_R, n_N_N, n_R_I, n_R_J, n_R_R, n_R_N, n_I_J, n_I_R, n_I_I, n_I_N, n_n_I, n_n_J, n_n_R, n_n_N, gn_S0, if_true, if_false, Nat.add_assoc, Nat.reduceAdd, Nat.add_left_cancel_iff, Nat.add_right_cancel_iff, Nat.reduceEqDiff, Nat.left_eq_add, Nat.add_eq_left, and_self, false_and, and_false, true_and, and_true, Nat.zero_ne_one, Nat.one_ne_zero]
set_option maxHeartbeats 1000000 in
set_option maxRecDepth 20000 in
theorem v1_50_6 (G : gG) : gI (gS1 G) (gB G + 50) 6 = 0 := by
  simp only [gS1, i_36_4, i_36_8, i_99, i_40, i_62, i_82, i_0, i_11, i_30, i_71, i_20, i_113, i_168, n_K_I, n_K_J, n_K_R, n_K_N, n_N_I, n_N_J, n_N_R, n_N_N, n_R_I, n_R_J, n_R_R, n_R_N, n_I_J, n_I_R, n_I_I, n_I_N, n_n_I, n_n_J, n_n_R, n_n_N, gn_S0, if_true, if_false, Nat.add_assoc, Nat.reduceAdd, Nat.add_left_cancel_iff, Nat.add_right_cancel_iff, Nat.reduceEqDiff, Nat.left_eq_add, Nat.add_eq_left, and_self, false_and, and_false, true_and, and_true, Nat.zero_ne_one, Nat.one_ne_zero]
set_option maxHeartbeats 1000000 in
set_option maxRecDepth 20000 in
theorem v1_25_6 (G : gG) : gI (gS1 G) (gB G + 25) 6 = -1 := by
  simp only [gS1, i_36_4, i_36_8, i_99, i_40, i_62, i_82, i_0, i_11, i_30, i_71, i_20, i_113, i_168, n_K_I, n_K_J, n_K_R, n_K_N, n_N_I, n_N_J, n_N_R, n_N_N, n_R_I, n_R_J, n_R_R, n_R_N, n_I_J, n_I_R, n_I_I, n_I_N, n_n_I, n_n_J, n_n_R, n_n_N, gn_S0, if_true, if_false, Nat.add_assoc, Nat.reduceAdd, Nat.add_left_cancel_iff, Nat.add_right_cancel_iff, Nat.reduceEqDiff, Nat.left_eq_add, Nat.add_eq_left, and_self, false_and, and_false, true_and, and_true, Nat.zero_ne_one, Nat.one_ne_zero]
set_option maxHeartbeats 1000000 in
set_option maxRecDepth 20000 in
theorem v1_25_7 (G : gG) : gI (gS1 G) (gB G + 25) 7 = -1 := by
  simp only [gS1, i_36_4, i_36_8, i_99, i_40, i_62, i_82, i_0, i_11, i_30, i_71, i_20, i_113, i_168, n_K_I, n_K_J, n_K_R, n_K_N, n_N_I, n_N_J, n_N_R, n_N_N, n_R_I, n_R_J, n_R_R, n_R_N, n_I_J, n_I_R, n_I_I, n_I_N, n_n_I, n_n_J, n_n_R, n_n_N, gn_S0, if_true, if_false, Nat.add_assoc, Nat.reduceAdd, Nat.add_left_cancel_iff, Nat.add_right_cancel_iff, Nat.reduceEqDiff, Nat.left_eq_add, Nat.add_eq_left, and_self, false_and, and_false, true_and, and_true, Nat.zero_ne_one, Nat.one_ne_zero]
set_option maxHeartbeats 1000000 in
set_option maxRecDepth 20000 in
theorem v1_25_8 (G : gG) : gI (gS1 G) (gB G + 25) 8 = -1 := by
  simp only [gS1, i_36_4, i_36_8, i_99, i_40, i_62, i_82, i_0, i_11, i_30, i_71, i_20, i_113, i_168, n_K_I, n_K_J, n_K_R, n_K_N, n_N_I, n_N_J, n_N_R, n_N_N, n_R_I, n_R_J, n_R_R, n_R_N, n_I_J, n_I_R, n_I_I, n_I_N, n_n_I, n_n_J, n_n_R, n_n_N, gn_S0, if_true, if_false, Nat.add_assoc, Nat.reduceAdd, Nat.add_left_cancel_iff, Nat.add_right_cancel_iff, Nat.reduceEqDiff, Nat.left_eq_add, Nat.add_eq_left, and_self, false_and, and_false, true_and, and_true, Nat.zero_ne_one, Nat.one_ne_zero]
set_option maxHeartbeats 1000000 in
set_option maxRecDepth 20000 in
theorem v1_37_6 (G : gG) : gI (gS1 G) (gB G + 37) 6 = -1 := by
  simp only [gS1, i_36_4, i_36_8, i_99, i_40, i_62, i_82, i_0, i_11, i_30, i_71, i_20, i_113, i_168, n_K_I, n_K_J, n_K_R, n_K_N, n_N_I, n_N_J, n_N_R, n_N_N, n_R_I, n_R_J, n_R_R, n_R_N, n_I_J, n_I_R, n_I_I, n_I_N, n_n_I, n_n_J, n_n_R, n_n_N, gn_S0, if_true, if_false, Nat.add_assoc, Nat.reduceAdd, Nat.add_left_cancel_iff, Nat.add_right_cancel_iff, Nat.reduceEqDiff, Nat.left_eq_add, Nat.add_eq_left, and_self, false_and, and_false, true_and, and_true, Nat.zero_ne_one, Nat.one_ne_zero]
set_option maxHeartbeats 1000000 in
set_option maxRecDepth 20000 in
theorem v1_42_3 (G : gG) : gI (gS1 G) (gB G + 42) 3 = -1 := by
  simp only [gS1, i_36_4, i_36_8, i_99, i_40, i_62, i_82, i_0, i_11, i_30, i_71, i_20, i_113, i_168, n_K_I, n_K_J, n_K_R, n_K_N, n_N_I, n_N_J, n_N_R, n_N_N, n_R_I, n_R_J, n_R_R, n_R_N, n_I_J, n_I_R, n_I_I, n_I_N, n_n_I, n_n_J, n_n_R, n_n_N, gn_S0, if_true, if_false, Nat.add_assoc, Nat.reduceAdd, Nat.add_left_cancel_iff, Nat.add_right_cancel_iff, Nat.reduceEqDiff, Nat.left_eq_add, Nat.add_eq_left, and_self, false_and, and_false, true_and, and_true, Nat.zero_ne_one, Nat.one_ne_zero]
set_option maxHeartbeats 1000000 in
set_option maxRecDepth 20000 in
theorem v1_45_7 (G : gG) : gI (gS1 G) (gB G + 45) 7 = -1 := by
  simp only [gS1, i_36_4, i_36_8, i_99, i_40, i_62, i_82, i_0, i_11, i_30, i_71, i_20, i_113, i_168, n_K_I, n_K_J, n_K_R, n_K_N, n_N_I, n_N_J, n_N_R, n_N_N, n_R_I, n_R_J, n_R_R, n_R_N, n_I_J, n_I_R, n_I_I, n_I_N, n_n_I, n_n_J, n_n_R, n_n_N, gn_S0, if_true, if_false, Nat.add_assoc, Nat.reduceAdd, Nat.add_left_cancel_iff, Nat.add_right_cancel_iff, Nat.reduceEqDiff, Nat.left_eq_add, Nat.add_eq_left, and_self, false_and, and_false, true_and, and_true, Nat.zero_ne_one, Nat.one_ne_zero]
set_option maxHeartbeats 1000000 in
set_option maxRecDepth 20000 in
theorem v1_24 (G : gG) (j : Nat) : gI (gS1 G) (gB G + 24) j = 0 := by
  simp only [gS1, i_36_4, i_36_8, i_99, i_40, i_62, i_82, i_0, i_11, i_30, i_71, i_20, i_113, i_168, n_K_I, n_K_J, n_K_R, n_K_N, n_N_I, n_N_J, n_N_R, n_N_N, n_R_I, n_R_J, n_R_R, n_R_N, n_I_J, n_I_R, n_I_I, n_I_N, n_n_I, n_n_J, n_n_R, n_n_N, gn_S0, if_true, if_false, Nat.add_assoc, Nat.reduceAdd, Nat.add_left_cancel_iff, Nat.add_right_cancel_iff, Nat.reduceEqDiff, Nat.left_eq_add, Nat.add_eq_left, and_self, false_and, and_false, true_and, and_true]
set_option maxHeartbeats 1000000 in
set_option maxRecDepth 20000 in
theorem v1_55 (G : gG) (j : Nat) : gI (gS1 G) (gB G + 55) j = 0 := by
  simp only [gS1, i_36_4, i_36_8, i_99, i_40, i_62, i_82, i_0, i_11, i_30, i_71, i_20, i_113, i_168, n_K_I, n_K_J, n_K_R, n_K_N, n_N_I, n_N_J, n_N_R, n_N_N, n_R_I, n_R_J, n_R_R, n_R_N, n_I_J, n_I_R, n_I_I, n_I_N, n_n_I, n_n_J, n_n_R, n_n_N, gn_S0, if_true, if_false, Nat.add_assoc, Nat.reduceAdd, Nat.add_left_cancel_iff, Nat.add_right_cancel_iff, Nat.reduceEqDiff, Nat.left_eq_add, Nat.add_eq_left, and_self, false_and, and_false, true_and, and_true]
set_option maxHeartbeats 1000000 in
set_option maxRecDepth 20000 in
theorem v1_58 (G : gG) (j : Nat) : gI (gS1 G) (gB G + 58) j = 0 := by
  simp only [gS1, i_36_4, i_36_8, i_99, i_40, i_62, i_82, i_0, i_11, i_30, i_71, i_20, i_113, i_168, n_K_I, n_K_J, n_K_R, n_K_N, n_N_I, n_N_J, n_N_R, n_N_N, n_R_I, n_R_J, n_R_R, n_R_N, n_I_J, n_I_R, n_I_I, n_I_N, n_n_I, n_n_J, n_n_R, n_n_N, gn_S0, if_true, if_false, Nat.add_assoc, Nat.reduceAdd, Nat.add_left_cancel_iff, Nat.add_right_cancel_iff, Nat.reduceEqDiff, Nat.left_eq_add, Nat.add_eq_left, and_self, false_and, and_false, true_and, and_true]
set_option maxHeartbeats 1000000 in
set_option maxRecDepth 20000 in
theorem v1_56 (G : gG) (j : Nat) : gI (gS1 G) (gB G + 56) j = if j = 255 then -1 else if j = 248 then 12 else 0 := by
  simp only [gS1, i_36_4, i_36_8, i_99, i_40, i_62, i_82, i_0, i_11, i_30, i_71, i_20, i_113, i_168, n_K_I, n_K_J, n_K_R, n_K_N, n_N_I, n_N_J, n_N_R, n_N_N, n_R_I, n_R_J, n_R_R, n_R_N, n_I_J, n_I_R, n_I_I, n_I_N, n_n_I, n_n_J, n_n_R, n_n_N, gn_S0, if_true, if_false, Nat.add_assoc, Nat.reduceAdd, Nat.add_left_cancel_iff, Nat.add_right_cancel_iff, Nat.reduceEqDiff, Nat.left_eq_add, Nat.add_eq_left, and_self, false_and, and_false, true_and, and_true]
def wF (j : Nat) : Int32 := if j = 67 then 32 else if j = 66 then 121 else if j = 65 then 97 else if j = 64 then 100 else if j = 63 then 32 else if j = 62 then 114 else if j = 61 then 117 else if j = 60 then 111 else if j = 59 then 104 else if j = 58 then 32 else if j = 57 then 114 else if j = 56 then 111 else if j = 55 then 111 else if j = 54 then 100 else if j = 53 then 32 else if j = 52 then 100 else if j = 51 then 114 else if j = 50 then 97 else if j = 49 then 121 else if j = 48 then 32 else if j = 47 then 97 else if j = 46 then 101 else if j = 45 then 114 else if j = 44 then 97 else if j = 43 then 32 else if j = 42 then 114 else if j = 41 then 101 else if j = 40 then 104 else if j = 39 then 116 else if j = 38 then 111 else if j = 37 then 32 else if j = 36 then 107 else if j = 35 then 110 else if j = 34 then 97 else if j = 33 then 114 else if j = 32 then 32 else if j = 31 then 111 else if j = 30 then 116 else if j = 29 then 32 else if j = 28 then 109 else if j = 27 then 111 else if j = 26 then 114 else if j = 25 then 102 else if j = 24 then 32 else if j = 23 then 116 else if j = 22 then 111 else if j = 21 then 110 else if j = 20 then 32 else if j = 19 then 100 else if j = 18 then 110 else if j = 17 then 97 else if j = 16 then 32 else if j = 15 then 114 else if j = 14 then 111 else if j = 13 then 32 else if j = 12 then 102 else if j = 11 then 105 else if j = 10 then 32 else if j = 9 then 115 else if j = 8 then 114 else if j = 7 then 97 else if j = 6 then 98 else if j = 5 then 32 else if j = 4 then 115 else if j = 3 then 101 else if j = 2 then 107 else if j = 1 then 97 else if j = 0 then 116 else 0
set_option maxHeartbeats 1000000 in
set_option maxRecDepth 20000 in
theorem v1_59 (G : gG) (j : Nat) : gI (gS1 G) (gB G + 59) j = wF j := by
  simp only [gS1, i_36_4, i_36_8, i_99, i_40, i_62, i_82, i_0, i_11, i_30, i_71, i_20, i_113, i_168, n_K_I, n_K_J, n_K_R, n_K_N, n_N_I, n_N_J, n_N_R, n_N_N, n_R_I, n_R_J, n_R_R, n_R_N, n_I_J, n_I_R, n_I_I, n_I_N, n_n_I, n_n_J, n_n_R, n_n_N, gn_S0, if_true, if_false, Nat.add_assoc, Nat.reduceAdd, Nat.add_left_cancel_iff, Nat.add_right_cancel_iff, Nat.reduceEqDiff, Nat.left_eq_add, Nat.add_eq_left, and_self, false_and, and_false, true_and, and_true, wF]
set_option maxHeartbeats 1000000 in
set_option maxRecDepth 20000 in
theorem wF_ok : ∀ j, j < 68 → wF j = nI (wdL.getD j 0) := by decide +kernel
set_option maxHeartbeats 1000000 in
set_option maxRecDepth 20000 in
theorem v1_r8 (G : gG) (j : Nat) : gR (gS1 G) (gB G + 8) j = none := by
  simp only [gS1, i_36_4, i_36_8, i_99, i_40, i_62, i_82, i_0, i_11, i_30, i_71, i_20, i_113, i_168, n_K_I, n_K_J, n_K_R, n_K_N, n_N_I, n_N_J, n_N_R, n_N_N, n_R_I, n_R_J, n_R_R, n_R_N, n_I_J, n_I_R, n_I_I, n_I_N, n_n_I, n_n_J, n_n_R, n_n_N, gn_S0, if_true, if_false, Nat.add_assoc, Nat.reduceAdd, Nat.add_left_cancel_iff, Nat.add_right_cancel_iff, Nat.reduceEqDiff, Nat.left_eq_add, Nat.add_eq_left, and_self, false_and, and_false, true_and, and_true]
set_option maxHeartbeats 1000000 in
set_option maxRecDepth 20000 in
theorem v1_r18 (G : gG) (j : Nat) : gR (gS1 G) (gB G + 18) j = none := by
  simp only [gS1, i_36_4, i_36_8, i_99, i_40, i_62, i_82, i_0, i_11, i_30, i_71, i_20, i_113, i_168, n_K_I, n_K_J, n_K_R, n_K_N, n_N_I, n_N_J, n_N_R, n_N_N, n_R_I, n_R_J, n_R_R, n_R_N, n_I_J, n_I_R, n_I_I, n_I_N, n_n_I, n_n_J, n_n_R, n_n_N, gn_S0, if_true, if_false, Nat.add_assoc, Nat.reduceAdd, Nat.add_left_cancel_iff, Nat.add_right_cancel_iff, Nat.reduceEqDiff, Nat.left_eq_add, Nat.add_eq_left, and_self, false_and, and_false, true_and, and_true]
set_option maxHeartbeats 1000000 in
set_option maxRecDepth 20000 in
theorem v1_r45 (G : gG) : gR (gS1 G) (gB G + 45) 5 = some (gB G + 49) := by
  simp only [gS1, i_36_4, i_36_8, i_99, i_40, i_62, i_82, i_0, i_11, i_30, i_71, i_20, i_113, i_168, n_K_I, n_K_J, n_K_R, n_K_N, n_N_I, n_N_J, n_N_R, n_N_N, n_R_I, n_R_J, n_R_R, n_R_N, n_I_J, n_I_R, n_I_I, n_I_N, n_n_I, n_n_J, n_n_R, n_n_N, gn_S0, if_true, if_false, Nat.add_assoc, Nat.reduceAdd, Nat.add_left_cancel_iff, Nat.add_right_cancel_iff, Nat.reduceEqDiff, Nat.left_eq_add, Nat.add_eq_left, and_self, false_and, and_false, true_and, and_true]
set_option maxHeartbeats 1000000 in
set_option maxRecDepth 20000 in
theorem v1_n (G : gG) : gn (gS1 G) = gB G + 80 := by
  simp only [gS1, i_36_4, i_36_8, i_99, i_40, i_62, i_82, i_0, i_11, i_30, i_71, i_20, i_113, i_168, n_K_I, n_K_J, n_K_R, n_K_N, n_N_I, n_N_J, n_N_R, n_N_N, n_R_I, n_R_J, n_R_R, n_R_N, n_I_J, n_I_R, n_I_I, n_I_N, n_n_I, n_n_J, n_n_R, n_n_N, gn_S0, if_true, if_false, Nat.add_assoc, Nat.reduceAdd, Nat.add_left_cancel_iff, Nat.add_right_cancel_iff, Nat.reduceEqDiff, Nat.left_eq_add, Nat.add_eq_left, and_self, false_and, and_false, true_and, and_true]
set_option maxHeartbeats 1000000 in
set_option maxRecDepth 20000 in
theorem v1_w (G : gG) : gw (gS1 G) = 68590 := by
  simp only [gS1, i_36_4, i_36_8, i_99, i_40, i_62, i_82, i_0, i_11, i_30, i_71, i_20, i_113, i_168, n_w_I, n_w_J, n_w_R, n_w_N]
  rfl
set_option maxHeartbeats 1000000 in
set_option maxRecDepth 20000 in
theorem v1_T (G : gG) : gT (gS1 G) = gT (gS0 G) := by
  simp only [gS1, i_36_4, i_36_8, i_99, i_40, i_62, i_82, i_0, i_11, i_30, i_71, i_20, i_113, i_168, n_T_I, n_T_J, n_T_R, n_T_N]
set_option maxHeartbeats 1000000 in
set_option maxRecDepth 20000 in
theorem v1_lt (G : gG) {a : Nat} (h : a < gB G) : gK (gS1 G) a = gK (gS0 G) a ∧ gN (gS1 G) a = gN (gS0 G) a ∧ ∀ j, gI (gS1 G) a j = gI (gS0 G) a j := by
  have h0 : (a = gB G) = False := eq_false (by omega)
  have h1 : ∀ k, (a = gB G + k) = False := fun k => eq_false (by omega)
  refine ⟨?_, ?_, fun j => ?_⟩
  · simp only [gS1, i_36_4, i_36_8, i_99, i_40, i_62, i_82, i_0, i_11, i_30, i_71, i_20, i_113, i_168, n_K_I, n_K_J, n_K_R, n_K_N, n_N_I, n_N_J, n_N_R, n_N_N, n_R_I, n_R_J, n_R_R, n_R_N, n_I_J, n_I_R, n_I_I, n_I_N, n_n_I, n_n_J, n_n_R, n_n_N, gn_S0, if_true, if_false, Nat.add_assoc, Nat.reduceAdd, Nat.add_left_cancel_iff, Nat.add_right_cancel_iff, Nat.reduceEqDiff, Nat.left_eq_add, Nat.add_eq_left, and_self, false_and, and_false, true_and, and_true, h0, h1]
  · simp only [gS1, i_36_4, i_36_8, i_99, i_40, i_62, i_82, i_0, i_11, i_30, i_71, i_20, i_113, i_168, n_K_I, n_K_J, n_K_R, n_K_N, n_N_I, n_N_J, n_N_R, n_N_N, n_R_I, n_R_J, n_R_R, n_R_N, n_I_J, n_I_R, n_I_I, n_I_N, n_n_I, n_n_J, n_n_R, n_n_N, gn_S0, if_true, if_false, Nat.add_assoc, Nat.reduceAdd, Nat.add_left_cancel_iff, Nat.add_right_cancel_iff, Nat.reduceEqDiff, Nat.left_eq_add, Nat.add_eq_left, and_self, false_and, and_false, true_and, and_true, h0, h1]
  · simp only [gS1, i_36_4, i_36_8, i_99, i_40, i_62, i_82, i_0, i_11, i_30, i_71, i_20, i_113, i_168, n_K_I, n_K_J, n_K_R, n_K_N, n_N_I, n_N_J, n_N_R, n_N_N, n_R_I, n_R_J, n_R_R, n_R_N, n_I_J, n_I_R, n_I_I, n_I_N, n_n_I, n_n_J, n_n_R, n_n_N, gn_S0, if_true, if_false, Nat.add_assoc, Nat.reduceAdd, Nat.add_left_cancel_iff, Nat.add_right_cancel_iff, Nat.reduceEqDiff, Nat.left_eq_add, Nat.add_eq_left, and_self, false_and, and_false, true_and, and_true, h0, h1]
