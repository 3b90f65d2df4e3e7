set_option maxHeartbeats 1000000 in
set_option maxRecDepth 20000 in
theorem k1_0 (G : gG) : gK (gS1 G) (gB G + 0) = 12 ∧ gN (gS1 G) (gB G + 0) = 0 := by
  simp only [gS1, i_36_4, i_36_8, i_99, i_40, i_62, i_82, i_0, i_11, i_30, i_71, i_20, i_113, i_168, n_K_I, n_K_J, n_K_R, n_K_N, n_N_I, n_N_J, n_N_R, n_N_N, n_R_I, n_R_J, n_R_R, n_R_N, n_I_J, n_I_R, n_I_I, n_I_N, n_n_I, n_n_J, n_n_R, n_n_N, gn_S0, if_true, if_false, Nat.add_assoc, Nat.reduceAdd, Nat.add_left_cancel_iff, Nat.add_right_cancel_iff, Nat.reduceEqDiff, Nat.left_eq_add, Nat.add_eq_left, and_self, false_and, and_false, true_and, and_true]
set_option maxHeartbeats 1000000 in
set_option maxRecDepth 20000 in
theorem k1_1 (G : gG) : gK (gS1 G) (gB G + 1) = 11 ∧ gN (gS1 G) (gB G + 1) = 0 := by
  simp only [gS1, i_36_4, i_36_8, i_99, i_40, i_62, i_82, i_0, i_11, i_30, i_71, i_20, i_113, i_168, n_K_I, n_K_J, n_K_R, n_K_N, n_N_I, n_N_J, n_N_R, n_N_N, n_R_I, n_R_J, n_R_R, n_R_N, n_I_J, n_I_R, n_I_I, n_I_N, n_n_I, n_n_J, n_n_R, n_n_N, gn_S0, if_true, if_false, Nat.add_assoc, Nat.reduceAdd, Nat.add_left_cancel_iff, Nat.add_right_cancel_iff, Nat.reduceEqDiff, Nat.left_eq_add, Nat.add_eq_left, and_self, false_and, and_false, true_and, and_true]
set_option maxHeartbeats 1000000 in
set_option maxRecDepth 20000 in
theorem k1_2 (G : gG) : gK (gS1 G) (gB G + 2) = 21 ∧ gN (gS1 G) (gB G + 2) = 12 := by
  simp only [gS1, i_36_4, i_36_8, i_99, i_40, i_62, i_82, i_0, i_11, i_30, i_71, i_20, i_113, i_168, n_K_I, n_K_J, n_K_R, n_K_N, n_N_I, n_N_J, n_N_R, n_N_N, n_R_I, n_R_J, n_R_R, n_R_N, n_I_J, n_I_R, n_I_I, n_I_N, n_n_I, n_n_J, n_n_R, n_n_N, gn_S0, if_true, if_false, Nat.add_assoc, Nat.reduceAdd, Nat.add_left_cancel_iff, Nat.add_right_cancel_iff, Nat.reduceEqDiff, Nat.left_eq_add, Nat.add_eq_left, and_self, false_and, and_false, true_and, and_true]
set_option maxHeartbeats 1000000 in
set_option maxRecDepth 20000 in
theorem k1_3 (G : gG) : gK (gS1 G) (gB G + 3) = 21 ∧ gN (gS1 G) (gB G + 3) = 12 := by
  simp only [gS1, i_36_4, i_36_8, i_99, i_40, i_62, i_82, i_0, i_11, i_30, i_71, i_20, i_113, i_168, n_K_I, n_K_J, n_K_R, n_K_N, n_N_I, n_N_J, n_N_R, n_N_N, n_R_I, n_R_J, n_R_R, n_R_N, n_I_J, n_I_R, n_I_I, n_I_N, n_n_I, n_n_J, n_n_R, n_n_N, gn_S0, if_true, if_false, Nat.add_assoc, Nat.reduceAdd, Nat.add_left_cancel_iff, Nat.add_right_cancel_iff, Nat.reduceEqDiff, Nat.left_eq_add, Nat.add_eq_left, and_self, false_and, and_false, true_and, and_true]
set_option maxHeartbeats 1000000 in
set_option maxRecDepth 20000 in
theorem k1_4 (G : gG) : gK (gS1 G) (gB G + 4) = 21 ∧ gN (gS1 G) (gB G + 4) = 12 := by
  simp only [gS1, i_36_4, i_36_8, i_99, i_40, i_62, i_82, i_0, i_11, i_30, i_71, i_20, i_113, i_168, n_K_I, n_K_J, n_K_R, n_K_N, n_N_I, n_N_J, n_N_R, n_N_N, n_R_I, n_R_J, n_R_R, n_R_N, n_I_J, n_I_R, n_I_I, n_I_N, n_n_I, n_n_J, n_n_R, n_n_N, gn_S0, if_true, if_false, Nat.add_assoc, Nat.reduceAdd, Nat.add_left_cancel_iff, Nat.add_right_cancel_iff, Nat.reduceEqDiff, Nat.left_eq_add, Nat.add_eq_left, and_self, false_and, and_false, true_and, and_true]
set_option maxHeartbeats 1000000 in
set_option maxRecDepth 20000 in
theorem k1_5 (G : gG) : gK (gS1 G) (gB G + 5) = 21 ∧ gN (gS1 G) (gB G + 5) = 12 := by
  simp only [gS1, i_36_4, i_36_8, i_99, i_40, i_62, i_82, i_0, i_11, i_30, i_71, i_20, i_113, i_168, n_K_I, n_K_J, n_K_R, n_K_N, n_N_I, n_N_J, n_N_R, n_N_N, n_R_I, n_R_J, n_R_R, n_R_N, n_I_J, n_I_R, n_I_I, n_I_N, n_n_I, n_n_J, n_n_R, n_n_N, gn_S0, if_true, if_false, Nat.add_assoc, Nat.reduceAdd, Nat.add_left_cancel_iff, Nat.add_right_cancel_iff, Nat.reduceEqDiff, Nat.left_eq_add, Nat.add_eq_left, and_self, false_and, and_false, true_and, and_true]
set_option maxHeartbeats 1000000 in
set_option maxRecDepth 20000 in
theorem k1_6 (G : gG) : gK (gS1 G) (gB G + 6) = 21 ∧ gN (gS1 G) (gB G + 6) = 12 := by
  simp only [gS1, i_36_4, i_36_8, i_99, i_40, i_62, i_82, i_0, i_11, i_30, i_71, i_20, i_113, i_168, n_K_I, n_K_J, n_K_R, n_K_N, n_N_I, n_N_J, n_N_R, n_N_N, n_R_I, n_R_J, n_R_R, n_R_N, n_I_J, n_I_R, n_I_I, n_I_N, n_n_I, n_n_J, n_n_R, n_n_N, gn_S0, if_true, if_false, Nat.add_assoc, Nat.reduceAdd, Nat.add_left_cancel_iff, Nat.add_right_cancel_iff, Nat.reduceEqDiff, Nat.left_eq_add, Nat.add_eq_left, and_self, false_and, and_false, true_and, and_true]
set_option maxHeartbeats 1000000 in
set_option maxRecDepth 20000 in
theorem k1_7 (G : gG) : gK (gS1 G) (gB G + 7) = 21 ∧ gN (gS1 G) (gB G + 7) = 12 := by
  simp only [gS1, i_36_4, i_36_8, i_99, i_40, i_62, i_82, i_0, i_11, i_30, i_71, i_20, i_113, i_168, n_K_I, n_K_J, n_K_R, n_K_N, n_N_I, n_N_J, n_N_R, n_N_N, n_R_I, n_R_J, n_R_R, n_R_N, n_I_J, n_I_R, n_I_I, n_I_N, n_n_I, n_n_J, n_n_R, n_n_N, gn_S0, if_true, if_false, Nat.add_assoc, Nat.reduceAdd, Nat.add_left_cancel_iff, Nat.add_right_cancel_iff, Nat.reduceEqDiff, Nat.left_eq_add, Nat.add_eq_left, and_self, false_and, and_false, true_and, and_true]
set_option maxHeartbeats 1000000 in
set_option maxRecDepth 20000 in
theorem k1_8 (G : gG) : gK (gS1 G) (gB G + 8) = 24 ∧ gN (gS1 G) (gB G + 8) = 6 := by
  simp only [gS1, i_36_4, i_36_8, i_99, i_40, i_62, i_82, i_0, i_11, i_30, i_71, i_20, i_113, i_168, n_K_I, n_K_J, n_K_R, n_K_N, n_N_I, n_N_J, n_N_R, n_N_N, n_R_I, n_R_J, n_R_R, n_R_N, n_I_J, n_I_R, n_I_I, n_I_N, n_n_I, n_n_J, n_n_R, n_n_N, gn_S0, if_true, if_false, Nat.add_assoc, Nat.reduceAdd, Nat.add_left_cancel_iff, Nat.add_right_cancel_iff, Nat.reduceEqDiff, Nat.left_eq_add, Nat.add_eq_left, and_self, false_and, and_false, true_and, and_true]
set_option maxHeartbeats 1000000 in
set_option maxRecDepth 20000 in
theorem k1_9 (G : gG) : gK (gS1 G) (gB G + 9) = 6 ∧ gN (gS1 G) (gB G + 9) = 0 := by
  simp only [gS1, i_36_4, i_36_8, i_99, i_40, i_62, i_82, i_0, i_11, i_30, i_71, i_20, i_113, i_168, n_K_I, n_K_J, n_K_R, n_K_N, n_N_I, n_N_J, n_N_R, n_N_N, n_R_I, n_R_J, n_R_R, n_R_N, n_I_J, n_I_R, n_I_I, n_I_N, n_n_I, n_n_J, n_n_R, n_n_N, gn_S0, if_true, if_false, Nat.add_assoc, Nat.reduceAdd, Nat.add_left_cancel_iff, Nat.add_right_cancel_iff, Nat.reduceEqDiff, Nat.left_eq_add, Nat.add_eq_left, and_self, false_and, and_false, true_and, and_true]
set_option maxHeartbeats 1000000 in
set_option maxRecDepth 20000 in
theorem k1_10 (G : gG) : gK (gS1 G) (gB G + 10) = 21 ∧ gN (gS1 G) (gB G + 10) = 4 := by
  simp only [gS1, i_36_4, i_36_8, i_99, i_40, i_62, i_82, i_0, i_11, i_30, i_71, i_20, i_113, i_168, n_K_I, n_K_J, n_K_R, n_K_N, n_N_I, n_N_J, n_N_R, n_N_N, n_R_I, n_R_J, n_R_R, n_R_N, n_I_J, n_I_R, n_I_I, n_I_N, n_n_I, n_n_J, n_n_R, n_n_N, gn_S0, if_true, if_false, Nat.add_assoc, Nat.reduceAdd, Nat.add_left_cancel_iff, Nat.add_right_cancel_iff, Nat.reduceEqDiff, Nat.left_eq_add, Nat.add_eq_left, and_self, false_and, and_false, true_and, and_true]
set_option maxHeartbeats 1000000 in
set_option maxRecDepth 20000 in
theorem k1_11 (G : gG) : gK (gS1 G) (gB G + 11) = 21 ∧ gN (gS1 G) (gB G + 11) = 4 := by
  simp only [gS1, i_36_4, i_36_8, i_99, i_40, i_62, i_82, i_0, i_11, i_30, i_71, i_20, i_113, i_168, n_K_I, n_K_J, n_K_R, n_K_N, n_N_I, n_N_J, n_N_R, n_N_N, n_R_I, n_R_J, n_R_R, n_R_N, n_I_J, n_I_R, n_I_I, n_I_N, n_n_I, n_n_J, n_n_R, n_n_N, gn_S0, if_true, if_false, Nat.add_assoc, Nat.reduceAdd, Nat.add_left_cancel_iff, Nat.add_right_cancel_iff, Nat.reduceEqDiff, Nat.left_eq_add, Nat.add_eq_left, and_self, false_and, and_false, true_and, and_true]
set_option maxHeartbeats 1000000 in
set_option maxRecDepth 20000 in
theorem k1_12 (G : gG) : gK (gS1 G) (gB G + 12) = 6 ∧ gN (gS1 G) (gB G + 12) = 0 := by
  simp only [gS1, i_36_4, i_36_8, i_99, i_40, i_62, i_82, i_0, i_11, i_30, i_71, i_20, i_113, i_168, n_K_I, n_K_J, n_K_R, n_K_N, n_N_I, n_N_J, n_N_R, n_N_N, n_R_I, n_R_J, n_R_R, n_R_N, n_I_J, n_I_R, n_I_I, n_I_N, n_n_I, n_n_J, n_n_R, n_n_N, gn_S0, if_true, if_false, Nat.add_assoc, Nat.reduceAdd, Nat.add_left_cancel_iff, Nat.add_right_cancel_iff, Nat.reduceEqDiff, Nat.left_eq_add, Nat.add_eq_left, and_self, false_and, and_false, true_and, and_true]
set_option maxHeartbeats 1000000 in
set_option maxRecDepth 20000 in
theorem k1_13 (G : gG) : gK (gS1 G) (gB G + 13) = 21 ∧ gN (gS1 G) (gB G + 13) = 4 := by
  simp only [gS1, i_36_4, i_36_8, i_99, i_40, i_62, i_82, i_0, i_11, i_30, i_71, i_20, i_113, i_168, n_K_I, n_K_J, n_K_R, n_K_N, n_N_I, n_N_J, n_N_R, n_N_N, n_R_I, n_R_J, n_R_R, n_R_N, n_I_J, n_I_R, n_I_I, n_I_N, n_n_I, n_n_J, n_n_R, n_n_N, gn_S0, if_true, if_false, Nat.add_assoc, Nat.reduceAdd, Nat.add_left_cancel_iff, Nat.add_right_cancel_iff, Nat.reduceEqDiff, Nat.left_eq_add, Nat.add_eq_left, and_self, false_and, and_false, true_and, and_true]
set_option maxHeartbeats 1000000 in
set_option maxRecDepth 20000 in
theorem k1_14 (G : gG) : gK (gS1 G) (gB G + 14) = 21 ∧ gN (gS1 G) (gB G + 14) = 4 := by
  simp only [gS1, i_36_4, i_36_8, i_99, i_40, i_62, i_82, i_0, i_11, i_30, i_71, i_20, i_113, i_168, n_K_I, n_K_J, n_K_R, n_K_N, n_N_I, n_N_J, n_N_R, n_N_N, n_R_I, n_R_J, n_R_R, n_R_N, n_I_J, n_I_R, n_I_I, n_I_N, n_n_I, n_n_J, n_n_R, n_n_N, gn_S0, if_true, if_false, Nat.add_assoc, Nat.reduceAdd, Nat.add_left_cancel_iff, Nat.add_right_cancel_iff, Nat.reduceEqDiff, Nat.left_eq_add, Nat.add_eq_left, and_self, false_and, and_false, true_and, and_true]
set_option maxHeartbeats 1000000 in
set_option maxRecDepth 20000 in
theorem k1_15 (G : gG) : gK (gS1 G) (gB G + 15) = 6 ∧ gN (gS1 G) (gB G + 15) = 0 := by
  simp only [gS1, i_36_4, i_36_8, i_99, i_40, i_62, i_82, i_0, i_11, i_30, i_71, i_20, i_113, i_168, n_K_I, n_K_J, n_K_R, n_K_N, n_N_I, n_N_J, n_N_R, n_N_N, n_R_I, n_R_J, n_R_R, n_R_N, n_I_J, n_I_R, n_I_I, n_I_N, n_n_I, n_n_J, n_n_R, n_n_N, gn_S0, if_true, if_false, Nat.add_assoc, Nat.reduceAdd, Nat.add_left_cancel_iff, Nat.add_right_cancel_iff, Nat.reduceEqDiff, Nat.left_eq_add, Nat.add_eq_left, and_self, false_and, and_false, true_and, and_true]
set_option maxHeartbeats 1000000 in
set_option maxRecDepth 20000 in
theorem k1_16 (G : gG) : gK (gS1 G) (gB G + 16) = 21 ∧ gN (gS1 G) (gB G + 16) = 8 := by
  simp only [gS1, i_36_4, i_36_8, i_99, i_40, i_62, i_82, i_0, i_11, i_30, i_71, i_20, i_113, i_168, n_K_I, n_K_J, n_K_R, n_K_N, n_N_I, n_N_J, n_N_R, n_N_N, n_R_I, n_R_J, n_R_R, n_R_N, n_I_J, n_I_R, n_I_I, n_I_N, n_n_I, n_n_J, n_n_R, n_n_N, gn_S0, if_true, if_false, Nat.add_assoc, Nat.reduceAdd, Nat.add_left_cancel_iff, Nat.add_right_cancel_iff, Nat.reduceEqDiff, Nat.left_eq_add, Nat.add_eq_left, and_self, false_and, and_false, true_and, and_true]
set_option maxHeartbeats 1000000 in
set_option maxRecDepth 20000 in
theorem k1_17 (G : gG) : gK (gS1 G) (gB G + 17) = 21 ∧ gN (gS1 G) (gB G + 17) = 8 := by
  simp only [gS1, i_36_4, i_36_8, i_99, i_40, i_62, i_82, i_0, i_11, i_30, i_71, i_20, i_113, i_168, n_K_I, n_K_J, n_K_R, n_K_N, n_N_I, n_N_J, n_N_R, n_N_N, n_R_I, n_R_J, n_R_R, n_R_N, n_I_J, n_I_R, n_I_I, n_I_N, n_n_I, n_n_J, n_n_R, n_n_N, gn_S0, if_true, if_false, Nat.add_assoc, Nat.reduceAdd, Nat.add_left_cancel_iff, Nat.add_right_cancel_iff, Nat.reduceEqDiff, Nat.left_eq_add, Nat.add_eq_left, and_self, false_and, and_false, true_and, and_true]
set_option maxHeartbeats 1000000 in
set_option maxRecDepth 20000 in
theorem k1_18 (G : gG) : gK (gS1 G) (gB G + 18) = 25 ∧ gN (gS1 G) (gB G + 18) = 2 := by
  simp only [gS1, i_36_4, i_36_8, i_99, i_40, i_62, i_82, i_0, i_11, i_30, i_71, i_20, i_113, i_168, n_K_I, n_K_J, n_K_R, n_K_N, n_N_I, n_N_J, n_N_R, n_N_N, n_R_I, n_R_J, n_R_R, n_R_N, n_I_J, n_I_R, n_I_I, n_I_N, n_n_I, n_n_J, n_n_R, n_n_N, gn_S0, if_true, if_false, Nat.add_assoc, Nat.reduceAdd, Nat.add_left_cancel_iff, Nat.add_right_cancel_iff, Nat.reduceEqDiff, Nat.left_eq_add, Nat.add_eq_left, and_self, false_and, and_false, true_and, and_true]
set_option maxHeartbeats 1000000 in
set_option maxRecDepth 20000 in
theorem k1_19 (G : gG) : gK (gS1 G) (gB G + 19) = 21 ∧ gN (gS1 G) (gB G + 19) = 400 := by
  simp only [gS1, i_36_4, i_36_8, i_99, i_40, i_62, i_82, i_0, i_11, i_30, i_71, i_20, i_113, i_168, n_K_I, n_K_J, n_K_R, n_K_N, n_N_I, n_N_J, n_N_R, n_N_N, n_R_I, n_R_J, n_R_R, n_R_N, n_I_J, n_I_R, n_I_I, n_I_N, n_n_I, n_n_J, n_n_R, n_n_N, gn_S0, if_true, if_false, Nat.add_assoc, Nat.reduceAdd, Nat.add_left_cancel_iff, Nat.add_right_cancel_iff, Nat.reduceEqDiff, Nat.left_eq_add, Nat.add_eq_left, and_self, false_and, and_false, true_and, and_true]
set_option maxHeartbeats 1000000 in
set_option maxRecDepth 20000 in
theorem k1_20 (G : gG) : gK (gS1 G) (gB G + 20) = 7 ∧ gN (gS1 G) (gB G + 20) = 0 := by
  simp only [gS1, i_36_4, i_36_8, i_99, i_40, i_62, i_82, i_0, i_11, i_30, i_71, i_20, i_113, i_168, n_K_I, n_K_J, n_K_R, n_K_N, n_N_I, n_N_J, n_N_R, n_N_N, n_R_I, n_R_J, n_R_R, n_R_N, n_I_J, n_I_R, n_I_I, n_I_N, n_n_I, n_n_J, n_n_R, n_n_N, gn_S0, if_true, if_false, Nat.add_assoc, Nat.reduceAdd, Nat.add_left_cancel_iff, Nat.add_right_cancel_iff, Nat.reduceEqDiff, Nat.left_eq_add, Nat.add_eq_left, and_self, false_and, and_false, true_and, and_true]
set_option maxHeartbeats 1000000 in
set_option maxRecDepth 20000 in
theorem k1_21 (G : gG) : gK (gS1 G) (gB G + 21) = 21 ∧ gN (gS1 G) (gB G + 21) = 400 := by
  simp only [gS1, i_36_4, i_36_8, i_99, i_40, i_62, i_82, i_0, i_11, i_30, i_71, i_20, i_113, i_168, n_K_I, n_K_J, n_K_R, n_K_N, n_N_I, n_N_J, n_N_R, n_N_N, n_R_I, n_R_J, n_R_R, n_R_N, n_I_J, n_I_R, n_I_I, n_I_N, n_n_I, n_n_J, n_n_R, n_n_N, gn_S0, if_true, if_false, Nat.add_assoc, Nat.reduceAdd, Nat.add_left_cancel_iff, Nat.add_right_cancel_iff, Nat.reduceEqDiff, Nat.left_eq_add, Nat.add_eq_left, and_self, false_and, and_false, true_and, and_true]
set_option maxHeartbeats 1000000 in
set_option maxRecDepth 20000 in
theorem k1_22 (G : gG) : gK (gS1 G) (gB G + 22) = 21 ∧ gN (gS1 G) (gB G + 22) = 12 := by
  simp only [gS1, i_36_4, i_36_8, i_99, i_40, i_62, i_82, i_0, i_11, i_30, i_71, i_20, i_113, i_168, n_K_I, n_K_J, n_K_R, n_K_N, n_N_I, n_N_J, n_N_R, n_N_N, n_R_I, n_R_J, n_R_R, n_R_N, n_I_J, n_I_R, n_I_I, n_I_N, n_n_I, n_n_J, n_n_R, n_n_N, gn_S0, if_true, if_false, Nat.add_assoc, Nat.reduceAdd, Nat.add_left_cancel_iff, Nat.add_right_cancel_iff, Nat.reduceEqDiff, Nat.left_eq_add, Nat.add_eq_left, and_self, false_and, and_false, true_and, and_true]
set_option maxHeartbeats 1000000 in
set_option maxRecDepth 20000 in
theorem k1_23 (G : gG) : gK (gS1 G) (gB G + 23) = 21 ∧ gN (gS1 G) (gB G + 23) = 12 := by
  simp only [gS1, i_36_4, i_36_8, i_99, i_40, i_62, i_82, i_0, i_11, i_30, i_71, i_20, i_113, i_168, n_K_I, n_K_J, n_K_R, n_K_N, n_N_I, n_N_J, n_N_R, n_N_N, n_R_I, n_R_J, n_R_R, n_R_N, n_I_J, n_I_R, n_I_I, n_I_N, n_n_I, n_n_J, n_n_R, n_n_N, gn_S0, if_true, if_false, Nat.add_assoc, Nat.reduceAdd, Nat.add_left_cancel_iff, Nat.add_right_cancel_iff, Nat.reduceEqDiff, Nat.left_eq_add, Nat.add_eq_left, and_self, false_and, and_false, true_and, and_true]
set_option maxHeartbeats 1000000 in
set_option maxRecDepth 20000 in
theorem k1_24 (G : gG) : gK (gS1 G) (gB G + 24) = 21 ∧ gN (gS1 G) (gB G + 24) = 5 := by
  simp only [gS1, i_36_4, i_36_8, i_99, i_40, i_62, i_82, i_0, i_11, i_30, i_71, i_20, i_113, i_168, n_K_I, n_K_J, n_K_R, n_K_N, n_N_I, n_N_J, n_N_R, n_N_N, n_R_I, n_R_J, n_R_R, n_R_N, n_I_J, n_I_R, n_I_I, n_I_N, n_n_I, n_n_J, n_n_R, n_n_N, gn_S0, if_true, if_false, Nat.add_assoc, Nat.reduceAdd, Nat.add_left_cancel_iff, Nat.add_right_cancel_iff, Nat.reduceEqDiff, Nat.left_eq_add, Nat.add_eq_left, and_self, false_and, and_false, true_and, and_true]
set_option maxHeartbeats 1000000 in
set_option maxRecDepth 20000 in
theorem k1_25 (G : gG) : gK (gS1 G) (gB G + 25) = 10 ∧ gN (gS1 G) (gB G + 25) = 0 := by
  simp only [gS1, i_36_4, i_36_8, i_99, i_40, i_62, i_82, i_0, i_11, i_30, i_71, i_20, i_113, i_168, n_K_I, n_K_J, n_K_R, n_K_N, n_N_I, n_N_J, n_N_R, n_N_N, n_R_I, n_R_J, n_R_R, n_R_N, n_I_J, n_I_R, n_I_I, n_I_N, n_n_I, n_n_J, n_n_R, n_n_N, gn_S0, if_true, if_false, Nat.add_assoc, Nat.reduceAdd, Nat.add_left_cancel_iff, Nat.add_right_cancel_iff, Nat.reduceEqDiff, Nat.left_eq_add, Nat.add_eq_left, and_self, false_and, and_false, true_and, and_true]
set_option maxHeartbeats 1000000 in
set_option maxRecDepth 20000 in
theorem k1_26 (G : gG) : gK (gS1 G) (gB G + 26) = 8 ∧ gN (gS1 G) (gB G + 26) = 0 := by
  simp only [gS1, i_36_4, i_36_8, i_99, i_40, i_62, i_82, i_0, i_11, i_30, i_71, i_20, i_113, i_168, n_K_I, n_K_J, n_K_R, n_K_N, n_N_I, n_N_J, n_N_R, n_N_N, n_R_I, n_R_J, n_R_R, n_R_N, n_I_J, n_I_R, n_I_I, n_I_N, n_n_I, n_n_J, n_n_R, n_n_N, gn_S0, if_true, if_false, Nat.add_assoc, Nat.reduceAdd, Nat.add_left_cancel_iff, Nat.add_right_cancel_iff, Nat.reduceEqDiff, Nat.left_eq_add, Nat.add_eq_left, and_self, false_and, and_false, true_and, and_true]
set_option maxHeartbeats 1000000 in
set_option maxRecDepth 20000 in
theorem k1_27 (G : gG) : gK (gS1 G) (gB G + 27) = 21 ∧ gN (gS1 G) (gB G + 27) = 9 := by
  simp only [gS1, i_36_4, i_36_8, i_99, i_40, i_62, i_82, i_0, i_11, i_30, i_71, i_20, i_113, i_168, n_K_I, n_K_J, n_K_R, n_K_N, n_N_I, n_N_J, n_N_R, n_N_N, n_R_I, n_R_J, n_R_R, n_R_N, n_I_J, n_I_R, n_I_I, n_I_N, n_n_I, n_n_J, n_n_R, n_n_N, gn_S0, if_true, if_false, Nat.add_assoc, Nat.reduceAdd, Nat.add_left_cancel_iff, Nat.add_right_cancel_iff, Nat.reduceEqDiff, Nat.left_eq_add, Nat.add_eq_left, and_self, false_and, and_false, true_and, and_true]
set_option maxHeartbeats 1000000 in
set_option maxRecDepth 20000 in
theorem k1_28 (G : gG) : gK (gS1 G) (gB G + 28) = 22 ∧ gN (gS1 G) (gB G + 28) = 64 := by
  simp only [gS1, i_36_4, i_36_8, i_99, i_40, i_62, i_82, i_0, i_11, i_30, i_71, i_20, i_113, i_168, n_K_I, n_K_J, n_K_R, n_K_N, n_N_I, n_N_J, n_N_R, n_N_N, n_R_I, n_R_J, n_R_R, n_R_N, n_I_J, n_I_R, n_I_I, n_I_N, n_n_I, n_n_J, n_n_R, n_n_N, gn_S0, if_true, if_false, Nat.add_assoc, Nat.reduceAdd, Nat.add_left_cancel_iff, Nat.add_right_cancel_iff, Nat.reduceEqDiff, Nat.left_eq_add, Nat.add_eq_left, and_self, false_and, and_false, true_and, and_true]
set_option maxHeartbeats 1000000 in
set_option maxRecDepth 20000 in
theorem k1_29 (G : gG) : gK (gS1 G) (gB G + 29) = 21 ∧ gN (gS1 G) (gB G + 29) = 12 := by
  simp only [gS1, i_36_4, i_36_8, i_99, i_40, i_62, i_82, i_0, i_11, i_30, i_71, i_20, i_113, i_168, n_K_I, n_K_J, n_K_R, n_K_N, n_N_I, n_N_J, n_N_R, n_N_N, n_R_I, n_R_J, n_R_R, n_R_N, n_I_J, n_I_R, n_I_I, n_I_N, n_n_I, n_n_J, n_n_R, n_n_N, gn_S0, if_true, if_false, Nat.add_assoc, Nat.reduceAdd, Nat.add_left_cancel_iff, Nat.add_right_cancel_iff, Nat.reduceEqDiff, Nat.left_eq_add, Nat.add_eq_left, and_self, false_and, and_false, true_and, and_true]
set_option maxHeartbeats 1000000 in
set_option maxRecDepth 20000 in
theorem k1_30 (G : gG) : gK (gS1 G) (gB G + 30) = 21 ∧ gN (gS1 G) (gB G + 30) = 12 := by
  simp only [gS1, i_36_4, i_36_8, i_99, i_40, i_62, i_82, i_0, i_11, i_30, i_71, i_20, i_113, i_168, n_K_I, n_K_J, n_K_R, n_K_N, n_N_I, n_N_J, n_N_R, n_N_N, n_R_I, n_R_J, n_R_R, n_R_N, n_I_J, n_I_R, n_I_I, n_I_N, n_n_I, n_n_J, n_n_R, n_n_N, gn_S0, if_true, if_false, Nat.add_assoc, Nat.reduceAdd, Nat.add_left_cancel_iff, Nat.add_right_cancel_iff, Nat.reduceEqDiff, Nat.left_eq_add, Nat.add_eq_left, and_self, false_and, and_false, true_and, and_true]
set_option maxHeartbeats 1000000 in
set_option maxRecDepth 20000 in
theorem k1_31 (G : gG) : gK (gS1 G) (gB G + 31) = 21 ∧ gN (gS1 G) (gB G + 31) = 144 := by
  simp only [gS1, i_36_4, i_36_8, i_99, i_40, i_62, i_82, i_0, i_11, i_30, i_71, i_20, i_113, i_168, n_K_I, n_K_J, n_K_R, n_K_N, n_N_I, n_N_J, n_N_R, n_N_N, n_R_I, n_R_J, n_R_R, n_R_N, n_I_J, n_I_R, n_I_I, n_I_N, n_n_I, n_n_J, n_n_R, n_n_N, gn_S0, if_true, if_false, Nat.add_assoc, Nat.reduceAdd, Nat.add_left_cancel_iff, Nat.add_right_cancel_iff, Nat.reduceEqDiff, Nat.left_eq_add, Nat.add_eq_left, and_self, false_and, and_false, true_and, and_true]
set_option maxHeartbeats 1000000 in
set_option maxRecDepth 20000 in
theorem k1_32 (G : gG) : gK (gS1 G) (gB G + 32) = 21 ∧ gN (gS1 G) (gB G + 32) = 144 := by
  simp only [gS1, i_36_4, i_36_8, i_99, i_40, i_62, i_82, i_0, i_11, i_30, i_71, i_20, i_113, i_168, n_K_I, n_K_J, n_K_R, n_K_N, n_N_I, n_N_J, n_N_R, n_N_N, n_R_I, n_R_J, n_R_R, n_R_N, n_I_J, n_I_R, n_I_I, n_I_N, n_n_I, n_n_J, n_n_R, n_n_N, gn_S0, if_true, if_false, Nat.add_assoc, Nat.reduceAdd, Nat.add_left_cancel_iff, Nat.add_right_cancel_iff, Nat.reduceEqDiff, Nat.left_eq_add, Nat.add_eq_left, and_self, false_and, and_false, true_and, and_true]
set_option maxHeartbeats 1000000 in
set_option maxRecDepth 20000 in
theorem k1_33 (G : gG) : gK (gS1 G) (gB G + 33) = 1 ∧ gN (gS1 G) (gB G + 33) = 0 := by
  simp only [gS1, i_36_4, i_36_8, i_99, i_40, i_62, i_82, i_0, i_11, i_30, i_71, i_20, i_113, i_168, n_K_I, n_K_J, n_K_R, n_K_N, n_N_I, n_N_J, n_N_R, n_N_N, n_R_I, n_R_J, n_R_R, n_R_N, n_I_J, n_I_R, n_I_I, n_I_N, n_n_I, n_n_J, n_n_R, n_n_N, gn_S0, if_true, if_false, Nat.add_assoc, Nat.reduceAdd, Nat.add_left_cancel_iff, Nat.add_right_cancel_iff, Nat.reduceEqDiff, Nat.left_eq_add, Nat.add_eq_left, and_self, false_and, and_false, true_and, and_true]
set_option maxHeartbeats 1000000 in
set_option maxRecDepth 20000 in
theorem k1_34 (G : gG) : gK (gS1 G) (gB G + 34) = 21 ∧ gN (gS1 G) (gB G + 34) = 12 := by
  simp only [gS1, i_36_4, i_36_8, i_99, i_40, i_62, i_82, i_0, i_11, i_30, i_71, i_20, i_113, i_168, n_K_I, n_K_J, n_K_R, n_K_N, n_N_I, n_N_J, n_N_R, n_N_N, n_R_I, n_R_J, n_R_R, n_R_N, n_I_J, n_I_R, n_I_I, n_I_N, n_n_I, n_n_J, n_n_R, n_n_N, gn_S0, if_true, if_false, Nat.add_assoc, Nat.reduceAdd, Nat.add_left_cancel_iff, Nat.add_right_cancel_iff, Nat.reduceEqDiff, Nat.left_eq_add, Nat.add_eq_left, and_self, false_and, and_false, true_and, and_true]
set_option maxHeartbeats 1000000 in
set_option maxRecDepth 20000 in
theorem k1_35 (G : gG) : gK (gS1 G) (gB G + 35) = 21 ∧ gN (gS1 G) (gB G + 35) = 12 := by
  simp only [gS1, i_36_4, i_36_8, i_99, i_40, i_62, i_82, i_0, i_11, i_30, i_71, i_20, i_113, i_168, n_K_I, n_K_J, n_K_R, n_K_N, n_N_I, n_N_J, n_N_R, n_N_N, n_R_I, n_R_J, n_R_R, n_R_N, n_I_J, n_I_R, n_I_I, n_I_N, n_n_I, n_n_J, n_n_R, n_n_N, gn_S0, if_true, if_false, Nat.add_assoc, Nat.reduceAdd, Nat.add_left_cancel_iff, Nat.add_right_cancel_iff, Nat.reduceEqDiff, Nat.left_eq_add, Nat.add_eq_left, and_self, false_and, and_false, true_and, and_true]
set_option maxHeartbeats 1000000 in
set_option maxRecDepth 20000 in
theorem k1_36 (G : gG) : gK (gS1 G) (gB G + 36) = 21 ∧ gN (gS1 G) (gB G + 36) = 12 := by
  simp only [gS1, i_36_4, i_36_8, i_99, i_40, i_62, i_82, i_0, i_11, i_30, i_71, i_20, i_113, i_168, n_K_I, n_K_J, n_K_R, n_K_N, n_N_I, n_N_J, n_N_R, n_N_N, n_R_I, n_R_J, n_R_R, n_R_N, n_I_J, n_I_R, n_I_I, n_I_N, n_n_I, n_n_J, n_n_R, n_n_N, gn_S0, if_true, if_false, Nat.add_assoc, Nat.reduceAdd, Nat.add_left_cancel_iff, Nat.add_right_cancel_iff, Nat.reduceEqDiff, Nat.left_eq_add, Nat.add_eq_left, and_self, false_and, and_false, true_and, and_true]
set_option maxHeartbeats 1000000 in
set_option maxRecDepth 20000 in
theorem k1_37 (G : gG) : gK (gS1 G) (gB G + 37) = 2 ∧ gN (gS1 G) (gB G + 37) = 0 := by
  simp only [gS1, i_36_4, i_36_8, i_99, i_40, i_62, i_82, i_0, i_11, i_30, i_71, i_20, i_113, i_168, n_K_I, n_K_J, n_K_R, n_K_N, n_N_I, n_N_J, n_N_R, n_N_N, n_R_I, n_R_J, n_R_R, n_R_N, n_I_J, n_I_R, n_I_I, n_I_N, n_n_I, n_n_J, n_n_R, n_n_N, gn_S0, if_true, if_false, Nat.add_assoc, Nat.reduceAdd, Nat.add_left_cancel_iff, Nat.add_right_cancel_iff, Nat.reduceEqDiff, Nat.left_eq_add, Nat.add_eq_left, and_self, false_and, and_false, true_and, and_true]
set_option maxHeartbeats 1000000 in
set_option maxRecDepth 20000 in
theorem k1_38 (G : gG) : gK (gS1 G) (gB G + 38) = 21 ∧ gN (gS1 G) (gB G + 38) = 12 := by
  simp only [gS1, i_36_4, i_36_8, i_99, i_40, i_62, i_82, i_0, i_11, i_30, i_71, i_20, i_113, i_168, n_K_I, n_K_J, n_K_R, n_K_N, n_N_I, n_N_J, n_N_R, n_N_N, n_R_I, n_R_J, n_R_R, n_R_N, n_I_J, n_I_R, n_I_I, n_I_N, n_n_I, n_n_J, n_n_R, n_n_N, gn_S0, if_true, if_false, Nat.add_assoc, Nat.reduceAdd, Nat.add_left_cancel_iff, Nat.add_right_cancel_iff, Nat.reduceEqDiff, Nat.left_eq_add, Nat.add_eq_left, and_self, false_and, and_false, true_and, and_true]
set_option maxHeartbeats 1000000 in
set_option maxRecDepth 20000 in
theorem k1_39 (G : gG) : gK (gS1 G) (gB G + 39) = 21 ∧ gN (gS1 G) (gB G + 39) = 66 := by
  simp only [gS1, i_36_4, i_36_8, i_99, i_40, i_62, i_82, i_0, i_11, i_30, i_71, i_20, i_113, i_168, n_K_I, n_K_J, n_K_R, n_K_N, n_N_I, n_N_J, n_N_R, n_N_N, n_R_I, n_R_J, n_R_R, n_R_N, n_I_J, n_I_R, n_I_I, n_I_N, n_n_I, n_n_J, n_n_R, n_n_N, gn_S0, if_true, if_false, Nat.add_assoc, Nat.reduceAdd, Nat.add_left_cancel_iff, Nat.add_right_cancel_iff, Nat.reduceEqDiff, Nat.left_eq_add, Nat.add_eq_left, and_self, false_and, and_false, true_and, and_true]
set_option maxHeartbeats 1000000 in
set_option maxRecDepth 20000 in
theorem k1_40 (G : gG) : gK (gS1 G) (gB G + 40) = 21 ∧ gN (gS1 G) (gB G + 40) = 66 := by
  simp only [gS1, i_36_4, i_36_8, i_99, i_40, i_62, i_82, i_0, i_11, i_30, i_71, i_20, i_113, i_168, n_K_I, n_K_J, n_K_R, n_K_N, n_N_I, n_N_J, n_N_R, n_N_N, n_R_I, n_R_J, n_R_R, n_R_N, n_I_J, n_I_R, n_I_I, n_I_N, n_n_I, n_n_J, n_n_R, n_n_N, gn_S0, if_true, if_false, Nat.add_assoc, Nat.reduceAdd, Nat.add_left_cancel_iff, Nat.add_right_cancel_iff, Nat.reduceEqDiff, Nat.left_eq_add, Nat.add_eq_left, and_self, false_and, and_false, true_and, and_true]
set_option maxHeartbeats 1000000 in
set_option maxRecDepth 20000 in
theorem k1_41 (G : gG) : gK (gS1 G) (gB G + 41) = 21 ∧ gN (gS1 G) (gB G + 41) = 4 := by
  simp only [gS1, i_36_4, i_36_8, i_99, i_40, i_62, i_82, i_0, i_11, i_30, i_71, i_20, i_113, i_168, n_K_I, n_K_J, n_K_R, n_K_N, n_N_I, n_N_J, n_N_R, n_N_N, n_R_I, n_R_J, n_R_R, n_R_N, n_I_J, n_I_R, n_I_I, n_I_N, n_n_I, n_n_J, n_n_R, n_n_N, gn_S0, if_true, if_false, Nat.add_assoc, Nat.reduceAdd, Nat.add_left_cancel_iff, Nat.add_right_cancel_iff, Nat.reduceEqDiff, Nat.left_eq_add, Nat.add_eq_left, and_self, false_and, and_false, true_and, and_true]
set_option maxHeartbeats 1000000 in
set_option maxRecDepth 20000 in
theorem k1_42 (G : gG) : gK (gS1 G) (gB G + 42) = 5 ∧ gN (gS1 G) (gB G + 42) = 0 := by
  simp only [gS1, i_36_4, i_36_8, i_99, i_40, i_62, i_82, i_0, i_11, i_30, i_71, i_20, i_113, i_168, n_K_I, n_K_J, n_K_R, n_K_N, n_N_I, n_N_J, n_N_R, n_N_N, n_R_I, n_R_J, n_R_R, n_R_N, n_I_J, n_I_R, n_I_I, n_I_N, n_n_I, n_n_J, n_n_R, n_n_N, gn_S0, if_true, if_false, Nat.add_assoc, Nat.reduceAdd, Nat.add_left_cancel_iff, Nat.add_right_cancel_iff, Nat.reduceEqDiff, Nat.left_eq_add, Nat.add_eq_left, and_self, false_and, and_false, true_and, and_true]
set_option maxHeartbeats 1000000 in
set_option maxRecDepth 20000 in
theorem k1_43 (G : gG) : gK (gS1 G) (gB G + 43) = 21 ∧ gN (gS1 G) (gB G + 43) = 12 := by
  simp only [gS1, i_36_4, i_36_8, i_99, i_40, i_62, i_82, i_0, i_11, i_30, i_71, i_20, i_113, i_168, n_K_I, n_K_J, n_K_R, n_K_N, n_N_I, n_N_J, n_N_R, n_N_N, n_R_I, n_R_J, n_R_R, n_R_N, n_I_J, n_I_R, n_I_I, n_I_N, n_n_I, n_n_J, n_n_R, n_n_N, gn_S0, if_true, if_false, Nat.add_assoc, Nat.reduceAdd, Nat.add_left_cancel_iff, Nat.add_right_cancel_iff, Nat.reduceEqDiff, Nat.left_eq_add, Nat.add_eq_left, and_self, false_and, and_false, true_and, and_true]
set_option maxHeartbeats 1000000 in
set_option maxRecDepth 20000 in
theorem k1_44 (G : gG) : gK (gS1 G) (gB G + 44) = 21 ∧ gN (gS1 G) (gB G + 44) = 12 := by
  simp only [gS1, i_36_4, i_36_8, i_99, i_40, i_62, i_82, i_0, i_11, i_30, i_71, i_20, i_113, i_168, n_K_I, n_K_J, n_K_R, n_K_N, n_N_I, n_N_J, n_N_R, n_N_N, n_R_I, n_R_J, n_R_R, n_R_N, n_I_J, n_I_R, n_I_I, n_I_N, n_n_I, n_n_J, n_n_R, n_n_N, gn_S0, if_true, if_false, Nat.add_assoc, Nat.reduceAdd, Nat.add_left_cancel_iff, Nat.add_right_cancel_iff, Nat.reduceEqDiff, Nat.left_eq_add, Nat.add_eq_left, and_self, false_and, and_false, true_and, and_true]
set_option maxHeartbeats 1000000 in
set_option maxRecDepth 20000 in
theorem k1_45 (G : gG) : gK (gS1 G) (gB G + 45) = 9 ∧ gN (gS1 G) (gB G + 45) = 0 := by
  simp only [gS1, i_36_4, i_36_8, i_99, i_40, i_62, i_82, i_0, i_11, i_30, i_71, i_20, i_113, i_168, n_K_I, n_K_J, n_K_R, n_K_N, n_N_I, n_N_J, n_N_R, n_N_N, n_R_I, n_R_J, n_R_R, n_R_N, n_I_J, n_I_R, n_I_I, n_I_N, n_n_I, n_n_J, n_n_R, n_n_N, gn_S0, if_true, if_false, Nat.add_assoc, Nat.reduceAdd, Nat.add_left_cancel_iff, Nat.add_right_cancel_iff, Nat.reduceEqDiff, Nat.left_eq_add, Nat.add_eq_left, and_self, false_and, and_false, true_and, and_true]
set_option maxHeartbeats 1000000 in
set_option maxRecDepth 20000 in
theorem k1_46 (G : gG) : gK (gS1 G) (gB G + 46) = 21 ∧ gN (gS1 G) (gB G + 46) = 12 := by
  simp only [gS1, i_36_4, i_36_8, i_99, i_40, i_62, i_82, i_0, i_11, i_30, i_71, i_20, i_113, i_168, n_K_I, n_K_J, n_K_R, n_K_N, n_N_I, n_N_J, n_N_R, n_N_N, n_R_I, n_R_J, n_R_R, n_R_N, n_I_J, n_I_R, n_I_I, n_I_N, n_n_I, n_n_J, n_n_R, n_n_N, gn_S0, if_true, if_false, Nat.add_assoc, Nat.reduceAdd, Nat.add_left_cancel_iff, Nat.add_right_cancel_iff, Nat.reduceEqDiff, Nat.left_eq_add, Nat.add_eq_left, and_self, false_and, and_false, true_and, and_true]
set_option maxHeartbeats 1000000 in
set_option maxRecDepth 20000 in
theorem k1_47 (G : gG) : gK (gS1 G) (gB G + 47) = 21 ∧ gN (gS1 G) (gB G + 47) = 12 := by
  simp only [gS1, i_36_4, i_36_8, i_99, i_40, i_62, i_82, i_0, i_11, i_30, i_71, i_20, i_113, i_168, n_K_I, n_K_J, n_K_R, n_K_N, n_N_I, n_N_J, n_N_R, n_N_N, n_R_I, n_R_J, n_R_R, n_R_N, n_I_J, n_I_R, n_I_I, n_I_N, n_n_I, n_n_J, n_n_R, n_n_N, gn_S0, if_true, if_false, Nat.add_assoc, Nat.reduceAdd, Nat.add_left_cancel_iff, Nat.add_right_cancel_iff, Nat.reduceEqDiff, Nat.left_eq_add, Nat.add_eq_left, and_self, false_and, and_false, true_and, and_true]
set_option maxHeartbeats 1000000 in
set_option maxRecDepth 20000 in
theorem k1_48 (G : gG) : gK (gS1 G) (gB G + 48) = 21 ∧ gN (gS1 G) (gB G + 48) = 144 := by
  simp only [gS1, i_36_4, i_36_8, i_99, i_40, i_62, i_82, i_0, i_11, i_30, i_71, i_20, i_113, i_168, n_K_I, n_K_J, n_K_R, n_K_N, n_N_I, n_N_J, n_N_R, n_N_N, n_R_I, n_R_J, n_R_R, n_R_N, n_I_J, n_I_R, n_I_I, n_I_N, n_n_I, n_n_J, n_n_R, n_n_N, gn_S0, if_true, if_false, Nat.add_assoc, Nat.reduceAdd, Nat.add_left_cancel_iff, Nat.add_right_cancel_iff, Nat.reduceEqDiff, Nat.left_eq_add, Nat.add_eq_left, and_self, false_and, and_false, true_and, and_true]
set_option maxHeartbeats 1000000 in
set_option maxRecDepth 20000 in
theorem k1_49 (G : gG) : gK (gS1 G) (gB G + 49) = 21 ∧ gN (gS1 G) (gB G + 49) = 0 := by
  simp only [gS1, i_36_4, i_36_8, i_99, i_40, i_62, i_82, i_0, i_11, i_30, i_71, i_20, i_113, i_168, n_K_I, n_K_J, n_K_R, n_K_N, n_N_I, n_N_J, n_N_R, n_N_N, n_R_I, n_R_J, n_R_R, n_R_N, n_I_J, n_I_R, n_I_I, n_I_N, n_n_I, n_n_J, n_n_R, n_n_N, gn_S0, if_true, if_false, Nat.add_assoc, Nat.reduceAdd, Nat.add_left_cancel_iff, Nat.add_right_cancel_iff, Nat.reduceEqDiff, Nat.left_eq_add, Nat.add_eq_left, and_self, false_and, and_false, true_and, and_true]
set_option maxHeartbeats 1000000 in
set_option maxRecDepth 20000 in
theorem k1_50 (G : gG) : gK (gS1 G) (gB G + 50) = 3 ∧ gN (gS1 G) (gB G + 50) = 0 := by
  simp only [gS1, i_36_4, i_36_8, i_99, i_40, i_62, i_82, i_0, i_11, i_30, i_71, i_20, i_113, i_168, n_K_I, n_K_J, n_K_R, n_K_N, n_N_I, n_N_J, n_N_R, n_N_N, n_R_I, n_R_J, n_R_R, n_R_N, n_I_J, n_I_R, n_I_I, n_I_N, n_n_I, n_n_J, n_n_R, n_n_N, gn_S0, if_true, if_false, Nat.add_assoc, Nat.reduceAdd, Nat.add_left_cancel_iff, Nat.add_right_cancel_iff, Nat.reduceEqDiff, Nat.left_eq_add, Nat.add_eq_left, and_self, false_and, and_false, true_and, and_true]
set_option maxHeartbeats 1000000 in
set_option maxRecDepth 20000 in
theorem k1_51 (G : gG) : gK (gS1 G) (gB G + 51) = 21 ∧ gN (gS1 G) (gB G + 51) = 12 := by
  simp only [gS1, i_36_4, i_36_8, i_99, i_40, i_62, i_82, i_0, i_11, i_30, i_71, i_20, i_113, i_168, n_K_I, n_K_J, n_K_R, n_K_N, n_N_I, n_N_J, n_N_R, n_N_N, n_R_I, n_R_J, n_R_R, n_R_N, n_I_J, n_I_R, n_I_I, n_I_N, n_n_I, n_n_J, n_n_R, n_n_N, gn_S0, if_true, if_false, Nat.add_assoc, Nat.reduceAdd, Nat.add_left_cancel_iff, Nat.add_right_cancel_iff, Nat.reduceEqDiff, Nat.left_eq_add, Nat.add_eq_left, and_self, false_and, and_false, true_and, and_true]
set_option maxHeartbeats 1000000 in
set_option maxRecDepth 20000 in
theorem k1_52 (G : gG) : gK (gS1 G) (gB G + 52) = 21 ∧ gN (gS1 G) (gB G + 52) = 40 := by
  simp only [gS1, i_36_4, i_36_8, i_99, i_40, i_62, i_82, i_0, i_11, i_30, i_71, i_20, i_113, i_168, n_K_I, n_K_J, n_K_R, n_K_N, n_N_I, n_N_J, n_N_R, n_N_N, n_R_I, n_R_J, n_R_R, n_R_N, n_I_J, n_I_R, n_I_I, n_I_N, n_n_I, n_n_J, n_n_R, n_n_N, gn_S0, if_true, if_false, Nat.add_assoc, Nat.reduceAdd, Nat.add_left_cancel_iff, Nat.add_right_cancel_iff, Nat.reduceEqDiff, Nat.left_eq_add, Nat.add_eq_left, and_self, false_and, and_false, true_and, and_true]
set_option maxHeartbeats 1000000 in
set_option maxRecDepth 20000 in
theorem k1_53 (G : gG) : gK (gS1 G) (gB G + 53) = 21 ∧ gN (gS1 G) (gB G + 53) = 40 := by
  simp only [gS1, i_36_4, i_36_8, i_99, i_40, i_62, i_82, i_0, i_11, i_30, i_71, i_20, i_113, i_168, n_K_I, n_K_J, n_K_R, n_K_N, n_N_I, n_N_J, n_N_R, n_N_N, n_R_I, n_R_J, n_R_R, n_R_N, n_I_J, n_I_R, n_I_I, n_I_N, n_n_I, n_n_J, n_n_R, n_n_N, gn_S0, if_true, if_false, Nat.add_assoc, Nat.reduceAdd, Nat.add_left_cancel_iff, Nat.add_right_cancel_iff, Nat.reduceEqDiff, Nat.left_eq_add, Nat.add_eq_left, and_self, false_and, and_false, true_and, and_true]
set_option maxHeartbeats 1000000 in
set_option maxRecDepth 20000 in
theorem k1_54 (G : gG) : gK (gS1 G) (gB G + 54) = 13 ∧ gN (gS1 G) (gB G + 54) = 0 := by
  simp only [gS1, i_36_4, i_36_8, i_99, i_40, i_62, i_82, i_0, i_11, i_30, i_71, i_20, i_113, i_168, n_K_I, n_K_J, n_K_R, n_K_N, n_N_I, n_N_J, n_N_R, n_N_N, n_R_I, n_R_J, n_R_R, n_R_N, n_I_J, n_I_R, n_I_I, n_I_N, n_n_I, n_n_J, n_n_R, n_n_N, gn_S0, if_true, if_false, Nat.add_assoc, Nat.reduceAdd, Nat.add_left_cancel_iff, Nat.add_right_cancel_iff, Nat.reduceEqDiff, Nat.left_eq_add, Nat.add_eq_left, and_self, false_and, and_false, true_and, and_true]
set_option maxHeartbeats 1000000 in
set_option maxRecDepth 20000 in
theorem k1_55 (G : gG) : gK (gS1 G) (gB G + 55) = 21 ∧ gN (gS1 G) (gB G + 55) = 7 := by
  simp only [gS1, i_36_4, i_36_8, i_99, i_40, i_62, i_82, i_0, i_11, i_30, i_71, i_20, i_113, i_168, n_K_I, n_K_J, n_K_R, n_K_N, n_N_I, n_N_J, n_N_R, n_N_N, n_R_I, n_R_J, n_R_R, n_R_N, n_I_J, n_I_R, n_I_I, n_I_N, n_n_I, n_n_J, n_n_R, n_n_N, gn_S0, if_true, if_false, Nat.add_assoc, Nat.reduceAdd, Nat.add_left_cancel_iff, Nat.add_right_cancel_iff, Nat.reduceEqDiff, Nat.left_eq_add, Nat.add_eq_left, and_self, false_and, and_false, true_and, and_true]
set_option maxHeartbeats 1000000 in
set_option maxRecDepth 20000 in
theorem k1_56 (G : gG) : gK (gS1 G) (gB G + 56) = 21 ∧ gN (gS1 G) (gB G + 56) = 5062 := by
  simp only [gS1, i_36_4, i_36_8, i_99, i_40, i_62, i_82, i_0, i_11, i_30, i_71, i_20, i_113, i_168, n_K_I, n_K_J, n_K_R, n_K_N, n_N_I, n_N_J, n_N_R, n_N_N, n_R_I, n_R_J, n_R_R, n_R_N, n_I_J, n_I_R, n_I_I, n_I_N, n_n_I, n_n_J, n_n_R, n_n_N, gn_S0, if_true, if_false, Nat.add_assoc, Nat.reduceAdd, Nat.add_left_cancel_iff, Nat.add_right_cancel_iff, Nat.reduceEqDiff, Nat.left_eq_add, Nat.add_eq_left, and_self, false_and, and_false, true_and, and_true]
set_option maxHeartbeats 1000000 in
set_option maxRecDepth 20000 in
theorem k1_57 (G : gG) : gK (gS1 G) (gB G + 57) = 21 ∧ gN (gS1 G) (gB G + 57) = 10124 := by
  simp only [gS1, i_36_4, i_36_8, i_99, i_40, i_62, i_82, i_0, i_11, i_30, i_71, i_20, i_113, i_168, n_K_I, n_K_J, n_K_R, n_K_N, n_N_I, n_N_J, n_N_R, n_N_N, n_R_I, n_R_J, n_R_R, n_R_N, n_I_J, n_I_R, n_I_I, n_I_N, n_n_I, n_n_J, n_n_R, n_n_N, gn_S0, if_true, if_false, Nat.add_assoc, Nat.reduceAdd, Nat.add_left_cancel_iff, Nat.add_right_cancel_iff, Nat.reduceEqDiff, Nat.left_eq_add, Nat.add_eq_left, and_self, false_and, and_false, true_and, and_true]
set_option maxHeartbeats 1000000 in
set_option maxRecDepth 20000 in
theorem k1_58 (G : gG) : gK (gS1 G) (gB G + 58) = 23 ∧ gN (gS1 G) (gB G + 58) = 2 := by
  simp only [gS1, i_36_4, i_36_8, i_99, i_40, i_62, i_82, i_0, i_11, i_30, i_71, i_20, i_113, i_168, n_K_I, n_K_J, n_K_R, n_K_N, n_N_I, n_N_J, n_N_R, n_N_N, n_R_I, n_R_J, n_R_R, n_R_N, n_I_J, n_I_R, n_I_I, n_I_N, n_n_I, n_n_J, n_n_R, n_n_N, gn_S0, if_true, if_false, Nat.add_assoc, Nat.reduceAdd, Nat.add_left_cancel_iff, Nat.add_right_cancel_iff, Nat.reduceEqDiff, Nat.left_eq_add, Nat.add_eq_left, and_self, false_and, and_false, true_and, and_true]
set_option maxHeartbeats 1000000 in
set_option maxRecDepth 20000 in
theorem k1_59 (G : gG) : gK (gS1 G) (gB G + 59) = 20 ∧ gN (gS1 G) (gB G + 59) = 68 := by
  simp only [gS1, i_36_4, i_36_8, i_99, i_40, i_62, i_82, i_0, i_11, i_30, i_71, i_20, i_113, i_168, n_K_I, n_K_J, n_K_R, n_K_N, n_N_I, n_N_J, n_N_R, n_N_N, n_R_I, n_R_J, n_R_R, n_R_N, n_I_J, n_I_R, n_I_I, n_I_N, n_n_I, n_n_J, n_n_R, n_n_N, gn_S0, if_true, if_false, Nat.add_assoc, Nat.reduceAdd, Nat.add_left_cancel_iff, Nat.add_right_cancel_iff, Nat.reduceEqDiff, Nat.left_eq_add, Nat.add_eq_left, and_self, false_and, and_false, true_and, and_true]
set_option maxHeartbeats 1000000 in
set_option maxRecDepth 20000 in
theorem k1_60 (G : gG) : gK (gS1 G) (gB G + 60) = 20 ∧ gN (gS1 G) (gB G + 60) = 400 := by
  simp only [gS1, i_36_4, i_36_8, i_99, i_40, i_62, i_82, i_0, i_11, i_30, i_71, i_20, i_113, i_168, n_K_I, n_K_J, n_K_R, n_K_N, n_N_I, n_N_J, n_N_R, n_N_N, n_R_I, n_R_J, n_R_R, n_R_N, n_I_J, n_I_R, n_I_I, n_I_N, n_n_I, n_n_J, n_n_R, n_n_N, gn_S0, if_true, if_false, Nat.add_assoc, Nat.reduceAdd, Nat.add_left_cancel_iff, Nat.add_right_cancel_iff, Nat.reduceEqDiff, Nat.left_eq_add, Nat.add_eq_left, and_self, false_and, and_false, true_and, and_true]
set_option maxHeartbeats 1000000 in
set_option maxRecDepth 20000 in
theorem k1_61 (G : gG) : gK (gS1 G) (gB G + 61) = 21 ∧ gN (gS1 G) (gB G + 61) = 5 := by
  simp only [gS1, i_36_4, i_36_8, i_99, i_40, i_62, i_82, i_0, i_11, i_30, i_71, i_20, i_113, i_168, n_K_I, n_K_J, n_K_R, n_K_N, n_N_I, n_N_J, n_N_R, n_N_N, n_R_I, n_R_J, n_R_R, n_R_N, n_I_J, n_I_R, n_I_I, n_I_N, n_n_I, n_n_J, n_n_R, n_n_N, gn_S0, if_true, if_false, Nat.add_assoc, Nat.reduceAdd, Nat.add_left_cancel_iff, Nat.add_right_cancel_iff, Nat.reduceEqDiff, Nat.left_eq_add, Nat.add_eq_left, and_self, false_and, and_false, true_and, and_true]
set_option maxHeartbeats 1000000 in
set_option maxRecDepth 20000 in
theorem k1_62 (G : gG) : gK (gS1 G) (gB G + 62) = 21 ∧ gN (gS1 G) (gB G + 62) = 401 := by
  simp only [gS1, i_36_4, i_36_8, i_99, i_40, i_62, i_82, i_0, i_11, i_30, i_71, i_20, i_113, i_168, n_K_I, n_K_J, n_K_R, n_K_N, n_N_I, n_N_J, n_N_R, n_N_N, n_R_I, n_R_J, n_R_R, n_R_N, n_I_J, n_I_R, n_I_I, n_I_N, n_n_I, n_n_J, n_n_R, n_n_N, gn_S0, if_true, if_false, Nat.add_assoc, Nat.reduceAdd, Nat.add_left_cancel_iff, Nat.add_right_cancel_iff, Nat.reduceEqDiff, Nat.left_eq_add, Nat.add_eq_left, and_self, false_and, and_false, true_and, and_true]
set_option maxHeartbeats 1000000 in
set_option maxRecDepth 20000 in
theorem k1_63 (G : gG) : gK (gS1 G) (gB G + 63) = 21 ∧ gN (gS1 G) (gB G + 63) = 401 := by
  simp only [gS1, i_36_4, i_36_8, i_99, i_40, i_62, i_82, i_0, i_11, i_30, i_71, i_20, i_113, i_168, n_K_I, n_K_J, n_K_R, n_K_N, n_N_I, n_N_J, n_N_R, n_N_N, n_R_I, n_R_J, n_R_R, n_R_N, n_I_J, n_I_R, n_I_I, n_I_N, n_n_I, n_n_J, n_n_R, n_n_N, gn_S0, if_true, if_false, Nat.add_assoc, Nat.reduceAdd, Nat.add_left_cancel_iff, Nat.add_right_cancel_iff, Nat.reduceEqDiff, Nat.left_eq_add, Nat.add_eq_left, and_self, false_and, and_false, true_and, and_true]
set_option maxHeartbeats 1000000 in
set_option maxRecDepth 20000 in
theorem k1_64 (G : gG) : gK (gS1 G) (gB G + 64) = 21 ∧ gN (gS1 G) (gB G + 64) = 401 := by
  simp only [gS1, i_36_4, i_36_8, i_99, i_40, i_62, i_82, i_0, i_11, i_30, i_71, i_20, i_113, i_168, n_K_I, n_K_J, n_K_R, n_K_N, n_N_I, n_N_J, n_N_R, n_N_N, n_R_I, n_R_J, n_R_R, n_R_N, n_I_J, n_I_R, n_I_I, n_I_N, n_n_I, n_n_J, n_n_R, n_n_N, gn_S0, if_true, if_false, Nat.add_assoc, Nat.reduceAdd, Nat.add_left_cancel_iff, Nat.add_right_cancel_iff, Nat.reduceEqDiff, Nat.left_eq_add, Nat.add_eq_left, and_self, false_and, and_false, true_and, and_true]
set_option maxHeartbeats 1000000 in
set_option maxRecDepth 20000 in
theorem k1_65 (G : gG) : gK (gS1 G) (gB G + 65) = 21 ∧ gN (gS1 G) (gB G + 65) = 9 := by
  simp only [gS1, i_36_4, i_36_8, i_99, i_40, i_62, i_82, i_0, i_11, i_30, i_71, i_20, i_113, i_168, n_K_I, n_K_J, n_K_R, n_K_N, n_N_I, n_N_J, n_N_R, n_N_N, n_R_I, n_R_J, n_R_R, n_R_N, n_I_J, n_I_R, n_I_I, n_I_N, n_n_I, n_n_J, n_n_R, n_n_N, gn_S0, if_true, if_false, Nat.add_assoc, Nat.reduceAdd, Nat.add_left_cancel_iff, Nat.add_right_cancel_iff, Nat.reduceEqDiff, Nat.left_eq_add, Nat.add_eq_left, and_self, false_and, and_false, true_and, and_true]
set_option maxHeartbeats 1000000 in
set_option maxRecDepth 20000 in
theorem k1_66 (G : gG) : gK (gS1 G) (gB G + 66) = 21 ∧ gN (gS1 G) (gB G + 66) = 12 := by
  simp only [gS1, i_36_4, i_36_8, i_99, i_40, i_62, i_82, i_0, i_11, i_30, i_71, i_20, i_113, i_168, n_K_I, n_K_J, n_K_R, n_K_N, n_N_I, n_N_J, n_N_R, n_N_N, n_R_I, n_R_J, n_R_R, n_R_N, n_I_J, n_I_R, n_I_I, n_I_N, n_n_I, n_n_J, n_n_R, n_n_N, gn_S0, if_true, if_false, Nat.add_assoc, Nat.reduceAdd, Nat.add_left_cancel_iff, Nat.add_right_cancel_iff, Nat.reduceEqDiff, Nat.left_eq_add, Nat.add_eq_left, and_self, false_and, and_false, true_and, and_true]
set_option maxHeartbeats 1000000 in
set_option maxRecDepth 20000 in
theorem k1_67 (G : gG) : gK (gS1 G) (gB G + 67) = 21 ∧ gN (gS1 G) (gB G + 67) = 144 := by
  simp only [gS1, i_36_4, i_36_8, i_99, i_40, i_62, i_82, i_0, i_11, i_30, i_71, i_20, i_113, i_168, n_K_I, n_K_J, n_K_R, n_K_N, n_N_I, n_N_J, n_N_R, n_N_N, n_R_I, n_R_J, n_R_R, n_R_N, n_I_J, n_I_R, n_I_I, n_I_N, n_n_I, n_n_J, n_n_R, n_n_N, gn_S0, if_true, if_false, Nat.add_assoc, Nat.reduceAdd, Nat.add_left_cancel_iff, Nat.add_right_cancel_iff, Nat.reduceEqDiff, Nat.left_eq_add, Nat.add_eq_left, and_self, false_and, and_false, true_and, and_true]
set_option maxHeartbeats 1000000 in
set_option maxRecDepth 20000 in
theorem k1_68 (G : gG) : gK (gS1 G) (gB G + 68) = 23 ∧ gN (gS1 G) (gB G + 68) = 144 := by
  simp only [gS1, i_36_4, i_36_8, i_99, i_40, i_62, i_82, i_0, i_11, i_30, i_71, i_20, i_113, i_168, n_K_I, n_K_J, n_K_R, n_K_N, n_N_I, n_N_J, n_N_R, n_N_N, n_R_I, n_R_J, n_R_R, n_R_N, n_I_J, n_I_R, n_I_I, n_I_N, n_n_I, n_n_J, n_n_R, n_n_N, gn_S0, if_true, if_false, Nat.add_assoc, Nat.reduceAdd, Nat.add_left_cancel_iff, Nat.add_right_cancel_iff, Nat.reduceEqDiff, Nat.left_eq_add, Nat.add_eq_left, and_self, false_and, and_false, true_and, and_true]
set_option maxHeartbeats 1000000 in
set_option maxRecDepth 20000 in
theorem k1_69 (G : gG) : gK (gS1 G) (gB G + 69) = 21 ∧ gN (gS1 G) (gB G + 69) = 12 := by
  simp only [gS1, i_36_4, i_36_8, i_99, i_40, i_62, i_82, i_0, i_11, i_30, i_71, i_20, i_113, i_168, n_K_I, n_K_J, n_K_R, n_K_N, n_N_I, n_N_J, n_N_R, n_N_N, n_R_I, n_R_J, n_R_R, n_R_N, n_I_J, n_I_R, n_I_I, n_I_N, n_n_I, n_n_J, n_n_R, n_n_N, gn_S0, if_true, if_false, Nat.add_assoc, Nat.reduceAdd, Nat.add_left_cancel_iff, Nat.add_right_cancel_iff, Nat.reduceEqDiff, Nat.left_eq_add, Nat.add_eq_left, and_self, false_and, and_false, true_and, and_true]
set_option maxHeartbeats 1000000 in
set_option maxRecDepth 20000 in
theorem k1_70 (G : gG) : gK (gS1 G) (gB G + 70) = 21 ∧ gN (gS1 G) (gB G + 70) = 12 := by
  simp only [gS1, i_36_4, i_36_8, i_99, i_40, i_62, i_82, i_0, i_11, i_30, i_71, i_20, i_113, i_168, n_K_I, n_K_J, n_K_R, n_K_N, n_N_I, n_N_J, n_N_R, n_N_N, n_R_I, n_R_J, n_R_R, n_R_N, n_I_J, n_I_R, n_I_I, n_I_N, n_n_I, n_n_J, n_n_R, n_n_N, gn_S0, if_true, if_false, Nat.add_assoc, Nat.reduceAdd, Nat.add_left_cancel_iff, Nat.add_right_cancel_iff, Nat.reduceEqDiff, Nat.left_eq_add, Nat.add_eq_left, and_self, false_and, and_false, true_and, and_true]
set_option maxHeartbeats 1000000 in
set_option maxRecDepth 20000 in
theorem k1_71 (G : gG) : gK (gS1 G) (gB G + 71) = 21 ∧ gN (gS1 G) (gB G + 71) = 12 := by
  simp only [gS1, i_36_4, i_36_8, i_99, i_40, i_62, i_82, i_0, i_11, i_30, i_71, i_20, i_113, i_168, n_K_I, n_K_J, n_K_R, n_K_N, n_N_I, n_N_J, n_N_R, n_N_N, n_R_I, n_R_J, n_R_R, n_R_N, n_I_J, n_I_R, n_I_I, n_I_N, n_n_I, n_n_J, n_n_R, n_n_N, gn_S0, if_true, if_false, Nat.add_assoc, Nat.reduceAdd, Nat.add_left_cancel_iff, Nat.add_right_cancel_iff, Nat.reduceEqDiff, Nat.left_eq_add, Nat.add_eq_left, and_self, false_and, and_false, true_and, and_true]
set_option maxHeartbeats 1000000 in
set_option maxRecDepth 20000 in
theorem k1_72 (G : gG) : gK (gS1 G) (gB G + 72) = 21 ∧ gN (gS1 G) (gB G + 72) = 12 := by
  simp only [gS1, i_36_4, i_36_8, i_99, i_40, i_62, i_82, i_0, i_11, i_30, i_71, i_20, i_113, i_168, n_K_I, n_K_J, n_K_R, n_K_N, n_N_I, n_N_J, n_N_R, n_N_N, n_R_I, n_R_J, n_R_R, n_R_N, n_I_J, n_I_R, n_I_I, n_I_N, n_n_I, n_n_J, n_n_R, n_n_N, gn_S0, if_true, if_false, Nat.add_assoc, Nat.reduceAdd, Nat.add_left_cancel_iff, Nat.add_right_cancel_iff, Nat.reduceEqDiff, Nat.left_eq_add, Nat.add_eq_left, and_self, false_and, and_false, true_and, and_true]
set_option maxHeartbeats 1000000 in
set_option maxRecDepth 20000 in
theorem k1_73 (G : gG) : gK (gS1 G) (gB G + 73) = 21 ∧ gN (gS1 G) (gB G + 73) = 12 := by
  simp only [gS1, i_36_4, i_36_8, i_99, i_40, i_62, i_82, i_0, i_11, i_30, i_71, i_20, i_113, i_168, n_K_I, n_K_J, n_K_R, n_K_N, n_N_I, n_N_J, n_N_R, n_N_N, n_R_I, n_R_J, n_R_R, n_R_N, n_I_J, n_I_R, n_I_I, n_I_N, n_n_I, n_n_J, n_n_R, n_n_N, gn_S0, if_true, if_false, Nat.add_assoc, Nat.reduceAdd, Nat.add_left_cancel_iff, Nat.add_right_cancel_iff, Nat.reduceEqDiff, Nat.left_eq_add, Nat.add_eq_left, and_self, false_and, and_false, true_and, and_true]
set_option maxHeartbeats 1000000 in
set_option maxRecDepth 20000 in
theorem k1_74 (G : gG) : gK (gS1 G) (gB G + 74) = 21 ∧ gN (gS1 G) (gB G + 74) = 4 := by
  simp only [gS1, i_36_4, i_36_8, i_99, i_40, i_62, i_82, i_0, i_11, i_30, i_71, i_20, i_113, i_168, n_K_I, n_K_J, n_K_R, n_K_N, n_N_I, n_N_J, n_N_R, n_N_N, n_R_I, n_R_J, n_R_R, n_R_N, n_I_J, n_I_R, n_I_I, n_I_N, n_n_I, n_n_J, n_n_R, n_n_N, gn_S0, if_true, if_false, Nat.add_assoc, Nat.reduceAdd, Nat.add_left_cancel_iff, Nat.add_right_cancel_iff, Nat.reduceEqDiff, Nat.left_eq_add, Nat.add_eq_left, and_self, false_and, and_false, true_and, and_true]
set_option maxHeartbeats 1000000 in
set_option maxRecDepth 20000 in
theorem k1_75 (G : gG) : gK (gS1 G) (gB G + 75) = 21 ∧ gN (gS1 G) (gB G + 75) = 12 := by
  simp only [gS1, i_36_4, i_36_8, i_99, i_40, i_62, i_82, i_0, i_11, i_30, i_71, i_20, i_113, i_168, n_K_I, n_K_J, n_K_R, n_K_N, n_N_I, n_N_J, n_N_R, n_N_N, n_R_I, n_R_J, n_R_R, n_R_N, n_I_J, n_I_R, n_I_I, n_I_N, n_n_I, n_n_J, n_n_R, n_n_N, gn_S0, if_true, if_false, Nat.add_assoc, Nat.reduceAdd, Nat.add_left_cancel_iff, Nat.add_right_cancel_iff, Nat.reduceEqDiff, Nat.left_eq_add, Nat.add_eq_left, and_self, false_and, and_false, true_and, and_true]
set_option maxHeartbeats 1000000 in
set_option maxRecDepth 20000 in
theorem k1_76 (G : gG) : gK (gS1 G) (gB G + 76) = 21 ∧ gN (gS1 G) (gB G + 76) = 144 := by
  simp only [gS1, i_36_4, i_36_8, i_99, i_40, i_62, i_82, i_0, i_11, i_30, i_71, i_20, i_113, i_168, n_K_I, n_K_J, n_K_R, n_K_N, n_N_I, n_N_J, n_N_R, n_N_N, n_R_I, n_R_J, n_R_R, n_R_N, n_I_J, n_I_R, n_I_I, n_I_N, n_n_I, n_n_J, n_n_R, n_n_N, gn_S0, if_true, if_false, Nat.add_assoc, Nat.reduceAdd, Nat.add_left_cancel_iff, Nat.add_right_cancel_iff, Nat.reduceEqDiff, Nat.left_eq_add, Nat.add_eq_left, and_self, false_and, and_false, true_and, and_true]
set_option maxHeartbeats 1000000 in
set_option maxRecDepth 20000 in
theorem k1_77 (G : gG) : gK (gS1 G) (gB G + 77) = 21 ∧ gN (gS1 G) (gB G + 77) = 49152 := by
  simp only [gS1, i_36_4, i_36_8, i_99, i_40, i_62, i_82, i_0, i_11, i_30, i_71, i_20, i_113, i_168, n_K_I, n_K_J, n_K_R, n_K_N, n_N_I, n_N_J, n_N_R, n_N_N, n_R_I, n_R_J, n_R_R, n_R_N, n_I_J, n_I_R, n_I_I, n_I_N, n_n_I, n_n_J, n_n_R, n_n_N, gn_S0, if_true, if_false, Nat.add_assoc, Nat.reduceAdd, Nat.add_left_cancel_iff, Nat.add_right_cancel_iff, Nat.reduceEqDiff, Nat.left_eq_add, Nat.add_eq_left, and_self, false_and, and_false, true_and, and_true]
set_option maxHeartbeats 1000000 in
set_option maxRecDepth 20000 in
theorem k1_78 (G : gG) : gK (gS1 G) (gB G + 78) = 21 ∧ gN (gS1 G) (gB G + 78) = 40 := by
  simp only [gS1, i_36_4, i_36_8, i_99, i_40, i_62, i_82, i_0, i_11, i_30, i_71, i_20, i_113, i_168, n_K_I, n_K_J, n_K_R, n_K_N, n_N_I, n_N_J, n_N_R, n_N_N, n_R_I, n_R_J, n_R_R, n_R_N, n_I_J, n_I_R, n_I_I, n_I_N, n_n_I, n_n_J, n_n_R, n_n_N, gn_S0, if_true, if_false, Nat.add_assoc, Nat.reduceAdd, Nat.add_left_cancel_iff, Nat.add_right_cancel_iff, Nat.reduceEqDiff, Nat.left_eq_add, Nat.add_eq_left, and_self, false_and, and_false, true_and, and_true]
set_option maxHeartbeats 1000000 in
set_option maxRecDepth 20000 in
theorem k1_79 (G : gG) : gK (gS1 G) (gB G + 79) = 21 ∧ gN (gS1 G) (gB G + 79) = 40 := by
  simp only [gS1, i_36_4, i_36_8, i_99, i_40, i_62, i_82, i_0, i_11, i_30, i_71, i_20, i_113, i_168, n_K_I, n_K_J, n_K_R, n_K_N, n_N_I, n_N_J, n_N_R, n_N_N, n_R_I, n_R_J, n_R_R, n_R_N, n_I_J, n_I_R, n_I_I, n_I_N, n_n_I, n_n_J, n_n_R, n_n_N, gn_S0, if_true, if_false, Nat.add_assoc, Nat.reduceAdd, Nat.add_left_cancel_iff, Nat.add_right_cancel_iff, Nat.reduceEqDiff, Nat.left_eq_add, Nat.add_eq_left, and_self, false_and, and_false, true_and, and_true]
set_option maxHeartbeats 1000000 in
set_option maxRecDepth 20000 in
theorem r1_0_0 (G : gG) : gR (gS1 G) (gB G + 0) 0 = some (gB G + 1) := by
  simp only [gS1, i_36_4, i_36_8, i_99, i_40, i_62, i_82, i_0, i_11, i_30, i_71, i_20, i_113, i_168, n_K_I, n_K_J, n_K_R, n_K_N, n_N_I, n_N_J, n_N_R, n_N_N, n_R_I, n_R_J, n_R_R, n_R_N, n_I_J, n_I_R, n_I_I, n_I_N, n_n_I, n_n_J, n_n_R, n_n_N, gn_S0, if_true, if_false, Nat.add_assoc, Nat.reduceAdd, Nat.add_left_cancel_iff, Nat.add_right_cancel_iff, Nat.reduceEqDiff, Nat.left_eq_add, Nat.add_eq_left, and_self, false_and, and_false, true_and, and_true]
set_option maxHeartbeats 1000000 in
set_option maxRecDepth 20000 in
theorem r1_0_1 (G : gG) : gR (gS1 G) (gB G + 0) 1 = some (gB G + 18) := by
  simp only [gS1, i_36_4, i_36_8, i_99, i_40, i_62, i_82, i_0, i_11, i_30, i_71, i_20, i_113, i_168, n_K_I, n_K_J, n_K_R, n_K_N, n_N_I, n_N_J, n_N_R, n_N_N, n_R_I, n_R_J, n_R_R, n_R_N, n_I_J, n_I_R, n_I_I, n_I_N, n_n_I, n_n_J, n_n_R, n_n_N, gn_S0, if_true, if_false, Nat.add_assoc, Nat.reduceAdd, Nat.add_left_cancel_iff, Nat.add_right_cancel_iff, Nat.reduceEqDiff, Nat.left_eq_add, Nat.add_eq_left, and_self, false_and, and_false, true_and, and_true]
set_option maxHeartbeats 1000000 in
set_option maxRecDepth 20000 in
theorem r1_0_2 (G : gG) : gR (gS1 G) (gB G + 0) 2 = some (gB G + 19) := by
  simp only [gS1, i_36_4, i_36_8, i_99, i_40, i_62, i_82, i_0, i_11, i_30, i_71, i_20, i_113, i_168, n_K_I, n_K_J, n_K_R, n_K_N, n_N_I, n_N_J, n_N_R, n_N_N, n_R_I, n_R_J, n_R_R, n_R_N, n_I_J, n_I_R, n_I_I, n_I_N, n_n_I, n_n_J, n_n_R, n_n_N, gn_S0, if_true, if_false, Nat.add_assoc, Nat.reduceAdd, Nat.add_left_cancel_iff, Nat.add_right_cancel_iff, Nat.reduceEqDiff, Nat.left_eq_add, Nat.add_eq_left, and_self, false_and, and_false, true_and, and_true]
set_option maxHeartbeats 1000000 in
set_option maxRecDepth 20000 in
theorem r1_0_4 (G : gG) : gR (gS1 G) (gB G + 0) 4 = some (gB G + 20) := by
  simp only [gS1, i_36_4, i_36_8, i_99, i_40, i_62, i_82, i_0, i_11, i_30, i_71, i_20, i_113, i_168, n_K_I, n_K_J, n_K_R, n_K_N, n_N_I, n_N_J, n_N_R, n_N_N, n_R_I, n_R_J, n_R_R, n_R_N, n_I_J, n_I_R, n_I_I, n_I_N, n_n_I, n_n_J, n_n_R, n_n_N, gn_S0, if_true, if_false, Nat.add_assoc, Nat.reduceAdd, Nat.add_left_cancel_iff, Nat.add_right_cancel_iff, Nat.reduceEqDiff, Nat.left_eq_add, Nat.add_eq_left, and_self, false_and, and_false, true_and, and_true]
set_option maxHeartbeats 1000000 in
set_option maxRecDepth 20000 in
theorem r1_0_7 (G : gG) : gR (gS1 G) (gB G + 0) 7 = some (gB G + 24) := by
  simp only [gS1, i_36_4, i_36_8, i_99, i_40, i_62, i_82, i_0, i_11, i_30, i_71, i_20, i_113, i_168, n_K_I, n_K_J, n_K_R, n_K_N, n_N_I, n_N_J, n_N_R, n_N_N, n_R_I, n_R_J, n_R_R, n_R_N, n_I_J, n_I_R, n_I_I, n_I_N, n_n_I, n_n_J, n_n_R, n_n_N, gn_S0, if_true, if_false, Nat.add_assoc, Nat.reduceAdd, Nat.add_left_cancel_iff, Nat.add_right_cancel_iff, Nat.reduceEqDiff, Nat.left_eq_add, Nat.add_eq_left, and_self, false_and, and_false, true_and, and_true]
set_option maxHeartbeats 1000000 in
set_option maxRecDepth 20000 in
theorem r1_0_9 (G : gG) : gR (gS1 G) (gB G + 0) 9 = some (gB G + 25) := by
  simp only [gS1, i_36_4, i_36_8, i_99, i_40, i_62, i_82, i_0, i_11, i_30, i_71, i_20, i_113, i_168, n_K_I, n_K_J, n_K_R, n_K_N, n_N_I, n_N_J, n_N_R, n_N_N, n_R_I, n_R_J, n_R_R, n_R_N, n_I_J, n_I_R, n_I_I, n_I_N, n_n_I, n_n_J, n_n_R, n_n_N, gn_S0, if_true, if_false, Nat.add_assoc, Nat.reduceAdd, Nat.add_left_cancel_iff, Nat.add_right_cancel_iff, Nat.reduceEqDiff, Nat.left_eq_add, Nat.add_eq_left, and_self, false_and, and_false, true_and, and_true]
set_option maxHeartbeats 1000000 in
set_option maxRecDepth 20000 in
theorem r1_0_10 (G : gG) : gR (gS1 G) (gB G + 0) 10 = some (gB G + 33) := by
  simp only [gS1, i_36_4, i_36_8, i_99, i_40, i_62, i_82, i_0, i_11, i_30, i_71, i_20, i_113, i_168, n_K_I, n_K_J, n_K_R, n_K_N, n_N_I, n_N_J, n_N_R, n_N_N, n_R_I, n_R_J, n_R_R, n_R_N, n_I_J, n_I_R, n_I_I, n_I_N, n_n_I, n_n_J, n_n_R, n_n_N, gn_S0, if_true, if_false, Nat.add_assoc, Nat.reduceAdd, Nat.add_left_cancel_iff, Nat.add_right_cancel_iff, Nat.reduceEqDiff, Nat.left_eq_add, Nat.add_eq_left, and_self, false_and, and_false, true_and, and_true]
set_option maxHeartbeats 1000000 in
set_option maxRecDepth 20000 in
theorem r1_0_11 (G : gG) : gR (gS1 G) (gB G + 0) 11 = some (gB G + 37) := by
  simp only [gS1, i_36_4, i_36_8, i_99, i_40, i_62, i_82, i_0, i_11, i_30, i_71, i_20, i_113, i_168, n_K_I, n_K_J, n_K_R, n_K_N, n_N_I, n_N_J, n_N_R, n_N_N, n_R_I, n_R_J, n_R_R, n_R_N, n_I_J, n_I_R, n_I_I, n_I_N, n_n_I, n_n_J, n_n_R, n_n_N, gn_S0, if_true, if_false, Nat.add_assoc, Nat.reduceAdd, Nat.add_left_cancel_iff, Nat.add_right_cancel_iff, Nat.reduceEqDiff, Nat.left_eq_add, Nat.add_eq_left, and_self, false_and, and_false, true_and, and_true]
set_option maxHeartbeats 1000000 in
set_option maxRecDepth 20000 in
theorem r1_0_12 (G : gG) : gR (gS1 G) (gB G + 0) 12 = some (gB G + 42) := by
  simp only [gS1, i_36_4, i_36_8, i_99, i_40, i_62, i_82, i_0, i_11, i_30, i_71, i_20, i_113, i_168, n_K_I, n_K_J, n_K_R, n_K_N, n_N_I, n_N_J, n_N_R, n_N_N, n_R_I, n_R_J, n_R_R, n_R_N, n_I_J, n_I_R, n_I_I, n_I_N, n_n_I, n_n_J, n_n_R, n_n_N, gn_S0, if_true, if_false, Nat.add_assoc, Nat.reduceAdd, Nat.add_left_cancel_iff, Nat.add_right_cancel_iff, Nat.reduceEqDiff, Nat.left_eq_add, Nat.add_eq_left, and_self, false_and, and_false, true_and, and_true]
set_option maxHeartbeats 1000000 in
set_option maxRecDepth 20000 in
theorem r1_0_13 (G : gG) : gR (gS1 G) (gB G + 0) 13 = some (gB G + 45) := by
  simp only [gS1, i_36_4, i_36_8, i_99, i_40, i_62, i_82, i_0, i_11, i_30, i_71, i_20, i_113, i_168, n_K_I, n_K_J, n_K_R, n_K_N, n_N_I, n_N_J, n_N_R, n_N_N, n_R_I, n_R_J, n_R_R, n_R_N, n_I_J, n_I_R, n_I_I, n_I_N, n_n_I, n_n_J, n_n_R, n_n_N, gn_S0, if_true, if_false, Nat.add_assoc, Nat.reduceAdd, Nat.add_left_cancel_iff, Nat.add_right_cancel_iff, Nat.reduceEqDiff, Nat.left_eq_add, Nat.add_eq_left, and_self, false_and, and_false, true_and, and_true]
set_option maxHeartbeats 1000000 in
set_option maxRecDepth 20000 in
theorem r1_0_14 (G : gG) : gR (gS1 G) (gB G + 0) 14 = some (gB G + 50) := by
  simp only [gS1, i_36_4, i_36_8, i_99, i_40, i_62, i_82, i_0, i_11, i_30, i_71, i_20, i_113, i_168, n_K_I, n_K_J, n_K_R, n_K_N, n_N_I, n_N_J, n_N_R, n_N_N, n_R_I, n_R_J, n_R_R, n_R_N, n_I_J, n_I_R, n_I_I, n_I_N, n_n_I, n_n_J, n_n_R, n_n_N, gn_S0, if_true, if_false, Nat.add_assoc, Nat.reduceAdd, Nat.add_left_cancel_iff, Nat.add_right_cancel_iff, Nat.reduceEqDiff, Nat.left_eq_add, Nat.add_eq_left, and_self, false_and, and_false, true_and, and_true]
set_option maxHeartbeats 1000000 in
set_option maxRecDepth 20000 in
theorem r1_1_0 (G : gG) : gR (gS1 G) (gB G + 1) 0 = some (gB G + 2) := by
  simp only [gS1, i_36_4, i_36_8, i_99, i_40, i_62, i_82, i_0, i_11, i_30, i_71, i_20, i_113, i_168, n_K_I, n_K_J, n_K_R, n_K_N, n_N_I, n_N_J, n_N_R, n_N_N, n_R_I, n_R_J, n_R_R, n_R_N, n_I_J, n_I_R, n_I_I, n_I_N, n_n_I, n_n_J, n_n_R, n_n_N, gn_S0, if_true, if_false, Nat.add_assoc, Nat.reduceAdd, Nat.add_left_cancel_iff, Nat.add_right_cancel_iff, Nat.reduceEqDiff, Nat.left_eq_add, Nat.add_eq_left, and_self, false_and, and_false, true_and, and_true]
set_option maxHeartbeats 1000000 in
set_option maxRecDepth 20000 in
theorem r1_1_1 (G : gG) : gR (gS1 G) (gB G + 1) 1 = some (gB G + 3) := by
  simp only [gS1, i_36_4, i_36_8, i_99, i_40, i_62, i_82, i_0, i_11, i_30, i_71, i_20, i_113, i_168, n_K_I, n_K_J, n_K_R, n_K_N, n_N_I, n_N_J, n_N_R, n_N_N, n_R_I, n_R_J, n_R_R, n_R_N, n_I_J, n_I_R, n_I_I, n_I_N, n_n_I, n_n_J, n_n_R, n_n_N, gn_S0, if_true, if_false, Nat.add_assoc, Nat.reduceAdd, Nat.add_left_cancel_iff, Nat.add_right_cancel_iff, Nat.reduceEqDiff, Nat.left_eq_add, Nat.add_eq_left, and_self, false_and, and_false, true_and, and_true]
set_option maxHeartbeats 1000000 in
set_option maxRecDepth 20000 in
theorem r1_1_2 (G : gG) : gR (gS1 G) (gB G + 1) 2 = some (gB G + 4) := by
  simp only [gS1, i_36_4, i_36_8, i_99, i_40, i_62, i_82, i_0, i_11, i_30, i_71, i_20, i_113, i_168, n_K_I, n_K_J, n_K_R, n_K_N, n_N_I, n_N_J, n_N_R, n_N_N, n_R_I, n_R_J, n_R_R, n_R_N, n_I_J, n_I_R, n_I_I, n_I_N, n_n_I, n_n_J, n_n_R, n_n_N, gn_S0, if_true, if_false, Nat.add_assoc, Nat.reduceAdd, Nat.add_left_cancel_iff, Nat.add_right_cancel_iff, Nat.reduceEqDiff, Nat.left_eq_add, Nat.add_eq_left, and_self, false_and, and_false, true_and, and_true]
set_option maxHeartbeats 1000000 in
set_option maxRecDepth 20000 in
theorem r1_1_3 (G : gG) : gR (gS1 G) (gB G + 1) 3 = some (gB G + 5) := by
  simp only [gS1, i_36_4, i_36_8, i_99, i_40, i_62, i_82, i_0, i_11, i_30, i_71, i_20, i_113, i_168, n_K_I, n_K_J, n_K_R, n_K_N, n_N_I, n_N_J, n_N_R, n_N_N, n_R_I, n_R_J, n_R_R, n_R_N, n_I_J, n_I_R, n_I_I, n_I_N, n_n_I, n_n_J, n_n_R, n_n_N, gn_S0, if_true, if_false, Nat.add_assoc, Nat.reduceAdd, Nat.add_left_cancel_iff, Nat.add_right_cancel_iff, Nat.reduceEqDiff, Nat.left_eq_add, Nat.add_eq_left, and_self, false_and, and_false, true_and, and_true]
set_option maxHeartbeats 1000000 in
set_option maxRecDepth 20000 in
theorem r1_1_4 (G : gG) : gR (gS1 G) (gB G + 1) 4 = some (gB G + 6) := by
  simp only [gS1, i_36_4, i_36_8, i_99, i_40, i_62, i_82, i_0, i_11, i_30, i_71, i_20, i_113, i_168, n_K_I, n_K_J, n_K_R, n_K_N, n_N_I, n_N_J, n_N_R, n_N_N, n_R_I, n_R_J, n_R_R, n_R_N, n_I_J, n_I_R, n_I_I, n_I_N, n_n_I, n_n_J, n_n_R, n_n_N, gn_S0, if_true, if_false, Nat.add_assoc, Nat.reduceAdd, Nat.add_left_cancel_iff, Nat.add_right_cancel_iff, Nat.reduceEqDiff, Nat.left_eq_add, Nat.add_eq_left, and_self, false_and, and_false, true_and, and_true]
set_option maxHeartbeats 1000000 in
set_option maxRecDepth 20000 in
theorem r1_1_7 (G : gG) : gR (gS1 G) (gB G + 1) 7 = some (gB G + 7) := by
  simp only [gS1, i_36_4, i_36_8, i_99, i_40, i_62, i_82, i_0, i_11, i_30, i_71, i_20, i_113, i_168, n_K_I, n_K_J, n_K_R, n_K_N, n_N_I, n_N_J, n_N_R, n_N_N, n_R_I, n_R_J, n_R_R, n_R_N, n_I_J, n_I_R, n_I_I, n_I_N, n_n_I, n_n_J, n_n_R, n_n_N, gn_S0, if_true, if_false, Nat.add_assoc, Nat.reduceAdd, Nat.add_left_cancel_iff, Nat.add_right_cancel_iff, Nat.reduceEqDiff, Nat.left_eq_add, Nat.add_eq_left, and_self, false_and, and_false, true_and, and_true]
set_option maxHeartbeats 1000000 in
set_option maxRecDepth 20000 in
theorem r1_1_9 (G : gG) : gR (gS1 G) (gB G + 1) 9 = some (gB G + 8) := by
  simp only [gS1, i_36_4, i_36_8, i_99, i_40, i_62, i_82, i_0, i_11, i_30, i_71, i_20, i_113, i_168, n_K_I, n_K_J, n_K_R, n_K_N, n_N_I, n_N_J, n_N_R, n_N_N, n_R_I, n_R_J, n_R_R, n_R_N, n_I_J, n_I_R, n_I_I, n_I_N, n_n_I, n_n_J, n_n_R, n_n_N, gn_S0, if_true, if_false, Nat.add_assoc, Nat.reduceAdd, Nat.add_left_cancel_iff, Nat.add_right_cancel_iff, Nat.reduceEqDiff, Nat.left_eq_add, Nat.add_eq_left, and_self, false_and, and_false, true_and, and_true]
set_option maxHeartbeats 1000000 in
set_option maxRecDepth 20000 in
theorem r1_1_14 (G : gG) : gR (gS1 G) (gB G + 1) 14 = some (gB G + 9) := by
  simp only [gS1, i_36_4, i_36_8, i_99, i_40, i_62, i_82, i_0, i_11, i_30, i_71, i_20, i_113, i_168, n_K_I, n_K_J, n_K_R, n_K_N, n_N_I, n_N_J, n_N_R, n_N_N, n_R_I, n_R_J, n_R_R, n_R_N, n_I_J, n_I_R, n_I_I, n_I_N, n_n_I, n_n_J, n_n_R, n_n_N, gn_S0, if_true, if_false, Nat.add_assoc, Nat.reduceAdd, Nat.add_left_cancel_iff, Nat.add_right_cancel_iff, Nat.reduceEqDiff, Nat.left_eq_add, Nat.add_eq_left, and_self, false_and, and_false, true_and, and_true]
set_option maxHeartbeats 1000000 in
set_option maxRecDepth 20000 in
theorem r1_1_15 (G : gG) : gR (gS1 G) (gB G + 1) 15 = some (gB G + 12) := by
  simp only [gS1, i_36_4, i_36_8, i_99, i_40, i_62, i_82, i_0, i_11, i_30, i_71, i_20, i_113, i_168, n_K_I, n_K_J, n_K_R, n_K_N, n_N_I, n_N_J, n_N_R, n_N_N, n_R_I, n_R_J, n_R_R, n_R_N, n_I_J, n_I_R, n_I_I, n_I_N, n_n_I, n_n_J, n_n_R, n_n_N, gn_S0, if_true, if_false, Nat.add_assoc, Nat.reduceAdd, Nat.add_left_cancel_iff, Nat.add_right_cancel_iff, Nat.reduceEqDiff, Nat.left_eq_add, Nat.add_eq_left, and_self, false_and, and_false, true_and, and_true]
set_option maxHeartbeats 1000000 in
set_option maxRecDepth 20000 in
theorem r1_1_16 (G : gG) : gR (gS1 G) (gB G + 1) 16 = some (gB G + 15) := by
  simp only [gS1, i_36_4, i_36_8, i_99, i_40, i_62, i_82, i_0, i_11, i_30, i_71, i_20, i_113, i_168, n_K_I, n_K_J, n_K_R, n_K_N, n_N_I, n_N_J, n_N_R, n_N_N, n_R_I, n_R_J, n_R_R, n_R_N, n_I_J, n_I_R, n_I_I, n_I_N, n_n_I, n_n_J, n_n_R, n_n_N, gn_S0, if_true, if_false, Nat.add_assoc, Nat.reduceAdd, Nat.add_left_cancel_iff, Nat.add_right_cancel_iff, Nat.reduceEqDiff, Nat.left_eq_add, Nat.add_eq_left, and_self, false_and, and_false, true_and, and_true]
set_option maxHeartbeats 1000000 in
set_option maxRecDepth 20000 in
theorem r1_9_0 (G : gG) : gR (gS1 G) (gB G + 9) 0 = some (gB G + 10) := by
  simp only [gS1, i_36_4, i_36_8, i_99, i_40, i_62, i_82, i_0, i_11, i_30, i_71, i_20, i_113, i_168, n_K_I, n_K_J, n_K_R, n_K_N, n_N_I, n_N_J, n_N_R, n_N_N, n_R_I, n_R_J, n_R_R, n_R_N, n_I_J, n_I_R, n_I_I, n_I_N, n_n_I, n_n_J, n_n_R, n_n_N, gn_S0, if_true, if_false, Nat.add_assoc, Nat.reduceAdd, Nat.add_left_cancel_iff, Nat.add_right_cancel_iff, Nat.reduceEqDiff, Nat.left_eq_add, Nat.add_eq_left, and_self, false_and, and_false, true_and, and_true]
set_option maxHeartbeats 1000000 in
set_option maxRecDepth 20000 in
theorem r1_9_1 (G : gG) : gR (gS1 G) (gB G + 9) 1 = some (gB G + 11) := by
  simp only [gS1, i_36_4, i_36_8, i_99, i_40, i_62, i_82, i_0, i_11, i_30, i_71, i_20, i_113, i_168, n_K_I, n_K_J, n_K_R, n_K_N, n_N_I, n_N_J, n_N_R, n_N_N, n_R_I, n_R_J, n_R_R, n_R_N, n_I_J, n_I_R, n_I_I, n_I_N, n_n_I, n_n_J, n_n_R, n_n_N, gn_S0, if_true, if_false, Nat.add_assoc, Nat.reduceAdd, Nat.add_left_cancel_iff, Nat.add_right_cancel_iff, Nat.reduceEqDiff, Nat.left_eq_add, Nat.add_eq_left, and_self, false_and, and_false, true_and, and_true]
set_option maxHeartbeats 1000000 in
set_option maxRecDepth 20000 in
theorem r1_12_0 (G : gG) : gR (gS1 G) (gB G + 12) 0 = some (gB G + 13) := by
  simp only [gS1, i_36_4, i_36_8, i_99, i_40, i_62, i_82, i_0, i_11, i_30, i_71, i_20, i_113, i_168, n_K_I, n_K_J, n_K_R, n_K_N, n_N_I, n_N_J, n_N_R, n_N_N, n_R_I, n_R_J, n_R_R, n_R_N, n_I_J, n_I_R, n_I_I, n_I_N, n_n_I, n_n_J, n_n_R, n_n_N, gn_S0, if_true, if_false, Nat.add_assoc, Nat.reduceAdd, Nat.add_left_cancel_iff, Nat.add_right_cancel_iff, Nat.reduceEqDiff, Nat.left_eq_add, Nat.add_eq_left, and_self, false_and, and_false, true_and, and_true]
set_option maxHeartbeats 1000000 in
set_option maxRecDepth 20000 in
theorem r1_12_1 (G : gG) : gR (gS1 G) (gB G + 12) 1 = some (gB G + 14) := by
  simp only [gS1, i_36_4, i_36_8, i_99, i_40, i_62, i_82, i_0, i_11, i_30, i_71, i_20, i_113, i_168, n_K_I, n_K_J, n_K_R, n_K_N, n_N_I, n_N_J, n_N_R, n_N_N, n_R_I, n_R_J, n_R_R, n_R_N, n_I_J, n_I_R, n_I_I, n_I_N, n_n_I, n_n_J, n_n_R, n_n_N, gn_S0, if_true, if_false, Nat.add_assoc, Nat.reduceAdd, Nat.add_left_cancel_iff, Nat.add_right_cancel_iff, Nat.reduceEqDiff, Nat.left_eq_add, Nat.add_eq_left, and_self, false_and, and_false, true_and, and_true]
set_option maxHeartbeats 1000000 in
set_option maxRecDepth 20000 in
theorem r1_15_0 (G : gG) : gR (gS1 G) (gB G + 15) 0 = some (gB G + 16) := by
  simp only [gS1, i_36_4, i_36_8, i_99, i_40, i_62, i_82, i_0, i_11, i_30, i_71, i_20, i_113, i_168, n_K_I, n_K_J, n_K_R, n_K_N, n_N_I, n_N_J, n_N_R, n_N_N, n_R_I, n_R_J, n_R_R, n_R_N, n_I_J, n_I_R, n_I_I, n_I_N, n_n_I, n_n_J, n_n_R, n_n_N, gn_S0, if_true, if_false, Nat.add_assoc, Nat.reduceAdd, Nat.add_left_cancel_iff, Nat.add_right_cancel_iff, Nat.reduceEqDiff, Nat.left_eq_add, Nat.add_eq_left, and_self, false_and, and_false, true_and, and_true]
set_option maxHeartbeats 1000000 in
set_option maxRecDepth 20000 in
theorem r1_15_1 (G : gG) : gR (gS1 G) (gB G + 15) 1 = some (gB G + 17) := by
  simp only [gS1, i_36_4, i_36_8, i_99, i_40, i_62, i_82, i_0, i_11, i_30, i_71, i_20, i_113, i_168, n_K_I, n_K_J, n_K_R, n_K_N, n_N_I, n_N_J, n_N_R, n_N_N, n_R_I, n_R_J, n_R_R, n_R_N, n_I_J, n_I_R, n_I_I, n_I_N, n_n_I, n_n_J, n_n_R, n_n_N, gn_S0, if_true, if_false, Nat.add_assoc, Nat.reduceAdd, Nat.add_left_cancel_iff, Nat.add_right_cancel_iff, Nat.reduceEqDiff, Nat.left_eq_add, Nat.add_eq_left, and_self, false_and, and_false, true_and, and_true]
set_option maxHeartbeats 1000000 in
set_option maxRecDepth 20000 in
theorem r1_20_0 (G : gG) : gR (gS1 G) (gB G + 20) 0 = some (gB G + 19) := by
  simp only [gS1, i_36_4, i_36_8, i_99, i_40, i_62, i_82, i_0, i_11, i_30, i_71, i_20, i_113, i_168, n_K_I, n_K_J, n_K_R, n_K_N, n_N_I, n_N_J, n_N_R, n_N_N, n_R_I, n_R_J, n_R_R, n_R_N, n_I_J, n_I_R, n_I_I, n_I_N, n_n_I, n_n_J, n_n_R, n_n_N, gn_S0, if_true, if_false, Nat.add_assoc, Nat.reduceAdd, Nat.add_left_cancel_iff, Nat.add_right_cancel_iff, Nat.reduceEqDiff, Nat.left_eq_add, Nat.add_eq_left, and_self, false_and, and_false, true_and, and_true]
set_option maxHeartbeats 1000000 in
set_option maxRecDepth 20000 in
theorem r1_20_1 (G : gG) : gR (gS1 G) (gB G + 20) 1 = some (gB G + 21) := by
  simp only [gS1, i_36_4, i_36_8, i_99, i_40, i_62, i_82, i_0, i_11, i_30, i_71, i_20, i_113, i_168, n_K_I, n_K_J, n_K_R, n_K_N, n_N_I, n_N_J, n_N_R, n_N_N, n_R_I, n_R_J, n_R_R, n_R_N, n_I_J, n_I_R, n_I_I, n_I_N, n_n_I, n_n_J, n_n_R, n_n_N, gn_S0, if_true, if_false, Nat.add_assoc, Nat.reduceAdd, Nat.add_left_cancel_iff, Nat.add_right_cancel_iff, Nat.reduceEqDiff, Nat.left_eq_add, Nat.add_eq_left, and_self, false_and, and_false, true_and, and_true]
set_option maxHeartbeats 1000000 in
set_option maxRecDepth 20000 in
theorem r1_20_2 (G : gG) : gR (gS1 G) (gB G + 20) 2 = some (gB G + 22) := by
  simp only [gS1, i_36_4, i_36_8, i_99, i_40, i_62, i_82, i_0, i_11, i_30, i_71, i_20, i_113, i_168, n_K_I, n_K_J, n_K_R, n_K_N, n_N_I, n_N_J, n_N_R, n_N_N, n_R_I, n_R_J, n_R_R, n_R_N, n_I_J, n_I_R, n_I_I, n_I_N, n_n_I, n_n_J, n_n_R, n_n_N, gn_S0, if_true, if_false, Nat.add_assoc, Nat.reduceAdd, Nat.add_left_cancel_iff, Nat.add_right_cancel_iff, Nat.reduceEqDiff, Nat.left_eq_add, Nat.add_eq_left, and_self, false_and, and_false, true_and, and_true]
set_option maxHeartbeats 1000000 in
set_option maxRecDepth 20000 in
theorem r1_20_3 (G : gG) : gR (gS1 G) (gB G + 20) 3 = some (gB G + 23) := by
  simp only [gS1, i_36_4, i_36_8, i_99, i_40, i_62, i_82, i_0, i_11, i_30, i_71, i_20, i_113, i_168, n_K_I, n_K_J, n_K_R, n_K_N, n_N_I, n_N_J, n_N_R, n_N_N, n_R_I, n_R_J, n_R_R, n_R_N, n_I_J, n_I_R, n_I_I, n_I_N, n_n_I, n_n_J, n_n_R, n_n_N, gn_S0, if_true, if_false, Nat.add_assoc, Nat.reduceAdd, Nat.add_left_cancel_iff, Nat.add_right_cancel_iff, Nat.reduceEqDiff, Nat.left_eq_add, Nat.add_eq_left, and_self, false_and, and_false, true_and, and_true]
set_option maxHeartbeats 1000000 in
set_option maxRecDepth 20000 in
theorem r1_25_0 (G : gG) : gR (gS1 G) (gB G + 25) 0 = some (gB G + 1) := by
  simp only [gS1, i_36_4, i_36_8, i_99, i_40, i_62, i_82, i_0, i_11, i_30, i_71, i_20, i_113, i_168, n_K_I, n_K_J, n_K_R, n_K_N, n_N_I, n_N_J, n_N_R, n_N_N, n_R_I, n_R_J, n_R_R, n_R_N, n_I_J, n_I_R, n_I_I, n_I_N, n_n_I, n_n_J, n_n_R, n_n_N, gn_S0, if_true, if_false, Nat.add_assoc, Nat.reduceAdd, Nat.add_left_cancel_iff, Nat.add_right_cancel_iff, Nat.reduceEqDiff, Nat.left_eq_add, Nat.add_eq_left, and_self, false_and, and_false, true_and, and_true]
set_option maxHeartbeats 1000000 in
set_option maxRecDepth 20000 in
theorem r1_25_1 (G : gG) : gR (gS1 G) (gB G + 25) 1 = some (gB G + 26) := by
  simp only [gS1, i_36_4, i_36_8, i_99, i_40, i_62, i_82, i_0, i_11, i_30, i_71, i_20, i_113, i_168, n_K_I, n_K_J, n_K_R, n_K_N, n_N_I, n_N_J, n_N_R, n_N_N, n_R_I, n_R_J, n_R_R, n_R_N, n_I_J, n_I_R, n_I_I, n_I_N, n_n_I, n_n_J, n_n_R, n_n_N, gn_S0, if_true, if_false, Nat.add_assoc, Nat.reduceAdd, Nat.add_left_cancel_iff, Nat.add_right_cancel_iff, Nat.reduceEqDiff, Nat.left_eq_add, Nat.add_eq_left, and_self, false_and, and_false, true_and, and_true]
set_option maxHeartbeats 1000000 in
set_option maxRecDepth 20000 in
theorem r1_25_2 (G : gG) : gR (gS1 G) (gB G + 25) 2 = some (gB G + 29) := by
  simp only [gS1, i_36_4, i_36_8, i_99, i_40, i_62, i_82, i_0, i_11, i_30, i_71, i_20, i_113, i_168, n_K_I, n_K_J, n_K_R, n_K_N, n_N_I, n_N_J, n_N_R, n_N_N, n_R_I, n_R_J, n_R_R, n_R_N, n_I_J, n_I_R, n_I_I, n_I_N, n_n_I, n_n_J, n_n_R, n_n_N, gn_S0, if_true, if_false, Nat.add_assoc, Nat.reduceAdd, Nat.add_left_cancel_iff, Nat.add_right_cancel_iff, Nat.reduceEqDiff, Nat.left_eq_add, Nat.add_eq_left, and_self, false_and, and_false, true_and, and_true]
set_option maxHeartbeats 1000000 in
set_option maxRecDepth 20000 in
theorem r1_25_3 (G : gG) : gR (gS1 G) (gB G + 25) 3 = some (gB G + 30) := by
  simp only [gS1, i_36_4, i_36_8, i_99, i_40, i_62, i_82, i_0, i_11, i_30, i_71, i_20, i_113, i_168, n_K_I, n_K_J, n_K_R, n_K_N, n_N_I, n_N_J, n_N_R, n_N_N, n_R_I, n_R_J, n_R_R, n_R_N, n_I_J, n_I_R, n_I_I, n_I_N, n_n_I, n_n_J, n_n_R, n_n_N, gn_S0, if_true, if_false, Nat.add_assoc, Nat.reduceAdd, Nat.add_left_cancel_iff, Nat.add_right_cancel_iff, Nat.reduceEqDiff, Nat.left_eq_add, Nat.add_eq_left, and_self, false_and, and_false, true_and, and_true]
set_option maxHeartbeats 1000000 in
set_option maxRecDepth 20000 in
theorem r1_25_4 (G : gG) : gR (gS1 G) (gB G + 25) 4 = some (gB G + 31) := by
  simp only [gS1, i_36_4, i_36_8, i_99, i_40, i_62, i_82, i_0, i_11, i_30, i_71, i_20, i_113, i_168, n_K_I, n_K_J, n_K_R, n_K_N, n_N_I, n_N_J, n_N_R, n_N_N, n_R_I, n_R_J, n_R_R, n_R_N, n_I_J, n_I_R, n_I_I, n_I_N, n_n_I, n_n_J, n_n_R, n_n_N, gn_S0, if_true, if_false, Nat.add_assoc, Nat.reduceAdd, Nat.add_left_cancel_iff, Nat.add_right_cancel_iff, Nat.reduceEqDiff, Nat.left_eq_add, Nat.add_eq_left, and_self, false_and, and_false, true_and, and_true]
set_option maxHeartbeats 1000000 in
set_option maxRecDepth 20000 in
theorem r1_25_5 (G : gG) : gR (gS1 G) (gB G + 25) 5 = some (gB G + 32) := by
  simp only [gS1, i_36_4, i_36_8, i_99, i_40, i_62, i_82, i_0, i_11, i_30, i_71, i_20, i_113, i_168, n_K_I, n_K_J, n_K_R, n_K_N, n_N_I, n_N_J, n_N_R, n_N_N, n_R_I, n_R_J, n_R_R, n_R_N, n_I_J, n_I_R, n_I_I, n_I_N, n_n_I, n_n_J, n_n_R, n_n_N, gn_S0, if_true, if_false, Nat.add_assoc, Nat.reduceAdd, Nat.add_left_cancel_iff, Nat.add_right_cancel_iff, Nat.reduceEqDiff, Nat.left_eq_add, Nat.add_eq_left, and_self, false_and, and_false, true_and, and_true]
set_option maxHeartbeats 1000000 in
set_option maxRecDepth 20000 in
theorem r1_26_0 (G : gG) : gR (gS1 G) (gB G + 26) 0 = some (gB G + 27) := by
  simp only [gS1, i_36_4, i_36_8, i_99, i_40, i_62, i_82, i_0, i_11, i_30, i_71, i_20, i_113, i_168, n_K_I, n_K_J, n_K_R, n_K_N, n_N_I, n_N_J, n_N_R, n_N_N, n_R_I, n_R_J, n_R_R, n_R_N, n_I_J, n_I_R, n_I_I, n_I_N, n_n_I, n_n_J, n_n_R, n_n_N, gn_S0, if_true, if_false, Nat.add_assoc, Nat.reduceAdd, Nat.add_left_cancel_iff, Nat.add_right_cancel_iff, Nat.reduceEqDiff, Nat.left_eq_add, Nat.add_eq_left, and_self, false_and, and_false, true_and, and_true]
set_option maxHeartbeats 1000000 in
set_option maxRecDepth 20000 in
theorem r1_26_1 (G : gG) : gR (gS1 G) (gB G + 26) 1 = some (gB G + 28) := by
  simp only [gS1, i_36_4, i_36_8, i_99, i_40, i_62, i_82, i_0, i_11, i_30, i_71, i_20, i_113, i_168, n_K_I, n_K_J, n_K_R, n_K_N, n_N_I, n_N_J, n_N_R, n_N_N, n_R_I, n_R_J, n_R_R, n_R_N, n_I_J, n_I_R, n_I_I, n_I_N, n_n_I, n_n_J, n_n_R, n_n_N, gn_S0, if_true, if_false, Nat.add_assoc, Nat.reduceAdd, Nat.add_left_cancel_iff, Nat.add_right_cancel_iff, Nat.reduceEqDiff, Nat.left_eq_add, Nat.add_eq_left, and_self, false_and, and_false, true_and, and_true]
set_option maxHeartbeats 1000000 in
set_option maxRecDepth 20000 in
theorem r1_33_0 (G : gG) : gR (gS1 G) (gB G + 33) 0 = some (gB G + 1) := by
  simp only [gS1, i_36_4, i_36_8, i_99, i_40, i_62, i_82, i_0, i_11, i_30, i_71, i_20, i_113, i_168, n_K_I, n_K_J, n_K_R, n_K_N, n_N_I, n_N_J, n_N_R, n_N_N, n_R_I, n_R_J, n_R_R, n_R_N, n_I_J, n_I_R, n_I_I, n_I_N, n_n_I, n_n_J, n_n_R, n_n_N, gn_S0, if_true, if_false, Nat.add_assoc, Nat.reduceAdd, Nat.add_left_cancel_iff, Nat.add_right_cancel_iff, Nat.reduceEqDiff, Nat.left_eq_add, Nat.add_eq_left, and_self, false_and, and_false, true_and, and_true]
set_option maxHeartbeats 1000000 in
set_option maxRecDepth 20000 in
theorem r1_33_1 (G : gG) : gR (gS1 G) (gB G + 33) 1 = some (gB G + 34) := by
  simp only [gS1, i_36_4, i_36_8, i_99, i_40, i_62, i_82, i_0, i_11, i_30, i_71, i_20, i_113, i_168, n_K_I, n_K_J, n_K_R, n_K_N, n_N_I, n_N_J, n_N_R, n_N_N, n_R_I, n_R_J, n_R_R, n_R_N, n_I_J, n_I_R, n_I_I, n_I_N, n_n_I, n_n_J, n_n_R, n_n_N, gn_S0, if_true, if_false, Nat.add_assoc, Nat.reduceAdd, Nat.add_left_cancel_iff, Nat.add_right_cancel_iff, Nat.reduceEqDiff, Nat.left_eq_add, Nat.add_eq_left, and_self, false_and, and_false, true_and, and_true]
set_option maxHeartbeats 1000000 in
set_option maxRecDepth 20000 in
theorem r1_33_2 (G : gG) : gR (gS1 G) (gB G + 33) 2 = some (gB G + 35) := by
  simp only [gS1, i_36_4, i_36_8, i_99, i_40, i_62, i_82, i_0, i_11, i_30, i_71, i_20, i_113, i_168, n_K_I, n_K_J, n_K_R, n_K_N, n_N_I, n_N_J, n_N_R, n_N_N, n_R_I, n_R_J, n_R_R, n_R_N, n_I_J, n_I_R, n_I_I, n_I_N, n_n_I, n_n_J, n_n_R, n_n_N, gn_S0, if_true, if_false, Nat.add_assoc, Nat.reduceAdd, Nat.add_left_cancel_iff, Nat.add_right_cancel_iff, Nat.reduceEqDiff, Nat.left_eq_add, Nat.add_eq_left, and_self, false_and, and_false, true_and, and_true]
set_option maxHeartbeats 1000000 in
set_option maxRecDepth 20000 in
theorem r1_33_3 (G : gG) : gR (gS1 G) (gB G + 33) 3 = some (gB G + 36) := by
  simp only [gS1, i_36_4, i_36_8, i_99, i_40, i_62, i_82, i_0, i_11, i_30, i_71, i_20, i_113, i_168, n_K_I, n_K_J, n_K_R, n_K_N, n_N_I, n_N_J, n_N_R, n_N_N, n_R_I, n_R_J, n_R_R, n_R_N, n_I_J, n_I_R, n_I_I, n_I_N, n_n_I, n_n_J, n_n_R, n_n_N, gn_S0, if_true, if_false, Nat.add_assoc, Nat.reduceAdd, Nat.add_left_cancel_iff, Nat.add_right_cancel_iff, Nat.reduceEqDiff, Nat.left_eq_add, Nat.add_eq_left, and_self, false_and, and_false, true_and, and_true]
set_option maxHeartbeats 1000000 in
set_option maxRecDepth 20000 in
theorem r1_37_0 (G : gG) : gR (gS1 G) (gB G + 37) 0 = some (gB G + 1) := by
  simp only [gS1, i_36_4, i_36_8, i_99, i_40, i_62, i_82, i_0, i_11, i_30, i_71, i_20, i_113, i_168, n_K_I, n_K_J, n_K_R, n_K_N, n_N_I, n_N_J, n_N_R, n_N_N, n_R_I, n_R_J, n_R_R, n_R_N, n_I_J, n_I_R, n_I_I, n_I_N, n_n_I, n_n_J, n_n_R, n_n_N, gn_S0, if_true, if_false, Nat.add_assoc, Nat.reduceAdd, Nat.add_left_cancel_iff, Nat.add_right_cancel_iff, Nat.reduceEqDiff, Nat.left_eq_add, Nat.add_eq_left, and_self, false_and, and_false, true_and, and_true]
set_option maxHeartbeats 1000000 in
set_option maxRecDepth 20000 in
theorem r1_37_1 (G : gG) : gR (gS1 G) (gB G + 37) 1 = some (gB G + 38) := by
  simp only [gS1, i_36_4, i_36_8, i_99, i_40, i_62, i_82, i_0, i_11, i_30, i_71, i_20, i_113, i_168, n_K_I, n_K_J, n_K_R, n_K_N, n_N_I, n_N_J, n_N_R, n_N_N, n_R_I, n_R_J, n_R_R, n_R_N, n_I_J, n_I_R, n_I_I, n_I_N, n_n_I, n_n_J, n_n_R, n_n_N, gn_S0, if_true, if_false, Nat.add_assoc, Nat.reduceAdd, Nat.add_left_cancel_iff, Nat.add_right_cancel_iff, Nat.reduceEqDiff, Nat.left_eq_add, Nat.add_eq_left, and_self, false_and, and_false, true_and, and_true]
set_option maxHeartbeats 1000000 in
set_option maxRecDepth 20000 in
theorem r1_37_2 (G : gG) : gR (gS1 G) (gB G + 37) 2 = some (gB G + 39) := by
  simp only [gS1, i_36_4, i_36_8, i_99, i_40, i_62, i_82, i_0, i_11, i_30, i_71, i_20, i_113, i_168, n_K_I, n_K_J, n_K_R, n_K_N, n_N_I, n_N_J, n_N_R, n_N_N, n_R_I, n_R_J, n_R_R, n_R_N, n_I_J, n_I_R, n_I_I, n_I_N, n_n_I, n_n_J, n_n_R, n_n_N, gn_S0, if_true, if_false, Nat.add_assoc, Nat.reduceAdd, Nat.add_left_cancel_iff, Nat.add_right_cancel_iff, Nat.reduceEqDiff, Nat.left_eq_add, Nat.add_eq_left, and_self, false_and, and_false, true_and, and_true]
set_option maxHeartbeats 1000000 in
set_option maxRecDepth 20000 in
theorem r1_37_3 (G : gG) : gR (gS1 G) (gB G + 37) 3 = some (gB G + 40) := by
  simp only [gS1, i_36_4, i_36_8, i_99, i_40, i_62, i_82, i_0, i_11, i_30, i_71, i_20, i_113, i_168, n_K_I, n_K_J, n_K_R, n_K_N, n_N_I, n_N_J, n_N_R, n_N_N, n_R_I, n_R_J, n_R_R, n_R_N, n_I_J, n_I_R, n_I_I, n_I_N, n_n_I, n_n_J, n_n_R, n_n_N, gn_S0, if_true, if_false, Nat.add_assoc, Nat.reduceAdd, Nat.add_left_cancel_iff, Nat.add_right_cancel_iff, Nat.reduceEqDiff, Nat.left_eq_add, Nat.add_eq_left, and_self, false_and, and_false, true_and, and_true]
set_option maxHeartbeats 1000000 in
set_option maxRecDepth 20000 in
theorem r1_37_5 (G : gG) : gR (gS1 G) (gB G + 37) 5 = some (gB G + 41) := by
  simp only [gS1, i_36_4, i_36_8, i_99, i_40, i_62, i_82, i_0, i_11, i_30, i_71, i_20, i_113, i_168, n_K_I, n_K_J, n_K_R, n_K_N, n_N_I, n_N_J, n_N_R, n_N_N, n_R_I, n_R_J, n_R_R, n_R_N, n_I_J, n_I_R, n_I_I, n_I_N, n_n_I, n_n_J, n_n_R, n_n_N, gn_S0, if_true, if_false, Nat.add_assoc, Nat.reduceAdd, Nat.add_left_cancel_iff, Nat.add_right_cancel_iff, Nat.reduceEqDiff, Nat.left_eq_add, Nat.add_eq_left, and_self, false_and, and_false, true_and, and_true]
set_option maxHeartbeats 1000000 in
set_option maxRecDepth 20000 in
theorem r1_42_0 (G : gG) : gR (gS1 G) (gB G + 42) 0 = some (gB G + 1) := by
  simp only [gS1, i_36_4, i_36_8, i_99, i_40, i_62, i_82, i_0, i_11, i_30, i_71, i_20, i_113, i_168, n_K_I, n_K_J, n_K_R, n_K_N, n_N_I, n_N_J, n_N_R, n_N_N, n_R_I, n_R_J, n_R_R, n_R_N, n_I_J, n_I_R, n_I_I, n_I_N, n_n_I, n_n_J, n_n_R, n_n_N, gn_S0, if_true, if_false, Nat.add_assoc, Nat.reduceAdd, Nat.add_left_cancel_iff, Nat.add_right_cancel_iff, Nat.reduceEqDiff, Nat.left_eq_add, Nat.add_eq_left, and_self, false_and, and_false, true_and, and_true]
set_option maxHeartbeats 1000000 in
set_option maxRecDepth 20000 in
theorem r1_42_1 (G : gG) : gR (gS1 G) (gB G + 42) 1 = some (gB G + 43) := by
  simp only [gS1, i_36_4, i_36_8, i_99, i_40, i_62, i_82, i_0, i_11, i_30, i_71, i_20, i_113, i_168, n_K_I, n_K_J, n_K_R, n_K_N, n_N_I, n_N_J, n_N_R, n_N_N, n_R_I, n_R_J, n_R_R, n_R_N, n_I_J, n_I_R, n_I_I, n_I_N, n_n_I, n_n_J, n_n_R, n_n_N, gn_S0, if_true, if_false, Nat.add_assoc, Nat.reduceAdd, Nat.add_left_cancel_iff, Nat.add_right_cancel_iff, Nat.reduceEqDiff, Nat.left_eq_add, Nat.add_eq_left, and_self, false_and, and_false, true_and, and_true]
set_option maxHeartbeats 1000000 in
set_option maxRecDepth 20000 in
theorem r1_42_2 (G : gG) : gR (gS1 G) (gB G + 42) 2 = some (gB G + 44) := by
  simp only [gS1, i_36_4, i_36_8, i_99, i_40, i_62, i_82, i_0, i_11, i_30, i_71, i_20, i_113, i_168, n_K_I, n_K_J, n_K_R, n_K_N, n_N_I, n_N_J, n_N_R, n_N_N, n_R_I, n_R_J, n_R_R, n_R_N, n_I_J, n_I_R, n_I_I, n_I_N, n_n_I, n_n_J, n_n_R, n_n_N, gn_S0, if_true, if_false, Nat.add_assoc, Nat.reduceAdd, Nat.add_left_cancel_iff, Nat.add_right_cancel_iff, Nat.reduceEqDiff, Nat.left_eq_add, Nat.add_eq_left, and_self, false_and, and_false, true_and, and_true]
set_option maxHeartbeats 1000000 in
set_option maxRecDepth 20000 in
theorem r1_45_0 (G : gG) : gR (gS1 G) (gB G + 45) 0 = some (gB G + 1) := by
  simp only [gS1, i_36_4, i_36_8, i_99, i_40, i_62, i_82, i_0, i_11, i_30, i_71, i_20, i_113, i_168, n_K_I, n_K_J, n_K_R, n_K_N, n_N_I, n_N_J, n_N_R, n_N_N, n_R_I, n_R_J, n_R_R, n_R_N, n_I_J, n_I_R, n_I_I, n_I_N, n_n_I, n_n_J, n_n_R, n_n_N, gn_S0, if_true, if_false, Nat.add_assoc, Nat.reduceAdd, Nat.add_left_cancel_iff, Nat.add_right_cancel_iff, Nat.reduceEqDiff, Nat.left_eq_add, Nat.add_eq_left, and_self, false_and, and_false, true_and, and_true]
set_option maxHeartbeats 1000000 in
set_option maxRecDepth 20000 in
theorem r1_45_1 (G : gG) : gR (gS1 G) (gB G + 45) 1 = some (gB G + 25) := by
  simp only [gS1, i_36_4, i_36_8, i_99, i_40, i_62, i_82, i_0, i_11, i_30, i_71, i_20, i_113, i_168, n_K_I, n_K_J, n_K_R, n_K_N, n_N_I, n_N_J, n_N_R, n_N_N, n_R_I, n_R_J, n_R_R, n_R_N, n_I_J, n_I_R, n_I_I, n_I_N, n_n_I, n_n_J, n_n_R, n_n_N, gn_S0, if_true, if_false, Nat.add_assoc, Nat.reduceAdd, Nat.add_left_cancel_iff, Nat.add_right_cancel_iff, Nat.reduceEqDiff, Nat.left_eq_add, Nat.add_eq_left, and_self, false_and, and_false, true_and, and_true]
set_option maxHeartbeats 1000000 in
set_option maxRecDepth 20000 in
theorem r1_45_2 (G : gG) : gR (gS1 G) (gB G + 45) 2 = some (gB G + 46) := by
  simp only [gS1, i_36_4, i_36_8, i_99, i_40, i_62, i_82, i_0, i_11, i_30, i_71, i_20, i_113, i_168, n_K_I, n_K_J, n_K_R, n_K_N, n_N_I, n_N_J, n_N_R, n_N_N, n_R_I, n_R_J, n_R_R, n_R_N, n_I_J, n_I_R, n_I_I, n_I_N, n_n_I, n_n_J, n_n_R, n_n_N, gn_S0, if_true, if_false, Nat.add_assoc, Nat.reduceAdd, Nat.add_left_cancel_iff, Nat.add_right_cancel_iff, Nat.reduceEqDiff, Nat.left_eq_add, Nat.add_eq_left, and_self, false_and, and_false, true_and, and_true]
set_option maxHeartbeats 1000000 in
set_option maxRecDepth 20000 in
theorem r1_45_3 (G : gG) : gR (gS1 G) (gB G + 45) 3 = some (gB G + 47) := by
  simp only [gS1, i_36_4, i_36_8, i_99, i_40, i_62, i_82, i_0, i_11, i_30, i_71, i_20, i_113, i_168, n_K_I, n_K_J, n_K_R, n_K_N, n_N_I, n_N_J, n_N_R, n_N_N, n_R_I, n_R_J, n_R_R, n_R_N, n_I_J, n_I_R, n_I_I, n_I_N, n_n_I, n_n_J, n_n_R, n_n_N, gn_S0, if_true, if_false, Nat.add_assoc, Nat.reduceAdd, Nat.add_left_cancel_iff, Nat.add_right_cancel_iff, Nat.reduceEqDiff, Nat.left_eq_add, Nat.add_eq_left, and_self, false_and, and_false, true_and, and_true]
set_option maxHeartbeats 1000000 in
set_option maxRecDepth 20000 in
theorem r1_45_4 (G : gG) : gR (gS1 G) (gB G + 45) 4 = some (gB G + 48) := by
  simp only [gS1, i_36_4, i_36_8, i_99, i_40, i_62, i_82, i_0, i_11, i_30, i_71, i_20, i_113, i_168, n_K_I, n_K_J, n_K_R, n_K_N, n_N_I, n_N_J, n_N_R, n_N_N, n_R_I, n_R_J, n_R_R, n_R_N, n_I_J, n_I_R, n_I_I, n_I_N, n_n_I, n_n_J, n_n_R, n_n_N, gn_S0, if_true, if_false, Nat.add_assoc, Nat.reduceAdd, Nat.add_left_cancel_iff, Nat.add_right_cancel_iff, Nat.reduceEqDiff, Nat.left_eq_add, Nat.add_eq_left, and_self, false_and, and_false, true_and, and_true]
set_option maxHeartbeats 1000000 in
set_option maxRecDepth 20000 in
theorem r1_50_0 (G : gG) : gR (gS1 G) (gB G + 50) 0 = some (gB G + 1) := by
  simp only [gS1, i_36_4, i_36_8, i_99, i_40, i_62, i_82, i_0, i_11, i_30, i_71, i_20, i_113, i_168, n_K_I, n_K_J, n_K_R, n_K_N, n_N_I, n_N_J, n_N_R, n_N_N, n_R_I, n_R_J, n_R_R, n_R_N, n_I_J, n_I_R, n_I_I, n_I_N, n_n_I, n_n_J, n_n_R, n_n_N, gn_S0, if_true, if_false, Nat.add_assoc, Nat.reduceAdd, Nat.add_left_cancel_iff, Nat.add_right_cancel_iff, Nat.reduceEqDiff, Nat.left_eq_add, Nat.add_eq_left, and_self, false_and, and_false, true_and, and_true]
set_option maxHeartbeats 1000000 in
set_option maxRecDepth 20000 in
theorem r1_50_1 (G : gG) : gR (gS1 G) (gB G + 50) 1 = some (gB G + 25) := by
  simp only [gS1, i_36_4, i_36_8, i_99, i_40, i_62, i_82, i_0, i_11, i_30, i_71, i_20, i_113, i_168, n_K_I, n_K_J, n_K_R, n_K_N, n_N_I, n_N_J, n_N_R, n_N_N, n_R_I, n_R_J, n_R_R, n_R_N, n_I_J, n_I_R, n_I_I, n_I_N, n_n_I, n_n_J, n_n_R, n_n_N, gn_S0, if_true, if_false, Nat.add_assoc, Nat.reduceAdd, Nat.add_left_cancel_iff, Nat.add_right_cancel_iff, Nat.reduceEqDiff, Nat.left_eq_add, Nat.add_eq_left, and_self, false_and, and_false, true_and, and_true]
set_option maxHeartbeats 1000000 in
set_option maxRecDepth 20000 in
theorem r1_50_2 (G : gG) : gR (gS1 G) (gB G + 50) 2 = some (gB G + 33) := by
  simp only [gS1, i_36_4, i_36_8, i_99, i_40, i_62, i_82, i_0, i_11, i_30, i_71, i_20, i_113, i_168, n_K_I, n_K_J, n_K_R, n_K_N, n_N_I, n_N_J, n_N_R, n_N_N, n_R_I, n_R_J, n_R_R, n_R_N, n_I_J, n_I_R, n_I_I, n_I_N, n_n_I, n_n_J, n_n_R, n_n_N, gn_S0, if_true, if_false, Nat.add_assoc, Nat.reduceAdd, Nat.add_left_cancel_iff, Nat.add_right_cancel_iff, Nat.reduceEqDiff, Nat.left_eq_add, Nat.add_eq_left, and_self, false_and, and_false, true_and, and_true]
set_option maxHeartbeats 1000000 in
set_option maxRecDepth 20000 in
theorem r1_50_3 (G : gG) : gR (gS1 G) (gB G + 50) 3 = some (gB G + 51) := by
  simp only [gS1, i_36_4, i_36_8, i_99, i_40, i_62, i_82, i_0, i_11, i_30, i_71, i_20, i_113, i_168, n_K_I, n_K_J, n_K_R, n_K_N, n_N_I, n_N_J, n_N_R, n_N_N, n_R_I, n_R_J, n_R_R, n_R_N, n_I_J, n_I_R, n_I_I, n_I_N, n_n_I, n_n_J, n_n_R, n_n_N, gn_S0, if_true, if_false, Nat.add_assoc, Nat.reduceAdd, Nat.add_left_cancel_iff, Nat.add_right_cancel_iff, Nat.reduceEqDiff, Nat.left_eq_add, Nat.add_eq_left, and_self, false_and, and_false, true_and, and_true]
set_option maxHeartbeats 1000000 in
set_option maxRecDepth 20000 in
theorem r1_50_4 (G : gG) : gR (gS1 G) (gB G + 50) 4 = some (gB G + 52) := by
  simp only [gS1, i_36_4, i_36_8, i_99, i_40, i_62, i_82, i_0, i_11, i_30, i_71, i_20, i_113, i_168, n_K_I, n_K_J, n_K_R, n_K_N, n_N_I, n_N_J, n_N_R, n_N_N, n_R_I, n_R_J, n_R_R, n_R_N, n_I_J, n_I_R, n_I_I, n_I_N, n_n_I, n_n_J, n_n_R, n_n_N, gn_S0, if_true, if_false, Nat.add_assoc, Nat.reduceAdd, Nat.add_left_cancel_iff, Nat.add_right_cancel_iff, Nat.reduceEqDiff, Nat.left_eq_add, Nat.add_eq_left, and_self, false_and, and_false, true_and, and_true]
set_option maxHeartbeats 1000000 in
set_option maxRecDepth 20000 in
theorem r1_50_5 (G : gG) : gR (gS1 G) (gB G + 50) 5 = some (gB G + 53) := by
  simp only [gS1, i_36_4, i_36_8, i_99, i_40, i_62, i_82, i_0, i_11, i_30, i_71, i_20, i_113, i_168, n_K_I, n_K_J, n_K_R, n_K_N, n_N_I, n_N_J, n_N_R, n_N_N, n_R_I, n_R_J, n_R_R, n_R_N, n_I_J, n_I_R, n_I_I, n_I_N, n_n_I, n_n_J, n_n_R, n_n_N, gn_S0, if_true, if_false, Nat.add_assoc, Nat.reduceAdd, Nat.add_left_cancel_iff, Nat.add_right_cancel_iff, Nat.reduceEqDiff, Nat.left_eq_add, Nat.add_eq_left, and_self, false_and, and_false, true_and, and_true]
set_option maxHeartbeats 1000000 in
set_option maxRecDepth 20000 in
theorem r1_54_2 (G : gG) : gR (gS1 G) (gB G + 54) 2 = some (gB G + 55) := by
  simp only [gS1, i_36_4, i_36_8, i_99, i_40, i_62, i_82, i_0, i_11, i_30, i_71, i_20, i_113, i_168, n_K_I, n_K_J, n_K_R, n_K_N, n_N_I, n_N_J, n_N_R, n_N_N, n_R_I, n_R_J, n_R_R, n_R_N, n_I_J, n_I_R, n_I_I, n_I_N, n_n_I, n_n_J, n_n_R, n_n_N, gn_S0, if_true, if_false, Nat.add_assoc, Nat.reduceAdd, Nat.add_left_cancel_iff, Nat.add_right_cancel_iff, Nat.reduceEqDiff, Nat.left_eq_add, Nat.add_eq_left, and_self, false_and, and_false, true_and, and_true]
set_option maxHeartbeats 1000000 in
set_option maxRecDepth 20000 in
theorem r1_54_3 (G : gG) : gR (gS1 G) (gB G + 54) 3 = some (gB G + 56) := by
  simp only [gS1, i_36_4, i_36_8, i_99, i_40, i_62, i_82, i_0, i_11, i_30, i_71, i_20, i_113, i_168, n_K_I, n_K_J, n_K_R, n_K_N, n_N_I, n_N_J, n_N_R, n_N_N, n_R_I, n_R_J, n_R_R, n_R_N, n_I_J, n_I_R, n_I_I, n_I_N, n_n_I, n_n_J, n_n_R, n_n_N, gn_S0, if_true, if_false, Nat.add_assoc, Nat.reduceAdd, Nat.add_left_cancel_iff, Nat.add_right_cancel_iff, Nat.reduceEqDiff, Nat.left_eq_add, Nat.add_eq_left, and_self, false_and, and_false, true_and, and_true]
set_option maxHeartbeats 1000000 in
set_option maxRecDepth 20000 in
theorem r1_54_4 (G : gG) : gR (gS1 G) (gB G + 54) 4 = some (gB G + 57) := by
  simp only [gS1, i_36_4, i_36_8, i_99, i_40, i_62, i_82, i_0, i_11, i_30, i_71, i_20, i_113, i_168, n_K_I, n_K_J, n_K_R, n_K_N, n_N_I, n_N_J, n_N_R, n_N_N, n_R_I, n_R_J, n_R_R, n_R_N, n_I_J, n_I_R, n_I_I, n_I_N, n_n_I, n_n_J, n_n_R, n_n_N, gn_S0, if_true, if_false, Nat.add_assoc, Nat.reduceAdd, Nat.add_left_cancel_iff, Nat.add_right_cancel_iff, Nat.reduceEqDiff, Nat.left_eq_add, Nat.add_eq_left, and_self, false_and, and_false, true_and, and_true]
set_option maxHeartbeats 1000000 in
set_option maxRecDepth 20000 in
theorem r1_54_5 (G : gG) : gR (gS1 G) (gB G + 54) 5 = some (gB G + 58) := by
  simp only [gS1, i_36_4, i_36_8, i_99, i_40, i_62, i_82, i_0, i_11, i_30, i_71, i_20, i_113, i_168, n_K_I, n_K_J, n_K_R, n_K_N, n_N_I, n_N_J, n_N_R, n_N_N, n_R_I, n_R_J, n_R_R, n_R_N, n_I_J, n_I_R, n_I_I, n_I_N, n_n_I, n_n_J, n_n_R, n_n_N, gn_S0, if_true, if_false, Nat.add_assoc, Nat.reduceAdd, Nat.add_left_cancel_iff, Nat.add_right_cancel_iff, Nat.reduceEqDiff, Nat.left_eq_add, Nat.add_eq_left, and_self, false_and, and_false, true_and, and_true]
set_option maxHeartbeats 1000000 in
set_option maxRecDepth 20000 in
theorem r1_54_7 (G : gG) : gR (gS1 G) (gB G + 54) 7 = some (gB G + 59) := by
  simp only [gS1, i_36_4, i_36_8, i_99, i_40, i_62, i_82, i_0, i_11, i_30, i_71, i_20, i_113, i_168, n_K_I, n_K_J, n_K_R, n_K_N, n_N_I, n_N_J, n_N_R, n_N_N, n_R_I, n_R_J, n_R_R, n_R_N, n_I_J, n_I_R, n_I_I, n_I_N, n_n_I, n_n_J, n_n_R, n_n_N, gn_S0, if_true, if_false, Nat.add_assoc, Nat.reduceAdd, Nat.add_left_cancel_iff, Nat.add_right_cancel_iff, Nat.reduceEqDiff, Nat.left_eq_add, Nat.add_eq_left, and_self, false_and, and_false, true_and, and_true]
set_option maxHeartbeats 1000000 in
set_option maxRecDepth 20000 in
theorem r1_54_8 (G : gG) : gR (gS1 G) (gB G + 54) 8 = some (gB G + 60) := by
  simp only [gS1, i_36_4, i_36_8, i_99, i_40, i_62, i_82, i_0, i_11, i_30, i_71, i_20, i_113, i_168, n_K_I, n_K_J, n_K_R, n_K_N, n_N_I, n_N_J, n_N_R, n_N_N, n_R_I, n_R_J, n_R_R, n_R_N, n_I_J, n_I_R, n_I_I, n_I_N, n_n_I, n_n_J, n_n_R, n_n_N, gn_S0, if_true, if_false, Nat.add_assoc, Nat.reduceAdd, Nat.add_left_cancel_iff, Nat.add_right_cancel_iff, Nat.reduceEqDiff, Nat.left_eq_add, Nat.add_eq_left, and_self, false_and, and_false, true_and, and_true]
set_option maxHeartbeats 1000000 in
set_option maxRecDepth 20000 in
theorem r1_54_9 (G : gG) : gR (gS1 G) (gB G + 54) 9 = some (gB G + 61) := by
  simp only [gS1, i_36_4, i_36_8, i_99, i_40, i_62, i_82, i_0, i_11, i_30, i_71, i_20, i_113, i_168, n_K_I, n_K_J, n_K_R, n_K_N, n_N_I, n_N_J, n_N_R, n_N_N, n_R_I, n_R_J, n_R_R, n_R_N, n_I_J, n_I_R, n_I_I, n_I_N, n_n_I, n_n_J, n_n_R, n_n_N, gn_S0, if_true, if_false, Nat.add_assoc, Nat.reduceAdd, Nat.add_left_cancel_iff, Nat.add_right_cancel_iff, Nat.reduceEqDiff, Nat.left_eq_add, Nat.add_eq_left, and_self, false_and, and_false, true_and, and_true]
set_option maxHeartbeats 1000000 in
set_option maxRecDepth 20000 in
theorem r1_54_12 (G : gG) : gR (gS1 G) (gB G + 54) 12 = some (gB G + 62) := by
  simp only [gS1, i_36_4, i_36_8, i_99, i_40, i_62, i_82, i_0, i_11, i_30, i_71, i_20, i_113, i_168, n_K_I, n_K_J, n_K_R, n_K_N, n_N_I, n_N_J, n_N_R, n_N_N, n_R_I, n_R_J, n_R_R, n_R_N, n_I_J, n_I_R, n_I_I, n_I_N, n_n_I, n_n_J, n_n_R, n_n_N, gn_S0, if_true, if_false, Nat.add_assoc, Nat.reduceAdd, Nat.add_left_cancel_iff, Nat.add_right_cancel_iff, Nat.reduceEqDiff, Nat.left_eq_add, Nat.add_eq_left, and_self, false_and, and_false, true_and, and_true]
set_option maxHeartbeats 1000000 in
set_option maxRecDepth 20000 in
theorem r1_54_13 (G : gG) : gR (gS1 G) (gB G + 54) 13 = some (gB G + 63) := by
  simp only [gS1, i_36_4, i_36_8, i_99, i_40, i_62, i_82, i_0, i_11, i_30, i_71, i_20, i_113, i_168, n_K_I, n_K_J, n_K_R, n_K_N, n_N_I, n_N_J, n_N_R, n_N_N, n_R_I, n_R_J, n_R_R, n_R_N, n_I_J, n_I_R, n_I_I, n_I_N, n_n_I, n_n_J, n_n_R, n_n_N, gn_S0, if_true, if_false, Nat.add_assoc, Nat.reduceAdd, Nat.add_left_cancel_iff, Nat.add_right_cancel_iff, Nat.reduceEqDiff, Nat.left_eq_add, Nat.add_eq_left, and_self, false_and, and_false, true_and, and_true]
set_option maxHeartbeats 1000000 in
set_option maxRecDepth 20000 in
theorem r1_54_14 (G : gG) : gR (gS1 G) (gB G + 54) 14 = some (gB G + 64) := by
  simp only [gS1, i_36_4, i_36_8, i_99, i_40, i_62, i_82, i_0, i_11, i_30, i_71, i_20, i_113, i_168, n_K_I, n_K_J, n_K_R, n_K_N, n_N_I, n_N_J, n_N_R, n_N_N, n_R_I, n_R_J, n_R_R, n_R_N, n_I_J, n_I_R, n_I_I, n_I_N, n_n_I, n_n_J, n_n_R, n_n_N, gn_S0, if_true, if_false, Nat.add_assoc, Nat.reduceAdd, Nat.add_left_cancel_iff, Nat.add_right_cancel_iff, Nat.reduceEqDiff, Nat.left_eq_add, Nat.add_eq_left, and_self, false_and, and_false, true_and, and_true]
set_option maxHeartbeats 1000000 in
set_option maxRecDepth 20000 in
theorem r1_54_22 (G : gG) : gR (gS1 G) (gB G + 54) 22 = some (gB G + 65) := by
  simp only [gS1, i_36_4, i_36_8, i_99, i_40, i_62, i_82, i_0, i_11, i_30, i_71, i_20, i_113, i_168, n_K_I, n_K_J, n_K_R, n_K_N, n_N_I, n_N_J, n_N_R, n_N_N, n_R_I, n_R_J, n_R_R, n_R_N, n_I_J, n_I_R, n_I_I, n_I_N, n_n_I, n_n_J, n_n_R, n_n_N, gn_S0, if_true, if_false, Nat.add_assoc, Nat.reduceAdd, Nat.add_left_cancel_iff, Nat.add_right_cancel_iff, Nat.reduceEqDiff, Nat.left_eq_add, Nat.add_eq_left, and_self, false_and, and_false, true_and, and_true]
set_option maxHeartbeats 1000000 in
set_option maxRecDepth 20000 in
theorem r1_54_25 (G : gG) : gR (gS1 G) (gB G + 54) 25 = some (gB G + 66) := by
  simp only [gS1, i_36_4, i_36_8, i_99, i_40, i_62, i_82, i_0, i_11, i_30, i_71, i_20, i_113, i_168, n_K_I, n_K_J, n_K_R, n_K_N, n_N_I, n_N_J, n_N_R, n_N_N, n_R_I, n_R_J, n_R_R, n_R_N, n_I_J, n_I_R, n_I_I, n_I_N, n_n_I, n_n_J, n_n_R, n_n_N, gn_S0, if_true, if_false, Nat.add_assoc, Nat.reduceAdd, Nat.add_left_cancel_iff, Nat.add_right_cancel_iff, Nat.reduceEqDiff, Nat.left_eq_add, Nat.add_eq_left, and_self, false_and, and_false, true_and, and_true]
set_option maxHeartbeats 1000000 in
set_option maxRecDepth 20000 in
theorem r1_54_26 (G : gG) : gR (gS1 G) (gB G + 54) 26 = some (gB G + 67) := by
  simp only [gS1, i_36_4, i_36_8, i_99, i_40, i_62, i_82, i_0, i_11, i_30, i_71, i_20, i_113, i_168, n_K_I, n_K_J, n_K_R, n_K_N, n_N_I, n_N_J, n_N_R, n_N_N, n_R_I, n_R_J, n_R_R, n_R_N, n_I_J, n_I_R, n_I_I, n_I_N, n_n_I, n_n_J, n_n_R, n_n_N, gn_S0, if_true, if_false, Nat.add_assoc, Nat.reduceAdd, Nat.add_left_cancel_iff, Nat.add_right_cancel_iff, Nat.reduceEqDiff, Nat.left_eq_add, Nat.add_eq_left, and_self, false_and, and_false, true_and, and_true]
set_option maxHeartbeats 1000000 in
set_option maxRecDepth 20000 in
theorem r1_54_27 (G : gG) : gR (gS1 G) (gB G + 54) 27 = some (gB G + 68) := by
  simp only [gS1, i_36_4, i_36_8, i_99, i_40, i_62, i_82, i_0, i_11, i_30, i_71, i_20, i_113, i_168, n_K_I, n_K_J, n_K_R, n_K_N, n_N_I, n_N_J, n_N_R, n_N_N, n_R_I, n_R_J, n_R_R, n_R_N, n_I_J, n_I_R, n_I_I, n_I_N, n_n_I, n_n_J, n_n_R, n_n_N, gn_S0, if_true, if_false, Nat.add_assoc, Nat.reduceAdd, Nat.add_left_cancel_iff, Nat.add_right_cancel_iff, Nat.reduceEqDiff, Nat.left_eq_add, Nat.add_eq_left, and_self, false_and, and_false, true_and, and_true]
set_option maxHeartbeats 1000000 in
set_option maxRecDepth 20000 in
theorem r1_54_34 (G : gG) : gR (gS1 G) (gB G + 54) 34 = some (gB G + 69) := by
  simp only [gS1, i_36_4, i_36_8, i_99, i_40, i_62, i_82, i_0, i_11, i_30, i_71, i_20, i_113, i_168, n_K_I, n_K_J, n_K_R, n_K_N, n_N_I, n_N_J, n_N_R, n_N_N, n_R_I, n_R_J, n_R_R, n_R_N, n_I_J, n_I_R, n_I_I, n_I_N, n_n_I, n_n_J, n_n_R, n_n_N, gn_S0, if_true, if_false, Nat.add_assoc, Nat.reduceAdd, Nat.add_left_cancel_iff, Nat.add_right_cancel_iff, Nat.reduceEqDiff, Nat.left_eq_add, Nat.add_eq_left, and_self, false_and, and_false, true_and, and_true]
set_option maxHeartbeats 1000000 in
set_option maxRecDepth 20000 in
theorem r1_54_35 (G : gG) : gR (gS1 G) (gB G + 54) 35 = some (gB G + 70) := by
  simp only [gS1, i_36_4, i_36_8, i_99, i_40, i_62, i_82, i_0, i_11, i_30, i_71, i_20, i_113, i_168, n_K_I, n_K_J, n_K_R, n_K_N, n_N_I, n_N_J, n_N_R, n_N_N, n_R_I, n_R_J, n_R_R, n_R_N, n_I_J, n_I_R, n_I_I, n_I_N, n_n_I, n_n_J, n_n_R, n_n_N, gn_S0, if_true, if_false, Nat.add_assoc, Nat.reduceAdd, Nat.add_left_cancel_iff, Nat.add_right_cancel_iff, Nat.reduceEqDiff, Nat.left_eq_add, Nat.add_eq_left, and_self, false_and, and_false, true_and, and_true]
set_option maxHeartbeats 1000000 in
set_option maxRecDepth 20000 in
theorem r1_54_36 (G : gG) : gR (gS1 G) (gB G + 54) 36 = some (gB G + 71) := by
  simp only [gS1, i_36_4, i_36_8, i_99, i_40, i_62, i_82, i_0, i_11, i_30, i_71, i_20, i_113, i_168, n_K_I, n_K_J, n_K_R, n_K_N, n_N_I, n_N_J, n_N_R, n_N_N, n_R_I, n_R_J, n_R_R, n_R_N, n_I_J, n_I_R, n_I_I, n_I_N, n_n_I, n_n_J, n_n_R, n_n_N, gn_S0, if_true, if_false, Nat.add_assoc, Nat.reduceAdd, Nat.add_left_cancel_iff, Nat.add_right_cancel_iff, Nat.reduceEqDiff, Nat.left_eq_add, Nat.add_eq_left, and_self, false_and, and_false, true_and, and_true]
set_option maxHeartbeats 1000000 in
set_option maxRecDepth 20000 in
theorem r1_54_37 (G : gG) : gR (gS1 G) (gB G + 54) 37 = some (gB G + 72) := by
  simp only [gS1, i_36_4, i_36_8, i_99, i_40, i_62, i_82, i_0, i_11, i_30, i_71, i_20, i_113, i_168, n_K_I, n_K_J, n_K_R, n_K_N, n_N_I, n_N_J, n_N_R, n_N_N, n_R_I, n_R_J, n_R_R, n_R_N, n_I_J, n_I_R, n_I_I, n_I_N, n_n_I, n_n_J, n_n_R, n_n_N, gn_S0, if_true, if_false, Nat.add_assoc, Nat.reduceAdd, Nat.add_left_cancel_iff, Nat.add_right_cancel_iff, Nat.reduceEqDiff, Nat.left_eq_add, Nat.add_eq_left, and_self, false_and, and_false, true_and, and_true]
set_option maxHeartbeats 1000000 in
set_option maxRecDepth 20000 in
theorem r1_54_38 (G : gG) : gR (gS1 G) (gB G + 54) 38 = some (gB G + 73) := by
  simp only [gS1, i_36_4, i_36_8, i_99, i_40, i_62, i_82, i_0, i_11, i_30, i_71, i_20, i_113, i_168, n_K_I, n_K_J, n_K_R, n_K_N, n_N_I, n_N_J, n_N_R, n_N_N, n_R_I, n_R_J, n_R_R, n_R_N, n_I_J, n_I_R, n_I_I, n_I_N, n_n_I, n_n_J, n_n_R, n_n_N, gn_S0, if_true, if_false, Nat.add_assoc, Nat.reduceAdd, Nat.add_left_cancel_iff, Nat.add_right_cancel_iff, Nat.reduceEqDiff, Nat.left_eq_add, Nat.add_eq_left, and_self, false_and, and_false, true_and, and_true]
set_option maxHeartbeats 1000000 in
set_option maxRecDepth 20000 in
theorem r1_54_40 (G : gG) : gR (gS1 G) (gB G + 54) 40 = some (gB G + 74) := by
  simp only [gS1, i_36_4, i_36_8, i_99, i_40, i_62, i_82, i_0, i_11, i_30, i_71, i_20, i_113, i_168, n_K_I, n_K_J, n_K_R, n_K_N, n_N_I, n_N_J, n_N_R, n_N_N, n_R_I, n_R_J, n_R_R, n_R_N, n_I_J, n_I_R, n_I_I, n_I_N, n_n_I, n_n_J, n_n_R, n_n_N, gn_S0, if_true, if_false, Nat.add_assoc, Nat.reduceAdd, Nat.add_left_cancel_iff, Nat.add_right_cancel_iff, Nat.reduceEqDiff, Nat.left_eq_add, Nat.add_eq_left, and_self, false_and, and_false, true_and, and_true]
set_option maxHeartbeats 1000000 in
set_option maxRecDepth 20000 in
theorem r1_54_43 (G : gG) : gR (gS1 G) (gB G + 54) 43 = some (gB G + 75) := by
  simp only [gS1, i_36_4, i_36_8, i_99, i_40, i_62, i_82, i_0, i_11, i_30, i_71, i_20, i_113, i_168, n_K_I, n_K_J, n_K_R, n_K_N, n_N_I, n_N_J, n_N_R, n_N_N, n_R_I, n_R_J, n_R_R, n_R_N, n_I_J, n_I_R, n_I_I, n_I_N, n_n_I, n_n_J, n_n_R, n_n_N, gn_S0, if_true, if_false, Nat.add_assoc, Nat.reduceAdd, Nat.add_left_cancel_iff, Nat.add_right_cancel_iff, Nat.reduceEqDiff, Nat.left_eq_add, Nat.add_eq_left, and_self, false_and, and_false, true_and, and_true]
set_option maxHeartbeats 1000000 in
set_option maxRecDepth 20000 in
theorem r1_54_44 (G : gG) : gR (gS1 G) (gB G + 54) 44 = some (gB G + 76) := by
  simp only [gS1, i_36_4, i_36_8, i_99, i_40, i_62, i_82, i_0, i_11, i_30, i_71, i_20, i_113, i_168, n_K_I, n_K_J, n_K_R, n_K_N, n_N_I, n_N_J, n_N_R, n_N_N, n_R_I, n_R_J, n_R_R, n_R_N, n_I_J, n_I_R, n_I_I, n_I_N, n_n_I, n_n_J, n_n_R, n_n_N, gn_S0, if_true, if_false, Nat.add_assoc, Nat.reduceAdd, Nat.add_left_cancel_iff, Nat.add_right_cancel_iff, Nat.reduceEqDiff, Nat.left_eq_add, Nat.add_eq_left, and_self, false_and, and_false, true_and, and_true]
set_option maxHeartbeats 1000000 in
set_option maxRecDepth 20000 in
theorem r1_54_45 (G : gG) : gR (gS1 G) (gB G + 54) 45 = some (gB G + 77) := by
  simp only [gS1, i_36_4, i_36_8, i_99, i_40, i_62, i_82, i_0, i_11, i_30, i_71, i_20, i_113, i_168, n_K_I, n_K_J, n_K_R, n_K_N, n_N_I, n_N_J, n_N_R, n_N_N, n_R_I, n_R_J, n_R_R, n_R_N, n_I_J, n_I_R, n_I_I, n_I_N, n_n_I, n_n_J, n_n_R, n_n_N, gn_S0, if_true, if_false, Nat.add_assoc, Nat.reduceAdd, Nat.add_left_cancel_iff, Nat.add_right_cancel_iff, Nat.reduceEqDiff, Nat.left_eq_add, Nat.add_eq_left, and_self, false_and, and_false, true_and, and_true]
set_option maxHeartbeats 1000000 in
set_option maxRecDepth 20000 in
theorem r1_54_46 (G : gG) : gR (gS1 G) (gB G + 54) 46 = some (gB G + 78) := by
  simp only [gS1, i_36_4, i_36_8, i_99, i_40, i_62, i_82, i_0, i_11, i_30, i_71, i_20, i_113, i_168, n_K_I, n_K_J, n_K_R, n_K_N, n_N_I, n_N_J, n_N_R, n_N_N, n_R_I, n_R_J, n_R_R, n_R_N, n_I_J, n_I_R, n_I_I, n_I_N, n_n_I, n_n_J, n_n_R, n_n_N, gn_S0, if_true, if_false, Nat.add_assoc, Nat.reduceAdd, Nat.add_left_cancel_iff, Nat.add_right_cancel_iff, Nat.reduceEqDiff, Nat.left_eq_add, Nat.add_eq_left, and_self, false_and, and_false, true_and, and_true]
set_option maxHeartbeats 1000000 in
set_option maxRecDepth 20000 in
theorem r1_54_47 (G : gG) : gR (gS1 G) (gB G + 54) 47 = some (gB G + 79) := by
  simp only [gS1, i_36_4, i_36_8, i_99, i_40, i_62, i_82, i_0, i_11, i_30, i_71, i_20, i_113, i_168, n_K_I, n_K_J, n_K_R, n_K_N, n_N_I, n_N_J, n_N_R, n_N_N, n_R_I, n_R_J, n_R_R, n_R_N, n_I_J, n_I_R, n_I_I, n_I_N, n_n_I, n_n_J, n_n_R, n_n_N, gn_S0, if_true, if_false, Nat.add_assoc, Nat.reduceAdd, Nat.add_left_cancel_iff, Nat.add_right_cancel_iff, Nat.reduceEqDiff, Nat.left_eq_add, Nat.add_eq_left, and_self, false_and, and_false, true_and, and_true]
set_option maxRecDepth 20000 in
theorem S1_kn (G : gG) : ∀ o, o < 80 → gK (gS1 G) (gB G + o) = (kT.getD o (0, 0)).1 ∧ gN (gS1 G) (gB G + o) = (kT.getD o (0, 0)).2 := (lt_s (lt_s (lt_s (lt_s (lt_s (lt_s (lt_s (lt_s (lt_s (lt_s (lt_s (lt_s (lt_s (lt_s (lt_s (lt_s (lt_s (lt_s (lt_s (lt_s (lt_s (lt_s (lt_s (lt_s (lt_s (lt_s (lt_s (lt_s (lt_s (lt_s (lt_s (lt_s (lt_s (lt_s (lt_s (lt_s (lt_s (lt_s (lt_s (lt_s (lt_s (lt_s (lt_s (lt_s (lt_s (lt_s (lt_s (lt_s (lt_s (lt_s (lt_s (lt_s (lt_s (lt_s (lt_s (lt_s (lt_s (lt_s (lt_s (lt_s (lt_s (lt_s (lt_s (lt_s (lt_s (lt_s (lt_s (lt_s (lt_s (lt_s (lt_s (lt_s (lt_s (lt_s (lt_s (lt_s (lt_s (lt_s (lt_s (lt_s (lt_0 (p := fun o => gK (gS1 G) (gB G + o) = (kT.getD o (0, 0)).1 ∧ gN (gS1 G) (gB G + o) = (kT.getD o (0, 0)).2)) (k1_0 G)) (k1_1 G)) (k1_2 G)) (k1_3 G)) (k1_4 G)) (k1_5 G)) (k1_6 G)) (k1_7 G)) (k1_8 G)) (k1_9 G)) (k1_10 G)) (k1_11 G)) (k1_12 G)) (k1_13 G)) (k1_14 G)) (k1_15 G)) (k1_16 G)) (k1_17 G)) (k1_18 G)) (k1_19 G)) (k1_20 G)) (k1_21 G)) (k1_22 G)) (k1_23 G)) (k1_24 G)) (k1_25 G)) (k1_26 G)) (k1_27 G)) (k1_28 G)) (k1_29 G)) (k1_30 G)) (k1_31 G)) (k1_32 G)) (k1_33 G)) (k1_34 G)) (k1_35 G)) (k1_36 G)) (k1_37 G)) (k1_38 G)) (k1_39 G)) (k1_40 G)) (k1_41 G)) (k1_42 G)) (k1_43 G)) (k1_44 G)) (k1_45 G)) (k1_46 G)) (k1_47 G)) (k1_48 G)) (k1_49 G)) (k1_50 G)) (k1_51 G)) (k1_52 G)) (k1_53 G)) (k1_54 G)) (k1_55 G)) (k1_56 G)) (k1_57 G)) (k1_58 G)) (k1_59 G)) (k1_60 G)) (k1_61 G)) (k1_62 G)) (k1_63 G)) (k1_64 G)) (k1_65 G)) (k1_66 G)) (k1_67 G)) (k1_68 G)) (k1_69 G)) (k1_70 G)) (k1_71 G)) (k1_72 G)) (k1_73 G)) (k1_74 G)) (k1_75 G)) (k1_76 G)) (k1_77 G)) (k1_78 G)) (k1_79 G))
set_option maxRecDepth 20000 in
theorem S1_shape (G : gG) : IvS (gB G) (gS1 G) := ⟨S1_kn G, (List.forall_mem_cons.mpr ⟨r1_0_0 G, (List.forall_mem_cons.mpr ⟨r1_0_1 G, (List.forall_mem_cons.mpr ⟨r1_0_2 G, (List.forall_mem_cons.mpr ⟨r1_0_4 G, (List.forall_mem_cons.mpr ⟨r1_0_7 G, (List.forall_mem_cons.mpr ⟨r1_0_9 G, (List.forall_mem_cons.mpr ⟨r1_0_10 G, (List.forall_mem_cons.mpr ⟨r1_0_11 G, (List.forall_mem_cons.mpr ⟨r1_0_12 G, (List.forall_mem_cons.mpr ⟨r1_0_13 G, (List.forall_mem_cons.mpr ⟨r1_0_14 G, (List.forall_mem_cons.mpr ⟨r1_1_0 G, (List.forall_mem_cons.mpr ⟨r1_1_1 G, (List.forall_mem_cons.mpr ⟨r1_1_2 G, (List.forall_mem_cons.mpr ⟨r1_1_3 G, (List.forall_mem_cons.mpr ⟨r1_1_4 G, (List.forall_mem_cons.mpr ⟨r1_1_7 G, (List.forall_mem_cons.mpr ⟨r1_1_9 G, (List.forall_mem_cons.mpr ⟨r1_1_14 G, (List.forall_mem_cons.mpr ⟨r1_1_15 G, (List.forall_mem_cons.mpr ⟨r1_1_16 G, (List.forall_mem_cons.mpr ⟨r1_9_0 G, (List.forall_mem_cons.mpr ⟨r1_9_1 G, (List.forall_mem_cons.mpr ⟨r1_12_0 G, (List.forall_mem_cons.mpr ⟨r1_12_1 G, (List.forall_mem_cons.mpr ⟨r1_15_0 G, (List.forall_mem_cons.mpr ⟨r1_15_1 G, (List.forall_mem_cons.mpr ⟨r1_20_0 G, (List.forall_mem_cons.mpr ⟨r1_20_1 G, (List.forall_mem_cons.mpr ⟨r1_20_2 G, (List.forall_mem_cons.mpr ⟨r1_20_3 G, (List.forall_mem_cons.mpr ⟨r1_25_0 G, (List.forall_mem_cons.mpr ⟨r1_25_1 G, (List.forall_mem_cons.mpr ⟨r1_25_2 G, (List.forall_mem_cons.mpr ⟨r1_25_3 G, (List.forall_mem_cons.mpr ⟨r1_25_4 G, (List.forall_mem_cons.mpr ⟨r1_25_5 G, (List.forall_mem_cons.mpr ⟨r1_26_0 G, (List.forall_mem_cons.mpr ⟨r1_26_1 G, (List.forall_mem_cons.mpr ⟨r1_33_0 G, (List.forall_mem_cons.mpr ⟨r1_33_1 G, (List.forall_mem_cons.mpr ⟨r1_33_2 G, (List.forall_mem_cons.mpr ⟨r1_33_3 G, (List.forall_mem_cons.mpr ⟨r1_37_0 G, (List.forall_mem_cons.mpr ⟨r1_37_1 G, (List.forall_mem_cons.mpr ⟨r1_37_2 G, (List.forall_mem_cons.mpr ⟨r1_37_3 G, (List.forall_mem_cons.mpr ⟨r1_37_5 G, (List.forall_mem_cons.mpr ⟨r1_42_0 G, (List.forall_mem_cons.mpr ⟨r1_42_1 G, (List.forall_mem_cons.mpr ⟨r1_42_2 G, (List.forall_mem_cons.mpr ⟨r1_45_0 G, (List.forall_mem_cons.mpr ⟨r1_45_1 G, (List.forall_mem_cons.mpr ⟨r1_45_2 G, (List.forall_mem_cons.mpr ⟨r1_45_3 G, (List.forall_mem_cons.mpr ⟨r1_45_4 G, (List.forall_mem_cons.mpr ⟨r1_50_0 G, (List.forall_mem_cons.mpr ⟨r1_50_1 G, (List.forall_mem_cons.mpr ⟨r1_50_2 G, (List.forall_mem_cons.mpr ⟨r1_50_3 G, (List.forall_mem_cons.mpr ⟨r1_50_4 G, (List.forall_mem_cons.mpr ⟨r1_50_5 G, (List.forall_mem_cons.mpr ⟨r1_54_2 G, (List.forall_mem_cons.mpr ⟨r1_54_3 G, (List.forall_mem_cons.mpr ⟨r1_54_4 G, (List.forall_mem_cons.mpr ⟨r1_54_5 G, (List.forall_mem_cons.mpr ⟨r1_54_7 G, (List.forall_mem_cons.mpr ⟨r1_54_8 G, (List.forall_mem_cons.mpr ⟨r1_54_9 G, (List.forall_mem_cons.mpr ⟨r1_54_12 G, (List.forall_mem_cons.mpr ⟨r1_54_13 G, (List.forall_mem_cons.mpr ⟨r1_54_14 G, (List.forall_mem_cons.mpr ⟨r1_54_22 G, (List.forall_mem_cons.mpr ⟨r1_54_25 G, (List.forall_mem_cons.mpr ⟨r1_54_26 G, (List.forall_mem_cons.mpr ⟨r1_54_27 G, (List.forall_mem_cons.mpr ⟨r1_54_34 G, (List.forall_mem_cons.mpr ⟨r1_54_35 G, (List.forall_mem_cons.mpr ⟨r1_54_36 G, (List.forall_mem_cons.mpr ⟨r1_54_37 G, (List.forall_mem_cons.mpr ⟨r1_54_38 G, (List.forall_mem_cons.mpr ⟨r1_54_40 G, (List.forall_mem_cons.mpr ⟨r1_54_43 G, (List.forall_mem_cons.mpr ⟨r1_54_44 G, (List.forall_mem_cons.mpr ⟨r1_54_45 G, (List.forall_mem_cons.mpr ⟨r1_54_46 G, (List.forall_mem_cons.mpr ⟨r1_54_47 G, (fun _ h => absurd h List.not_mem_nil)⟩)⟩)⟩)⟩)⟩)⟩)⟩)⟩)⟩)⟩)⟩)⟩)⟩)⟩)⟩)⟩)⟩)⟩)⟩)⟩)⟩)⟩)⟩)⟩)⟩)⟩)⟩)⟩)⟩)⟩)⟩)⟩)⟩)⟩)⟩)⟩)⟩)⟩)⟩)⟩)⟩)⟩)⟩)⟩)⟩)⟩)⟩)⟩)⟩)⟩)⟩)⟩)⟩)⟩)⟩)⟩)⟩)⟩)⟩)⟩)⟩)⟩)⟩)⟩)⟩)⟩)⟩)⟩)⟩)⟩)⟩)⟩)⟩)⟩)⟩)⟩)⟩)⟩)⟩)⟩)⟩)⟩)⟩)⟩)⟩)⟩)⟩)⟩
