set_option maxHeartbeats 1000000 in
set_option maxRecDepth 20000 in
theorem k1_0 (G : gG) : gK (gS1 G) (gB G + 0) = 12 ∧ gN (gS1 G) (gB G + 0) = 0 := by
  simp only [gS1, i_36_4, i_36_8, i_99, i_40, i_62, i_82, i_0, i_11, i_30, i_71, i_20, i_113, i_168, n_K_I, n_K_J, n_K_R, n_K_N, n_N_I, n_N_J, n_N_R, n_N_N, n_R_I, n_R_J, n_R_R, n_R_N, n_I_J, n_I_R, n_I_I, n_I_N, n_n_I, n_n_J, n_n_R, n_n_N, gn_S0, if_true, if_false, Nat.add_assoc, Nat.reduceAdd, Nat.add_left_cancel_iff, Nat.add_right_cancel_iff, Nat.reduceEqDiff, Nat.left_eq_add, Nat.add_eq_left, and_self, false_and, and_false, true_and, and_true]
set_option maxHeartbeats 1000000 in
set_option maxRecDepth 20000 in
theorem k1_30 (G : gG) : gK (gS1 G) (gB G + 30) = 21 ∧ gN (gS1 G) (gB G + 30) = 12 := by
  simp only [gS1, i_36_4, i_36_8, i_99, i_40, i_62, i_82, i_0, i_11, i_30, i_71, i_20, i_113, i_168, n_K_I, n_K_J, n_K_R, n_K_N, n_N_I, n_N_J, n_N_R, n_N_N, n_R_I, n_R_J, n_R_R, n_R_N, n_I_J, n_I_R, n_I_I, n_I_N, n_n_I, n_n_J, n_n_R, n_n_N, gn_S0, if_true, if_false, Nat.add_assoc, Nat.reduceAdd, Nat.add_left_cancel_iff, Nat.add_right_cancel_iff, Nat.reduceEqDiff, Nat.left_eq_add, Nat.add_eq_left, and_self, false_and, and_false, true_and, and_true]
set_option maxHeartbeats 1000000 in
set_option maxRecDepth 20000 in
theorem r1_0_7 (G : gG) : gR (gS1 G) (gB G + 0) 7 = some (gB G + 24) := by
  simp only [gS1, i_36_4, i_36_8, i_99, i_40, i_62, i_82, i_0, i_11, i_30, i_71, i_20, i_113, i_168, n_K_I, n_K_J, n_K_R, n_K_N, n_N_I, n_N_J, n_N_R, n_N_N, n_R_I, n_R_J, n_R_R, n_R_N, n_I_J, n_I_R, n_I_I, n_I_N, n_n_I, n_n_J, n_n_R, n_n_N, gn_S0, if_true, if_false, Nat.add_assoc, Nat.reduceAdd, Nat.add_left_cancel_iff, Nat.add_right_cancel_iff, Nat.reduceEqDiff, Nat.left_eq_add, Nat.add_eq_left, and_self, false_and, and_false, true_and, and_true]
