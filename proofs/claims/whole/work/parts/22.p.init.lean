/-- CornerTown -/
def i_113 (σ : gS) (a : Nat) : gS := (sR (i_20 (sNw (sR (i_71 (sNw (sR (i_30 (sNw (sR (i_11 (sNw (sR (i_0 (sNw (sR (i_82 (sNw (sI (sR (sNw (sI (sI (sR (i_40 (sNw (sI (sR (sNw (sR (sNw (sR (i_99 (sNw σ 11 0 18) (gn σ)) a 0 (some (gn σ))) 25 2 2) a 1 (some (gn σ + 17))) 21 400 400) a 2 (some (gn σ + 18))) a 3 (0)) 7 0 13) (gn σ + 19) (gn σ + 18)) a 4 (some (gn σ + 19))) a 5 (-1)) a 6 (0)) 21 5 5) a 7 (some (gn σ + 23))) a 8 (0)) 10 0 9) (gn σ + 24) (gn σ)) a 9 (some (gn σ + 24))) 1 0 8) (gn σ + 32) (gn σ)) a 10 (some (gn σ + 32))) 2 0 9) (gn σ + 36) (gn σ)) a 11 (some (gn σ + 36))) 5 0 9) (gn σ + 41) (gn σ)) a 12 (some (gn σ + 41))) 9 0 12) (gn σ + 44) (gn σ) (gn σ + 24)) a 13 (some (gn σ + 44))) 3 0 8) (gn σ + 49) (gn σ) (gn σ + 24) (gn σ + 32)) a 14 (some (gn σ + 49)))
set_option maxHeartbeats 4000000 in
set_option maxRecDepth 20000 in
theorem t_i_113 {d : Nat} {Q : Option Value → gS → Prop} {σ : gS} {a : Nat} (hK : gK σ a = 12) (ha : a < gn σ) (h : Q none (i_113 σ a)) : wc (d + 3) 113 [.ref a] σ Q := by
  have hne : ∀ j, ¬ a = gn σ + j := fun j => by omega
  have hn0 : ¬ a = gn σ := by omega
  unfold i_113 at h
  rw [c_113]
  simp only [e_113_0, e_113_1, e_113_4, e_113_5, e_113_8, e_113_8n, e_113_9, hK, hne, hn0, if_false, if_true, n_K_I, n_K_J, n_K_R, n_K_N, n_n_I, n_n_J, n_n_R, n_n_N, n_R_I, n_R_J, n_R_R, n_R_N, and_self, false_and, and_false, Option.some.injEq, exists_eq_left, exists_eq_left', true_and, and_true, or_true, true_or, Nat.add_assoc, Nat.reduceAdd, Nat.add_left_cancel_iff, Nat.reduceEqDiff, Nat.left_eq_add, Nat.add_eq_left, List.length_cons, List.length_nil, Nat.reduceLeDiff, Nat.zero_le, Option.toList_none, List.nil_append, eq_self, not_false_eq_true, tn_2, lz_2, tn_5, lz_5, tn_400, lz_400]
  have gr1 : gn (sNw σ 11 0 18) = gn σ + 1 := by simp only [n_n_I, n_n_R, n_n_N, Nat.add_assoc, Nat.reduceAdd]
  have kr1 : gK (sNw σ 11 0 18) (gn σ) = 11 := by simp only [n_K_I, n_K_R, n_K_N, n_n_I, n_n_R, n_n_N, Nat.add_assoc, Nat.reduceAdd, eq_self, if_true]
  refine (s_i_99 (d := d + 0) kr1 (by rw [gr1]; omega)).mpr ?_
  have kN1 : gn (i_99 (sNw σ 11 0 18) (gn σ)) = gn σ + 17 := by rw [kn_i_99, gr1]
  have kK1 : gK (i_99 (sNw σ 11 0 18) (gn σ)) a = 12 := by
    rw [kk_i_99 (by rw [gr1]; omega)]
    simp only [n_K_I, n_K_R, n_K_N, n_n_I, n_n_R, n_n_N, Nat.add_assoc, Nat.reduceAdd, hne, hn0, if_false, hK]
  generalize hτ1 : i_99 (sNw σ 11 0 18) (gn σ) = τ1 at h kN1 kK1 ⊢
  clear gr1 kr1 hτ1
  simp only [e_113_12, e_113_15, e_113_16, e_113_17, e_113_20, e_113_23, e_113_24, e_113_27, e_113_29, e_113_32, e_113_33, e_113_34, e_113_37, e_113_38, e_113_41, e_113_41n, e_113_42, e_113_43, e_113_46, kN1, kK1, hne, hn0, if_false, if_true, n_K_I, n_K_J, n_K_R, n_K_N, n_n_I, n_n_J, n_n_R, n_n_N, n_R_I, n_R_J, n_R_R, n_R_N, and_self, false_and, and_false, Option.some.injEq, exists_eq_left, exists_eq_left', true_and, and_true, or_true, true_or, Nat.add_assoc, Nat.reduceAdd, Nat.add_left_cancel_iff, Nat.reduceEqDiff, Nat.left_eq_add, Nat.add_eq_left, List.length_cons, List.length_nil, Nat.reduceLeDiff, Nat.zero_le, Option.toList_none, List.nil_append, eq_self, not_false_eq_true, tn_2, lz_2, tn_5, lz_5, tn_400, lz_400]
  have gr2 : gn (sNw (sI (sR (sNw (sR (sNw (sR τ1 a 0 (some (gn σ))) 25 2 2) a 1 (some (gn σ + 17))) 21 400 400) a 2 (some (gn σ + 18))) a 3 (0)) 7 0 13) = gn σ + 20 := by simp only [kN1, n_n_I, n_n_R, n_n_N, Nat.add_assoc, Nat.reduceAdd]
  have kr2 : gK (sNw (sI (sR (sNw (sR (sNw (sR τ1 a 0 (some (gn σ))) 25 2 2) a 1 (some (gn σ + 17))) 21 400 400) a 2 (some (gn σ + 18))) a 3 (0)) 7 0 13) (gn σ + 19) = 7 := by simp only [kN1, n_K_I, n_K_R, n_K_N, n_n_I, n_n_R, n_n_N, Nat.add_assoc, Nat.reduceAdd, eq_self, if_true]
  refine (s_i_40 (d := d + 1) kr2 (by rw [gr2]; omega)).mpr ?_
  have kN2 : gn (i_40 (sNw (sI (sR (sNw (sR (sNw (sR τ1 a 0 (some (gn σ))) 25 2 2) a 1 (some (gn σ + 17))) 21 400 400) a 2 (some (gn σ + 18))) a 3 (0)) 7 0 13) (gn σ + 19) (gn σ + 18)) = gn σ + 23 := by rw [kn_i_40, gr2]
  have kK2 : gK (i_40 (sNw (sI (sR (sNw (sR (sNw (sR τ1 a 0 (some (gn σ))) 25 2 2) a 1 (some (gn σ + 17))) 21 400 400) a 2 (some (gn σ + 18))) a 3 (0)) 7 0 13) (gn σ + 19) (gn σ + 18)) a = 12 := by
    rw [kk_i_40 (by rw [gr2]; omega)]
    simp only [kN1, n_K_I, n_K_R, n_K_N, n_n_I, n_n_R, n_n_N, Nat.add_assoc, Nat.reduceAdd, hne, hn0, if_false, kK1]
  have kR2_0 : gR (i_40 (sNw (sI (sR (sNw (sR (sNw (sR τ1 a 0 (some (gn σ))) 25 2 2) a 1 (some (gn σ + 17))) 21 400 400) a 2 (some (gn σ + 18))) a 3 (0)) 7 0 13) (gn σ + 19) (gn σ + 18)) a 0 = some (gn σ) := by
    rw [kr_i_40 (by rw [gr2]; omega) (by omega)]
    simp only [kN1, n_R_I, n_R_R, n_R_N, n_n_I, n_n_R, n_n_N, Nat.add_assoc, Nat.reduceAdd, hne, hn0, if_false, if_true, and_self, and_false, Nat.reduceEqDiff, Nat.reduceEqDiff, eq_self]
  have kR2_2 : gR (i_40 (sNw (sI (sR (sNw (sR (sNw (sR τ1 a 0 (some (gn σ))) 25 2 2) a 1 (some (gn σ + 17))) 21 400 400) a 2 (some (gn σ + 18))) a 3 (0)) 7 0 13) (gn σ + 19) (gn σ + 18)) a 2 = some (gn σ + 18) := by
    rw [kr_i_40 (by rw [gr2]; omega) (by omega)]
    simp only [kN1, n_R_I, n_R_R, n_R_N, n_n_I, n_n_R, n_n_N, Nat.add_assoc, Nat.reduceAdd, hne, hn0, if_false, if_true, and_self, and_false, Nat.reduceEqDiff, Nat.reduceEqDiff, eq_self]
  generalize hτ2 : i_40 (sNw (sI (sR (sNw (sR (sNw (sR τ1 a 0 (some (gn σ))) 25 2 2) a 1 (some (gn σ + 17))) 21 400 400) a 2 (some (gn σ + 18))) a 3 (0)) 7 0 13) (gn σ + 19) (gn σ + 18) = τ2 at h kN2 kK2 kR2_0 kR2_2 ⊢
  clear gr2 kr2 hτ2
  simp only [e_113_49, e_113_52, e_113_53, e_113_54, e_113_57, e_113_58, e_113_59, e_113_62, e_113_63, e_113_64, e_113_66, e_113_69, e_113_70, e_113_71, e_113_74, e_113_75, e_113_78, e_113_78n, e_113_79, e_113_80, e_113_83, kN2, kK2, kR2_0, kR2_2, hne, hn0, if_false, if_true, n_K_I, n_K_J, n_K_R, n_K_N, n_n_I, n_n_J, n_n_R, n_n_N, n_R_I, n_R_J, n_R_R, n_R_N, and_self, false_and, and_false, Option.some.injEq, exists_eq_left, exists_eq_left', true_and, and_true, or_true, true_or, Nat.add_assoc, Nat.reduceAdd, Nat.add_left_cancel_iff, Nat.reduceEqDiff, Nat.left_eq_add, Nat.add_eq_left, List.length_cons, List.length_nil, Nat.reduceLeDiff, Nat.zero_le, Option.toList_none, List.nil_append, eq_self, not_false_eq_true, tn_2, lz_2, tn_5, lz_5, tn_400, lz_400]
  have gr3 : gn (sNw (sI (sR (sNw (sI (sI (sR τ2 a 4 (some (gn σ + 19))) a 5 (-1)) a 6 (0)) 21 5 5) a 7 (some (gn σ + 23))) a 8 (0)) 10 0 9) = gn σ + 25 := by simp only [kN2, n_n_I, n_n_R, n_n_N, Nat.add_assoc, Nat.reduceAdd]
  have kr3 : gK (sNw (sI (sR (sNw (sI (sI (sR τ2 a 4 (some (gn σ + 19))) a 5 (-1)) a 6 (0)) 21 5 5) a 7 (some (gn σ + 23))) a 8 (0)) 10 0 9) (gn σ + 24) = 10 := by simp only [kN2, n_K_I, n_K_R, n_K_N, n_n_I, n_n_R, n_n_N, Nat.add_assoc, Nat.reduceAdd, eq_self, if_true]
  refine (s_i_82 (d := d + 0) kr3 (by rw [gr3]; omega)).mpr ?_
  have kN3 : gn (i_82 (sNw (sI (sR (sNw (sI (sI (sR τ2 a 4 (some (gn σ + 19))) a 5 (-1)) a 6 (0)) 21 5 5) a 7 (some (gn σ + 23))) a 8 (0)) 10 0 9) (gn σ + 24) (gn σ)) = gn σ + 32 := by rw [kn_i_82, gr3]
  have kK3 : gK (i_82 (sNw (sI (sR (sNw (sI (sI (sR τ2 a 4 (some (gn σ + 19))) a 5 (-1)) a 6 (0)) 21 5 5) a 7 (some (gn σ + 23))) a 8 (0)) 10 0 9) (gn σ + 24) (gn σ)) a = 12 := by
    rw [kk_i_82 (by rw [gr3]; omega)]
    simp only [kN2, n_K_I, n_K_R, n_K_N, n_n_I, n_n_R, n_n_N, Nat.add_assoc, Nat.reduceAdd, hne, hn0, if_false, kK2]
  have kR3_0 : gR (i_82 (sNw (sI (sR (sNw (sI (sI (sR τ2 a 4 (some (gn σ + 19))) a 5 (-1)) a 6 (0)) 21 5 5) a 7 (some (gn σ + 23))) a 8 (0)) 10 0 9) (gn σ + 24) (gn σ)) a 0 = some (gn σ) := by
    rw [kr_i_82 (by rw [gr3]; omega) (by omega)]
    simp only [kN2, kR2_0, n_R_I, n_R_R, n_R_N, n_n_I, n_n_R, n_n_N, Nat.add_assoc, Nat.reduceAdd, hne, hn0, if_false, if_true, and_self, and_false, Nat.reduceEqDiff, Nat.reduceEqDiff, eq_self]
  have kR3_2 : gR (i_82 (sNw (sI (sR (sNw (sI (sI (sR τ2 a 4 (some (gn σ + 19))) a 5 (-1)) a 6 (0)) 21 5 5) a 7 (some (gn σ + 23))) a 8 (0)) 10 0 9) (gn σ + 24) (gn σ)) a 2 = some (gn σ + 18) := by
    rw [kr_i_82 (by rw [gr3]; omega) (by omega)]
    simp only [kN2, kR2_2, n_R_I, n_R_R, n_R_N, n_n_I, n_n_R, n_n_N, Nat.add_assoc, Nat.reduceAdd, hne, hn0, if_false, if_true, and_self, and_false, Nat.reduceEqDiff, Nat.reduceEqDiff, eq_self]
  generalize hτ3 : i_82 (sNw (sI (sR (sNw (sI (sI (sR τ2 a 4 (some (gn σ + 19))) a 5 (-1)) a 6 (0)) 21 5 5) a 7 (some (gn σ + 23))) a 8 (0)) 10 0 9) (gn σ + 24) (gn σ) = τ3 at h kN3 kK3 kR3_0 kR3_2 ⊢
  clear gr3 kr3 hτ3
  simp only [e_113_86, e_113_89, e_113_90, e_113_93, e_113_93n, e_113_94, e_113_95, e_113_98, kN3, kK3, kR3_0, kR3_2, hne, hn0, if_false, if_true, n_K_I, n_K_J, n_K_R, n_K_N, n_n_I, n_n_J, n_n_R, n_n_N, n_R_I, n_R_J, n_R_R, n_R_N, and_self, false_and, and_false, Option.some.injEq, exists_eq_left, exists_eq_left', true_and, and_true, or_true, true_or, Nat.add_assoc, Nat.reduceAdd, Nat.add_left_cancel_iff, Nat.reduceEqDiff, Nat.left_eq_add, Nat.add_eq_left, List.length_cons, List.length_nil, Nat.reduceLeDiff, Nat.zero_le, Option.toList_none, List.nil_append, eq_self, not_false_eq_true, tn_2, lz_2, tn_5, lz_5, tn_400, lz_400]
  have gr4 : gn (sNw (sR τ3 a 9 (some (gn σ + 24))) 1 0 8) = gn σ + 33 := by simp only [kN3, n_n_I, n_n_R, n_n_N, Nat.add_assoc, Nat.reduceAdd]
  have kr4 : gK (sNw (sR τ3 a 9 (some (gn σ + 24))) 1 0 8) (gn σ + 32) = 1 := by simp only [kN3, n_K_I, n_K_R, n_K_N, n_n_I, n_n_R, n_n_N, Nat.add_assoc, Nat.reduceAdd, eq_self, if_true]
  refine (s_i_0 (d := d + 1) kr4 (by rw [gr4]; omega)).mpr ?_
  have kN4 : gn (i_0 (sNw (sR τ3 a 9 (some (gn σ + 24))) 1 0 8) (gn σ + 32) (gn σ)) = gn σ + 36 := by rw [kn_i_0, gr4]
  have kK4 : gK (i_0 (sNw (sR τ3 a 9 (some (gn σ + 24))) 1 0 8) (gn σ + 32) (gn σ)) a = 12 := by
    rw [kk_i_0 (by rw [gr4]; omega)]
    simp only [kN3, n_K_I, n_K_R, n_K_N, n_n_I, n_n_R, n_n_N, Nat.add_assoc, Nat.reduceAdd, hne, hn0, if_false, kK3]
  have kR4_0 : gR (i_0 (sNw (sR τ3 a 9 (some (gn σ + 24))) 1 0 8) (gn σ + 32) (gn σ)) a 0 = some (gn σ) := by
    rw [kr_i_0 (by rw [gr4]; omega) (by omega)]
    simp only [kN3, kR3_0, n_R_I, n_R_R, n_R_N, n_n_I, n_n_R, n_n_N, Nat.add_assoc, Nat.reduceAdd, hne, hn0, if_false, if_true, and_self, and_false, Nat.reduceEqDiff, Nat.reduceEqDiff, eq_self]
  have kR4_2 : gR (i_0 (sNw (sR τ3 a 9 (some (gn σ + 24))) 1 0 8) (gn σ + 32) (gn σ)) a 2 = some (gn σ + 18) := by
    rw [kr_i_0 (by rw [gr4]; omega) (by omega)]
    simp only [kN3, kR3_2, n_R_I, n_R_R, n_R_N, n_n_I, n_n_R, n_n_N, Nat.add_assoc, Nat.reduceAdd, hne, hn0, if_false, if_true, and_self, and_false, Nat.reduceEqDiff, Nat.reduceEqDiff, eq_self]
  have kR4_9 : gR (i_0 (sNw (sR τ3 a 9 (some (gn σ + 24))) 1 0 8) (gn σ + 32) (gn σ)) a 9 = some (gn σ + 24) := by
    rw [kr_i_0 (by rw [gr4]; omega) (by omega)]
    simp only [kN3, n_R_I, n_R_R, n_R_N, n_n_I, n_n_R, n_n_N, Nat.add_assoc, Nat.reduceAdd, hne, hn0, if_false, if_true, and_self, and_false, Nat.reduceEqDiff, Nat.reduceEqDiff, eq_self]
  generalize hτ4 : i_0 (sNw (sR τ3 a 9 (some (gn σ + 24))) 1 0 8) (gn σ + 32) (gn σ) = τ4 at h kN4 kK4 kR4_0 kR4_2 kR4_9 ⊢
  clear gr4 kr4 hτ4
  simp only [e_113_101, e_113_104, e_113_105, e_113_108, e_113_108n, e_113_109, e_113_110, e_113_113, kN4, kK4, kR4_0, kR4_2, kR4_9, hne, hn0, if_false, if_true, n_K_I, n_K_J, n_K_R, n_K_N, n_n_I, n_n_J, n_n_R, n_n_N, n_R_I, n_R_J, n_R_R, n_R_N, and_self, false_and, and_false, Option.some.injEq, exists_eq_left, exists_eq_left', true_and, and_true, or_true, true_or, Nat.add_assoc, Nat.reduceAdd, Nat.add_left_cancel_iff, Nat.reduceEqDiff, Nat.left_eq_add, Nat.add_eq_left, List.length_cons, List.length_nil, Nat.reduceLeDiff, Nat.zero_le, Option.toList_none, List.nil_append, eq_self, not_false_eq_true, tn_2, lz_2, tn_5, lz_5, tn_400, lz_400]
  have gr5 : gn (sNw (sR τ4 a 10 (some (gn σ + 32))) 2 0 9) = gn σ + 37 := by simp only [kN4, n_n_I, n_n_R, n_n_N, Nat.add_assoc, Nat.reduceAdd]
  have kr5 : gK (sNw (sR τ4 a 10 (some (gn σ + 32))) 2 0 9) (gn σ + 36) = 2 := by simp only [kN4, n_K_I, n_K_R, n_K_N, n_n_I, n_n_R, n_n_N, Nat.add_assoc, Nat.reduceAdd, eq_self, if_true]
  refine (s_i_11 (d := d + 1) kr5 (by rw [gr5]; omega)).mpr ?_
  have kN5 : gn (i_11 (sNw (sR τ4 a 10 (some (gn σ + 32))) 2 0 9) (gn σ + 36) (gn σ)) = gn σ + 41 := by rw [kn_i_11, gr5]
  have kK5 : gK (i_11 (sNw (sR τ4 a 10 (some (gn σ + 32))) 2 0 9) (gn σ + 36) (gn σ)) a = 12 := by
    rw [kk_i_11 (by rw [gr5]; omega)]
    simp only [kN4, n_K_I, n_K_R, n_K_N, n_n_I, n_n_R, n_n_N, Nat.add_assoc, Nat.reduceAdd, hne, hn0, if_false, kK4]
  have kR5_0 : gR (i_11 (sNw (sR τ4 a 10 (some (gn σ + 32))) 2 0 9) (gn σ + 36) (gn σ)) a 0 = some (gn σ) := by
    rw [kr_i_11 (by rw [gr5]; omega) (by omega)]
    simp only [kN4, kR4_0, n_R_I, n_R_R, n_R_N, n_n_I, n_n_R, n_n_N, Nat.add_assoc, Nat.reduceAdd, hne, hn0, if_false, if_true, and_self, and_false, Nat.reduceEqDiff, Nat.reduceEqDiff, eq_self]
  have kR5_2 : gR (i_11 (sNw (sR τ4 a 10 (some (gn σ + 32))) 2 0 9) (gn σ + 36) (gn σ)) a 2 = some (gn σ + 18) := by
    rw [kr_i_11 (by rw [gr5]; omega) (by omega)]
    simp only [kN4, kR4_2, n_R_I, n_R_R, n_R_N, n_n_I, n_n_R, n_n_N, Nat.add_assoc, Nat.reduceAdd, hne, hn0, if_false, if_true, and_self, and_false, Nat.reduceEqDiff, Nat.reduceEqDiff, eq_self]
  have kR5_9 : gR (i_11 (sNw (sR τ4 a 10 (some (gn σ + 32))) 2 0 9) (gn σ + 36) (gn σ)) a 9 = some (gn σ + 24) := by
    rw [kr_i_11 (by rw [gr5]; omega) (by omega)]
    simp only [kN4, kR4_9, n_R_I, n_R_R, n_R_N, n_n_I, n_n_R, n_n_N, Nat.add_assoc, Nat.reduceAdd, hne, hn0, if_false, if_true, and_self, and_false, Nat.reduceEqDiff, Nat.reduceEqDiff, eq_self]
  have kR5_10 : gR (i_11 (sNw (sR τ4 a 10 (some (gn σ + 32))) 2 0 9) (gn σ + 36) (gn σ)) a 10 = some (gn σ + 32) := by
    rw [kr_i_11 (by rw [gr5]; omega) (by omega)]
    simp only [kN4, n_R_I, n_R_R, n_R_N, n_n_I, n_n_R, n_n_N, Nat.add_assoc, Nat.reduceAdd, hne, hn0, if_false, if_true, and_self, and_false, Nat.reduceEqDiff, Nat.reduceEqDiff, eq_self]
  generalize hτ5 : i_11 (sNw (sR τ4 a 10 (some (gn σ + 32))) 2 0 9) (gn σ + 36) (gn σ) = τ5 at h kN5 kK5 kR5_0 kR5_2 kR5_9 kR5_10 ⊢
  clear gr5 kr5 hτ5
  simp only [e_113_116, e_113_119, e_113_120, e_113_123, e_113_123n, e_113_124, e_113_125, e_113_128, kN5, kK5, kR5_0, kR5_2, kR5_9, kR5_10, hne, hn0, if_false, if_true, n_K_I, n_K_J, n_K_R, n_K_N, n_n_I, n_n_J, n_n_R, n_n_N, n_R_I, n_R_J, n_R_R, n_R_N, and_self, false_and, and_false, Option.some.injEq, exists_eq_left, exists_eq_left', true_and, and_true, or_true, true_or, Nat.add_assoc, Nat.reduceAdd, Nat.add_left_cancel_iff, Nat.reduceEqDiff, Nat.left_eq_add, Nat.add_eq_left, List.length_cons, List.length_nil, Nat.reduceLeDiff, Nat.zero_le, Option.toList_none, List.nil_append, eq_self, not_false_eq_true, tn_2, lz_2, tn_5, lz_5, tn_400, lz_400]
  have gr6 : gn (sNw (sR τ5 a 11 (some (gn σ + 36))) 5 0 9) = gn σ + 42 := by simp only [kN5, n_n_I, n_n_R, n_n_N, Nat.add_assoc, Nat.reduceAdd]
  have kr6 : gK (sNw (sR τ5 a 11 (some (gn σ + 36))) 5 0 9) (gn σ + 41) = 5 := by simp only [kN5, n_K_I, n_K_R, n_K_N, n_n_I, n_n_R, n_n_N, Nat.add_assoc, Nat.reduceAdd, eq_self, if_true]
  refine (s_i_30 (d := d + 1) kr6 (by rw [gr6]; omega)).mpr ?_
  have kN6 : gn (i_30 (sNw (sR τ5 a 11 (some (gn σ + 36))) 5 0 9) (gn σ + 41) (gn σ)) = gn σ + 44 := by rw [kn_i_30, gr6]
  have kK6 : gK (i_30 (sNw (sR τ5 a 11 (some (gn σ + 36))) 5 0 9) (gn σ + 41) (gn σ)) a = 12 := by
    rw [kk_i_30 (by rw [gr6]; omega)]
    simp only [kN5, n_K_I, n_K_R, n_K_N, n_n_I, n_n_R, n_n_N, Nat.add_assoc, Nat.reduceAdd, hne, hn0, if_false, kK5]
  have kR6_0 : gR (i_30 (sNw (sR τ5 a 11 (some (gn σ + 36))) 5 0 9) (gn σ + 41) (gn σ)) a 0 = some (gn σ) := by
    rw [kr_i_30 (by rw [gr6]; omega) (by omega)]
    simp only [kN5, kR5_0, n_R_I, n_R_R, n_R_N, n_n_I, n_n_R, n_n_N, Nat.add_assoc, Nat.reduceAdd, hne, hn0, if_false, if_true, and_self, and_false, Nat.reduceEqDiff, Nat.reduceEqDiff, eq_self]
  have kR6_2 : gR (i_30 (sNw (sR τ5 a 11 (some (gn σ + 36))) 5 0 9) (gn σ + 41) (gn σ)) a 2 = some (gn σ + 18) := by
    rw [kr_i_30 (by rw [gr6]; omega) (by omega)]
    simp only [kN5, kR5_2, n_R_I, n_R_R, n_R_N, n_n_I, n_n_R, n_n_N, Nat.add_assoc, Nat.reduceAdd, hne, hn0, if_false, if_true, and_self, and_false, Nat.reduceEqDiff, Nat.reduceEqDiff, eq_self]
  have kR6_9 : gR (i_30 (sNw (sR τ5 a 11 (some (gn σ + 36))) 5 0 9) (gn σ + 41) (gn σ)) a 9 = some (gn σ + 24) := by
    rw [kr_i_30 (by rw [gr6]; omega) (by omega)]
    simp only [kN5, kR5_9, n_R_I, n_R_R, n_R_N, n_n_I, n_n_R, n_n_N, Nat.add_assoc, Nat.reduceAdd, hne, hn0, if_false, if_true, and_self, and_false, Nat.reduceEqDiff, Nat.reduceEqDiff, eq_self]
  have kR6_10 : gR (i_30 (sNw (sR τ5 a 11 (some (gn σ + 36))) 5 0 9) (gn σ + 41) (gn σ)) a 10 = some (gn σ + 32) := by
    rw [kr_i_30 (by rw [gr6]; omega) (by omega)]
    simp only [kN5, kR5_10, n_R_I, n_R_R, n_R_N, n_n_I, n_n_R, n_n_N, Nat.add_assoc, Nat.reduceAdd, hne, hn0, if_false, if_true, and_self, and_false, Nat.reduceEqDiff, Nat.reduceEqDiff, eq_self]
  generalize hτ6 : i_30 (sNw (sR τ5 a 11 (some (gn σ + 36))) 5 0 9) (gn σ + 41) (gn σ) = τ6 at h kN6 kK6 kR6_0 kR6_2 kR6_9 kR6_10 ⊢
  clear gr6 kr6 hτ6
  simp only [e_113_131, e_113_134, e_113_135, e_113_138, e_113_138n, e_113_139, e_113_140, e_113_143, e_113_144, e_113_147, kN6, kK6, kR6_0, kR6_2, kR6_9, kR6_10, hne, hn0, if_false, if_true, n_K_I, n_K_J, n_K_R, n_K_N, n_n_I, n_n_J, n_n_R, n_n_N, n_R_I, n_R_J, n_R_R, n_R_N, and_self, false_and, and_false, Option.some.injEq, exists_eq_left, exists_eq_left', true_and, and_true, or_true, true_or, Nat.add_assoc, Nat.reduceAdd, Nat.add_left_cancel_iff, Nat.reduceEqDiff, Nat.left_eq_add, Nat.add_eq_left, List.length_cons, List.length_nil, Nat.reduceLeDiff, Nat.zero_le, Option.toList_none, List.nil_append, eq_self, not_false_eq_true, tn_2, lz_2, tn_5, lz_5, tn_400, lz_400]
  have gr7 : gn (sNw (sR τ6 a 12 (some (gn σ + 41))) 9 0 12) = gn σ + 45 := by simp only [kN6, n_n_I, n_n_R, n_n_N, Nat.add_assoc, Nat.reduceAdd]
  have kr7 : gK (sNw (sR τ6 a 12 (some (gn σ + 41))) 9 0 12) (gn σ + 44) = 9 := by simp only [kN6, n_K_I, n_K_R, n_K_N, n_n_I, n_n_R, n_n_N, Nat.add_assoc, Nat.reduceAdd, eq_self, if_true]
  refine (s_i_71 (d := d + 1) kr7 (by rw [gr7]; omega)).mpr ?_
  have kN7 : gn (i_71 (sNw (sR τ6 a 12 (some (gn σ + 41))) 9 0 12) (gn σ + 44) (gn σ) (gn σ + 24)) = gn σ + 49 := by rw [kn_i_71, gr7]
  have kK7 : gK (i_71 (sNw (sR τ6 a 12 (some (gn σ + 41))) 9 0 12) (gn σ + 44) (gn σ) (gn σ + 24)) a = 12 := by
    rw [kk_i_71 (by rw [gr7]; omega)]
    simp only [kN6, n_K_I, n_K_R, n_K_N, n_n_I, n_n_R, n_n_N, Nat.add_assoc, Nat.reduceAdd, hne, hn0, if_false, kK6]
  have kR7_0 : gR (i_71 (sNw (sR τ6 a 12 (some (gn σ + 41))) 9 0 12) (gn σ + 44) (gn σ) (gn σ + 24)) a 0 = some (gn σ) := by
    rw [kr_i_71 (by rw [gr7]; omega) (by omega)]
    simp only [kN6, kR6_0, n_R_I, n_R_R, n_R_N, n_n_I, n_n_R, n_n_N, Nat.add_assoc, Nat.reduceAdd, hne, hn0, if_false, if_true, and_self, and_false, Nat.reduceEqDiff, Nat.reduceEqDiff, eq_self]
  have kR7_2 : gR (i_71 (sNw (sR τ6 a 12 (some (gn σ + 41))) 9 0 12) (gn σ + 44) (gn σ) (gn σ + 24)) a 2 = some (gn σ + 18) := by
    rw [kr_i_71 (by rw [gr7]; omega) (by omega)]
    simp only [kN6, kR6_2, n_R_I, n_R_R, n_R_N, n_n_I, n_n_R, n_n_N, Nat.add_assoc, Nat.reduceAdd, hne, hn0, if_false, if_true, and_self, and_false, Nat.reduceEqDiff, Nat.reduceEqDiff, eq_self]
  have kR7_9 : gR (i_71 (sNw (sR τ6 a 12 (some (gn σ + 41))) 9 0 12) (gn σ + 44) (gn σ) (gn σ + 24)) a 9 = some (gn σ + 24) := by
    rw [kr_i_71 (by rw [gr7]; omega) (by omega)]
    simp only [kN6, kR6_9, n_R_I, n_R_R, n_R_N, n_n_I, n_n_R, n_n_N, Nat.add_assoc, Nat.reduceAdd, hne, hn0, if_false, if_true, and_self, and_false, Nat.reduceEqDiff, Nat.reduceEqDiff, eq_self]
  have kR7_10 : gR (i_71 (sNw (sR τ6 a 12 (some (gn σ + 41))) 9 0 12) (gn σ + 44) (gn σ) (gn σ + 24)) a 10 = some (gn σ + 32) := by
    rw [kr_i_71 (by rw [gr7]; omega) (by omega)]
    simp only [kN6, kR6_10, n_R_I, n_R_R, n_R_N, n_n_I, n_n_R, n_n_N, Nat.add_assoc, Nat.reduceAdd, hne, hn0, if_false, if_true, and_self, and_false, Nat.reduceEqDiff, Nat.reduceEqDiff, eq_self]
  generalize hτ7 : i_71 (sNw (sR τ6 a 12 (some (gn σ + 41))) 9 0 12) (gn σ + 44) (gn σ) (gn σ + 24) = τ7 at h kN7 kK7 kR7_0 kR7_2 kR7_9 kR7_10 ⊢
  clear gr7 kr7 hτ7
  simp only [e_113_150, e_113_153, e_113_154, e_113_157, e_113_157n, e_113_158, e_113_159, e_113_162, e_113_163, e_113_166, e_113_167, e_113_170, kN7, kK7, kR7_0, kR7_2, kR7_9, kR7_10, hne, hn0, if_false, if_true, n_K_I, n_K_J, n_K_R, n_K_N, n_n_I, n_n_J, n_n_R, n_n_N, n_R_I, n_R_J, n_R_R, n_R_N, and_self, false_and, and_false, Option.some.injEq, exists_eq_left, exists_eq_left', true_and, and_true, or_true, true_or, Nat.add_assoc, Nat.reduceAdd, Nat.add_left_cancel_iff, Nat.reduceEqDiff, Nat.left_eq_add, Nat.add_eq_left, List.length_cons, List.length_nil, Nat.reduceLeDiff, Nat.zero_le, Option.toList_none, List.nil_append, eq_self, not_false_eq_true, tn_2, lz_2, tn_5, lz_5, tn_400, lz_400]
  have gr8 : gn (sNw (sR τ7 a 13 (some (gn σ + 44))) 3 0 8) = gn σ + 50 := by simp only [kN7, n_n_I, n_n_R, n_n_N, Nat.add_assoc, Nat.reduceAdd]
  have kr8 : gK (sNw (sR τ7 a 13 (some (gn σ + 44))) 3 0 8) (gn σ + 49) = 3 := by simp only [kN7, n_K_I, n_K_R, n_K_N, n_n_I, n_n_R, n_n_N, Nat.add_assoc, Nat.reduceAdd, eq_self, if_true]
  refine (s_i_20 (d := d + 1) kr8 (by rw [gr8]; omega)).mpr ?_
  have kN8 : gn (i_20 (sNw (sR τ7 a 13 (some (gn σ + 44))) 3 0 8) (gn σ + 49) (gn σ) (gn σ + 24) (gn σ + 32)) = gn σ + 53 := by rw [kn_i_20, gr8]
  have kK8 : gK (i_20 (sNw (sR τ7 a 13 (some (gn σ + 44))) 3 0 8) (gn σ + 49) (gn σ) (gn σ + 24) (gn σ + 32)) a = 12 := by
    rw [kk_i_20 (by rw [gr8]; omega)]
    simp only [kN7, n_K_I, n_K_R, n_K_N, n_n_I, n_n_R, n_n_N, Nat.add_assoc, Nat.reduceAdd, hne, hn0, if_false, kK7]
  have kR8_0 : gR (i_20 (sNw (sR τ7 a 13 (some (gn σ + 44))) 3 0 8) (gn σ + 49) (gn σ) (gn σ + 24) (gn σ + 32)) a 0 = some (gn σ) := by
    rw [kr_i_20 (by rw [gr8]; omega) (by omega)]
    simp only [kN7, kR7_0, n_R_I, n_R_R, n_R_N, n_n_I, n_n_R, n_n_N, Nat.add_assoc, Nat.reduceAdd, hne, hn0, if_false, if_true, and_self, and_false, Nat.reduceEqDiff, Nat.reduceEqDiff, eq_self]
  have kR8_2 : gR (i_20 (sNw (sR τ7 a 13 (some (gn σ + 44))) 3 0 8) (gn σ + 49) (gn σ) (gn σ + 24) (gn σ + 32)) a 2 = some (gn σ + 18) := by
    rw [kr_i_20 (by rw [gr8]; omega) (by omega)]
    simp only [kN7, kR7_2, n_R_I, n_R_R, n_R_N, n_n_I, n_n_R, n_n_N, Nat.add_assoc, Nat.reduceAdd, hne, hn0, if_false, if_true, and_self, and_false, Nat.reduceEqDiff, Nat.reduceEqDiff, eq_self]
  have kR8_9 : gR (i_20 (sNw (sR τ7 a 13 (some (gn σ + 44))) 3 0 8) (gn σ + 49) (gn σ) (gn σ + 24) (gn σ + 32)) a 9 = some (gn σ + 24) := by
    rw [kr_i_20 (by rw [gr8]; omega) (by omega)]
    simp only [kN7, kR7_9, n_R_I, n_R_R, n_R_N, n_n_I, n_n_R, n_n_N, Nat.add_assoc, Nat.reduceAdd, hne, hn0, if_false, if_true, and_self, and_false, Nat.reduceEqDiff, Nat.reduceEqDiff, eq_self]
  have kR8_10 : gR (i_20 (sNw (sR τ7 a 13 (some (gn σ + 44))) 3 0 8) (gn σ + 49) (gn σ) (gn σ + 24) (gn σ + 32)) a 10 = some (gn σ + 32) := by
    rw [kr_i_20 (by rw [gr8]; omega) (by omega)]
    simp only [kN7, kR7_10, n_R_I, n_R_R, n_R_N, n_n_I, n_n_R, n_n_N, Nat.add_assoc, Nat.reduceAdd, hne, hn0, if_false, if_true, and_self, and_false, Nat.reduceEqDiff, Nat.reduceEqDiff, eq_self]
  generalize hτ8 : i_20 (sNw (sR τ7 a 13 (some (gn σ + 44))) 3 0 8) (gn σ + 49) (gn σ) (gn σ + 24) (gn σ + 32) = τ8 at h kN8 kK8 kR8_0 kR8_2 kR8_9 kR8_10 ⊢
  clear gr8 kr8 hτ8
  simp only [e_113_173, e_113_176, kN8, kK8, kR8_0, kR8_2, kR8_9, kR8_10, hne, hn0, if_false, if_true, n_K_I, n_K_J, n_K_R, n_K_N, n_n_I, n_n_J, n_n_R, n_n_N, n_R_I, n_R_J, n_R_R, n_R_N, and_self, false_and, and_false, Option.some.injEq, exists_eq_left, exists_eq_left', true_and, and_true, or_true, true_or, Nat.add_assoc, Nat.reduceAdd, Nat.add_left_cancel_iff, Nat.reduceEqDiff, Nat.left_eq_add, Nat.add_eq_left, List.length_cons, List.length_nil, Nat.reduceLeDiff, Nat.zero_le, Option.toList_none, List.nil_append, eq_self, not_false_eq_true, tn_2, lz_2, tn_5, lz_5, tn_400, lz_400]
  exact h
