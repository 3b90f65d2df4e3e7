/-! a new town -/
def NT (σ : gS) : gS := i_99 (sNw σ 11 0 18) (gn σ)
section
variable {σ : gS}
theorem kN_i_99 {a b : Nat} (hb : b < gn σ) : gN (i_99 σ a) b = gN σ b := by
  have h0 : ¬ b = gn σ := by omega
  have hj : ∀ j, ¬ b = gn σ + j := fun j => by omega
  simp only [i_99, i_36_4, i_36_8, n_N_I, n_N_J, n_N_R, n_N_N, n_n_I, n_n_J, n_n_R, n_n_N, Nat.add_assoc, Nat.reduceAdd, h0, hj, if_false]
theorem kI_i_99 {a b k : Nat} (hb : b < gn σ) (hne : ¬ b = a) : gI (i_99 σ a) b k = gI σ b k := by
  have h0 : ¬ b = gn σ := by omega
  have hj : ∀ j, ¬ b = gn σ + j := fun j => by omega
  simp only [i_99, i_36_4, i_36_8, n_I_I, n_I_J, n_I_R, n_I_N, n_n_I, n_n_J, n_n_R, n_n_N, Nat.add_assoc, Nat.reduceAdd, h0, hj, hne, false_and, if_false]
theorem kJ_i_99 {a b k : Nat} (hb : b < gn σ) : gJ (i_99 σ a) b k = gJ σ b k := by
  have h0 : ¬ b = gn σ := by omega
  have hj : ∀ j, ¬ b = gn σ + j := fun j => by omega
  simp only [i_99, i_36_4, i_36_8, n_J_I, n_J_R, n_J_N, n_n_I, n_n_J, n_n_R, n_n_N, Nat.add_assoc, Nat.reduceAdd, h0, hj, false_and, if_false]
theorem nt_o {b : Nat} (hb : b < gn σ) : gK (NT σ) b = gK σ b ∧ gN (NT σ) b = gN σ b ∧ gI (NT σ) b = gI σ b ∧ gJ (NT σ) b = gJ σ b ∧ gR (NT σ) b = gR σ b := by
  have h0 : ¬ b = gn σ := by omega
  have h1 : b < gn (sNw σ 11 0 18) := by rw [n_n_N]; omega
  refine ⟨?_, ?_, ?_, ?_, ?_⟩
  · rw [NT, kk_i_99 h1, n_K_N, if_neg h0]
  · rw [NT, kN_i_99 h1, n_N_N, if_neg h0]
  · funext j; rw [NT, kI_i_99 h1 h0, n_I_N, if_neg h0]
  · funext j; rw [NT, kJ_i_99 h1, n_J_N, if_neg h0]
  · funext j; rw [NT, kr_i_99 h1 h0, n_R_N, if_neg h0]
theorem nt_n : gn (NT σ) = gn σ + 17 ∧ gw (NT σ) = gw σ + 137 ∧ gT (NT σ) = gT σ := by
  refine ⟨?_, ?_, ?_⟩
  · rw [NT, kn_i_99, n_n_N]
  · simp only [NT, i_99, i_36_4, i_36_8, n_w_I, n_w_R, n_w_N, Nat.add_assoc, Nat.reduceAdd]
  · simp only [NT, i_99, i_36_4, i_36_8, n_T_I, n_T_R, n_T_N]
theorem ntk_1 : gK (NT σ) (gn σ + 1) = 21 ∧ gN (NT σ) (gn σ + 1) = 12 := by
  simp only [NT, i_99, i_36_4, i_36_8, n_K_I, n_K_R, n_K_N, n_N_I, n_N_R, n_N_N, n_n_I, n_n_R, n_n_N, Nat.add_assoc, Nat.reduceAdd, Nat.add_left_cancel_iff, Nat.add_eq_left, Nat.left_eq_add, Nat.reduceEqDiff, if_false, if_true, and_self, ↓reduceIte]
theorem ntk_2 : gK (NT σ) (gn σ + 2) = 21 ∧ gN (NT σ) (gn σ + 2) = 12 := by
  simp only [NT, i_99, i_36_4, i_36_8, n_K_I, n_K_R, n_K_N, n_N_I, n_N_R, n_N_N, n_n_I, n_n_R, n_n_N, Nat.add_assoc, Nat.reduceAdd, Nat.add_left_cancel_iff, Nat.add_eq_left, Nat.left_eq_add, Nat.reduceEqDiff, if_false, if_true, and_self, ↓reduceIte]
theorem ntk_3 : gK (NT σ) (gn σ + 3) = 21 ∧ gN (NT σ) (gn σ + 3) = 12 := by
  simp only [NT, i_99, i_36_4, i_36_8, n_K_I, n_K_R, n_K_N, n_N_I, n_N_R, n_N_N, n_n_I, n_n_R, n_n_N, Nat.add_assoc, Nat.reduceAdd, Nat.add_left_cancel_iff, Nat.add_eq_left, Nat.left_eq_add, Nat.reduceEqDiff, if_false, if_true, and_self, ↓reduceIte]
theorem ntk_4 : gK (NT σ) (gn σ + 4) = 21 ∧ gN (NT σ) (gn σ + 4) = 12 := by
  simp only [NT, i_99, i_36_4, i_36_8, n_K_I, n_K_R, n_K_N, n_N_I, n_N_R, n_N_N, n_n_I, n_n_R, n_n_N, Nat.add_assoc, Nat.reduceAdd, Nat.add_left_cancel_iff, Nat.add_eq_left, Nat.left_eq_add, Nat.reduceEqDiff, if_false, if_true, and_self, ↓reduceIte]
theorem ntk_5 : gK (NT σ) (gn σ + 5) = 21 ∧ gN (NT σ) (gn σ + 5) = 12 := by
  simp only [NT, i_99, i_36_4, i_36_8, n_K_I, n_K_R, n_K_N, n_N_I, n_N_R, n_N_N, n_n_I, n_n_R, n_n_N, Nat.add_assoc, Nat.reduceAdd, Nat.add_left_cancel_iff, Nat.add_eq_left, Nat.left_eq_add, Nat.reduceEqDiff, if_false, if_true, and_self, ↓reduceIte]
theorem ntk_6 : gK (NT σ) (gn σ + 6) = 21 ∧ gN (NT σ) (gn σ + 6) = 12 := by
  simp only [NT, i_99, i_36_4, i_36_8, n_K_I, n_K_R, n_K_N, n_N_I, n_N_R, n_N_N, n_n_I, n_n_R, n_n_N, Nat.add_assoc, Nat.reduceAdd, Nat.add_left_cancel_iff, Nat.add_eq_left, Nat.left_eq_add, Nat.reduceEqDiff, if_false, if_true, and_self, ↓reduceIte]
theorem ntk_7 : gK (NT σ) (gn σ + 7) = 24 ∧ gN (NT σ) (gn σ + 7) = 6 := by
  simp only [NT, i_99, i_36_4, i_36_8, n_K_I, n_K_R, n_K_N, n_N_I, n_N_R, n_N_N, n_n_I, n_n_R, n_n_N, Nat.add_assoc, Nat.reduceAdd, Nat.add_left_cancel_iff, Nat.add_eq_left, Nat.left_eq_add, Nat.reduceEqDiff, if_false, if_true, and_self, ↓reduceIte]
theorem ntk_8 : gK (NT σ) (gn σ + 8) = 6 ∧ gN (NT σ) (gn σ + 8) = 0 := by
  simp only [NT, i_99, i_36_4, i_36_8, n_K_I, n_K_R, n_K_N, n_N_I, n_N_R, n_N_N, n_n_I, n_n_R, n_n_N, Nat.add_assoc, Nat.reduceAdd, Nat.add_left_cancel_iff, Nat.add_eq_left, Nat.left_eq_add, Nat.reduceEqDiff, if_false, if_true, and_self, ↓reduceIte]
theorem ntk_9 : gK (NT σ) (gn σ + 9) = 21 ∧ gN (NT σ) (gn σ + 9) = 4 := by
  simp only [NT, i_99, i_36_4, i_36_8, n_K_I, n_K_R, n_K_N, n_N_I, n_N_R, n_N_N, n_n_I, n_n_R, n_n_N, Nat.add_assoc, Nat.reduceAdd, Nat.add_left_cancel_iff, Nat.add_eq_left, Nat.left_eq_add, Nat.reduceEqDiff, if_false, if_true, and_self, ↓reduceIte]
theorem ntk_10 : gK (NT σ) (gn σ + 10) = 21 ∧ gN (NT σ) (gn σ + 10) = 4 := by
  simp only [NT, i_99, i_36_4, i_36_8, n_K_I, n_K_R, n_K_N, n_N_I, n_N_R, n_N_N, n_n_I, n_n_R, n_n_N, Nat.add_assoc, Nat.reduceAdd, Nat.add_left_cancel_iff, Nat.add_eq_left, Nat.left_eq_add, Nat.reduceEqDiff, if_false, if_true, and_self, ↓reduceIte]
theorem ntk_11 : gK (NT σ) (gn σ + 11) = 6 ∧ gN (NT σ) (gn σ + 11) = 0 := by
  simp only [NT, i_99, i_36_4, i_36_8, n_K_I, n_K_R, n_K_N, n_N_I, n_N_R, n_N_N, n_n_I, n_n_R, n_n_N, Nat.add_assoc, Nat.reduceAdd, Nat.add_left_cancel_iff, Nat.add_eq_left, Nat.left_eq_add, Nat.reduceEqDiff, if_false, if_true, and_self, ↓reduceIte]
theorem ntk_12 : gK (NT σ) (gn σ + 12) = 21 ∧ gN (NT σ) (gn σ + 12) = 4 := by
  simp only [NT, i_99, i_36_4, i_36_8, n_K_I, n_K_R, n_K_N, n_N_I, n_N_R, n_N_N, n_n_I, n_n_R, n_n_N, Nat.add_assoc, Nat.reduceAdd, Nat.add_left_cancel_iff, Nat.add_eq_left, Nat.left_eq_add, Nat.reduceEqDiff, if_false, if_true, and_self, ↓reduceIte]
theorem ntk_13 : gK (NT σ) (gn σ + 13) = 21 ∧ gN (NT σ) (gn σ + 13) = 4 := by
  simp only [NT, i_99, i_36_4, i_36_8, n_K_I, n_K_R, n_K_N, n_N_I, n_N_R, n_N_N, n_n_I, n_n_R, n_n_N, Nat.add_assoc, Nat.reduceAdd, Nat.add_left_cancel_iff, Nat.add_eq_left, Nat.left_eq_add, Nat.reduceEqDiff, if_false, if_true, and_self, ↓reduceIte]
theorem ntk_14 : gK (NT σ) (gn σ + 14) = 6 ∧ gN (NT σ) (gn σ + 14) = 0 := by
  simp only [NT, i_99, i_36_4, i_36_8, n_K_I, n_K_R, n_K_N, n_N_I, n_N_R, n_N_N, n_n_I, n_n_R, n_n_N, Nat.add_assoc, Nat.reduceAdd, Nat.add_left_cancel_iff, Nat.add_eq_left, Nat.left_eq_add, Nat.reduceEqDiff, if_false, if_true, and_self, ↓reduceIte]
theorem ntk_15 : gK (NT σ) (gn σ + 15) = 21 ∧ gN (NT σ) (gn σ + 15) = 8 := by
  simp only [NT, i_99, i_36_4, i_36_8, n_K_I, n_K_R, n_K_N, n_N_I, n_N_R, n_N_N, n_n_I, n_n_R, n_n_N, Nat.add_assoc, Nat.reduceAdd, Nat.add_left_cancel_iff, Nat.add_eq_left, Nat.left_eq_add, Nat.reduceEqDiff, if_false, if_true, and_self, ↓reduceIte]
theorem ntk_16 : gK (NT σ) (gn σ + 16) = 21 ∧ gN (NT σ) (gn σ + 16) = 8 := by
  simp only [NT, i_99, i_36_4, i_36_8, n_K_I, n_K_R, n_K_N, n_N_I, n_N_R, n_N_N, n_n_I, n_n_R, n_n_N, Nat.add_assoc, Nat.reduceAdd, Nat.add_left_cancel_iff, Nat.add_eq_left, Nat.left_eq_add, Nat.reduceEqDiff, if_false, if_true, and_self, ↓reduceIte]
theorem ntk_0 : gK (NT σ) (gn σ) = 11 ∧ gN (NT σ) (gn σ) = 0 := by
  simp only [NT, i_99, i_36_4, i_36_8, n_K_I, n_K_R, n_K_N, n_N_I, n_N_R, n_N_N, n_n_I, n_n_R, n_n_N, Nat.add_assoc, Nat.reduceAdd, Nat.add_left_cancel_iff, Nat.add_eq_left, Nat.left_eq_add, Nat.reduceEqDiff, if_false, if_true, and_self, ↓reduceIte]
theorem nt_S : TwS (gn σ) (NT σ) := by
  intro o ho
  have h : o = 0 ∨ o = 1 ∨ o = 2 ∨ o = 3 ∨ o = 4 ∨ o = 5 ∨ o = 6 ∨ o = 7 ∨ o = 8 ∨ o = 9 ∨ o = 10 ∨ o = 11 ∨ o = 12 ∨ o = 13 ∨ o = 14 ∨ o = 15 ∨ o = 16 := by omega
  rcases h with rfl | rfl | rfl | rfl | rfl | rfl | rfl | rfl | rfl | rfl | rfl | rfl | rfl | rfl | rfl | rfl | rfl
  · exact ntk_0
  · exact ntk_1
  · exact ntk_2
  · exact ntk_3
  · exact ntk_4
  · exact ntk_5
  · exact ntk_6
  · exact ntk_7
  · exact ntk_8
  · exact ntk_9
  · exact ntk_10
  · exact ntk_11
  · exact ntk_12
  · exact ntk_13
  · exact ntk_14
  · exact ntk_15
  · exact ntk_16
theorem nt_F : TwF (gn σ) (NT σ) := by
  refine ⟨?_, ?_, ?_, ?_, ?_, ?_, ?_, ?_, ?_, ?_, ?_, ?_, ?_, ?_, ?_, ?_⟩ <;> simp only [NT, i_99, i_36_4, i_36_8, n_R_I, n_R_R, n_R_N, n_n_I, n_n_R, n_n_N, Nat.add_assoc, Nat.reduceAdd, Nat.add_left_cancel_iff, Nat.add_eq_left, Nat.left_eq_add, Nat.reduceEqDiff, if_false, if_true, and_self, and_false, false_and, and_true, true_and, ↓reduceIte]
end
