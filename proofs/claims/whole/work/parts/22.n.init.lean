theorem kn_i_99 {σ : gS} {a : Nat} : gn (i_99 σ a ) = gn σ + 16 := Eq.trans rfl rfl
theorem kk_i_99 {σ : gS} {a : Nat} {b : Nat} (hb : b < gn σ) : gK (i_99 σ a ) b = gK σ b := by
  have h0 : ¬ b = gn σ := by omega
  have hj : ∀ j, ¬ b = gn σ + j := fun j => by omega
  simp only [i_99, i_36_4, i_36_8, i_62, n_K_I, n_K_J, n_K_R, n_K_N, n_n_I, n_n_J, n_n_R, n_n_N, Nat.add_assoc, Nat.reduceAdd, h0, hj, if_false]
theorem kr_i_99 {σ : gS} {a : Nat} {b k : Nat} (hb : b < gn σ) (hne : ¬ b = a) : gR (i_99 σ a ) b k = gR σ b k := by
  have h0 : ¬ b = gn σ := by omega
  have hj : ∀ j, ¬ b = gn σ + j := fun j => by omega
  simp only [i_99, i_36_4, i_36_8, i_62, n_K_I, n_K_J, n_K_R, n_K_N, n_n_I, n_n_J, n_n_R, n_n_N, n_R_I, n_R_J, n_R_R, n_R_N, Nat.add_assoc, Nat.reduceAdd, h0, hj, hne, false_and, if_false]
theorem kn_i_40 {σ : gS} {a p0 : Nat} : gn (i_40 σ a p0) = gn σ + 3 := Eq.trans rfl rfl
theorem kk_i_40 {σ : gS} {a p0 : Nat} {b : Nat} (hb : b < gn σ) : gK (i_40 σ a p0) b = gK σ b := by
  have h0 : ¬ b = gn σ := by omega
  have hj : ∀ j, ¬ b = gn σ + j := fun j => by omega
  simp only [i_40, i_36_4, i_36_8, i_62, n_K_I, n_K_J, n_K_R, n_K_N, n_n_I, n_n_J, n_n_R, n_n_N, Nat.add_assoc, Nat.reduceAdd, h0, hj, if_false]
theorem kr_i_40 {σ : gS} {a p0 : Nat} {b k : Nat} (hb : b < gn σ) (hne : ¬ b = a) : gR (i_40 σ a p0) b k = gR σ b k := by
  have h0 : ¬ b = gn σ := by omega
  have hj : ∀ j, ¬ b = gn σ + j := fun j => by omega
  simp only [i_40, i_36_4, i_36_8, i_62, n_K_I, n_K_J, n_K_R, n_K_N, n_n_I, n_n_J, n_n_R, n_n_N, n_R_I, n_R_J, n_R_R, n_R_N, Nat.add_assoc, Nat.reduceAdd, h0, hj, hne, false_and, if_false]
theorem kn_i_82 {σ : gS} {a p0 : Nat} : gn (i_82 σ a p0) = gn σ + 7 := Eq.trans rfl rfl
theorem kk_i_82 {σ : gS} {a p0 : Nat} {b : Nat} (hb : b < gn σ) : gK (i_82 σ a p0) b = gK σ b := by
  have h0 : ¬ b = gn σ := by omega
  have hj : ∀ j, ¬ b = gn σ + j := fun j => by omega
  simp only [i_82, i_36_4, i_36_8, i_62, n_K_I, n_K_J, n_K_R, n_K_N, n_n_I, n_n_J, n_n_R, n_n_N, Nat.add_assoc, Nat.reduceAdd, h0, hj, if_false]
theorem kr_i_82 {σ : gS} {a p0 : Nat} {b k : Nat} (hb : b < gn σ) (hne : ¬ b = a) : gR (i_82 σ a p0) b k = gR σ b k := by
  have h0 : ¬ b = gn σ := by omega
  have hj : ∀ j, ¬ b = gn σ + j := fun j => by omega
  simp only [i_82, i_36_4, i_36_8, i_62, n_K_I, n_K_J, n_K_R, n_K_N, n_n_I, n_n_J, n_n_R, n_n_N, n_R_I, n_R_J, n_R_R, n_R_N, Nat.add_assoc, Nat.reduceAdd, h0, hj, hne, false_and, if_false]
theorem kn_i_0 {σ : gS} {a p0 : Nat} : gn (i_0 σ a p0) = gn σ + 3 := Eq.trans rfl rfl
theorem kk_i_0 {σ : gS} {a p0 : Nat} {b : Nat} (hb : b < gn σ) : gK (i_0 σ a p0) b = gK σ b := by
  have h0 : ¬ b = gn σ := by omega
  have hj : ∀ j, ¬ b = gn σ + j := fun j => by omega
  simp only [i_0, i_36_4, i_36_8, i_62, n_K_I, n_K_J, n_K_R, n_K_N, n_n_I, n_n_J, n_n_R, n_n_N, Nat.add_assoc, Nat.reduceAdd, h0, hj, if_false]
theorem kr_i_0 {σ : gS} {a p0 : Nat} {b k : Nat} (hb : b < gn σ) (hne : ¬ b = a) : gR (i_0 σ a p0) b k = gR σ b k := by
  have h0 : ¬ b = gn σ := by omega
  have hj : ∀ j, ¬ b = gn σ + j := fun j => by omega
  simp only [i_0, i_36_4, i_36_8, i_62, n_K_I, n_K_J, n_K_R, n_K_N, n_n_I, n_n_J, n_n_R, n_n_N, n_R_I, n_R_J, n_R_R, n_R_N, Nat.add_assoc, Nat.reduceAdd, h0, hj, hne, false_and, if_false]
theorem kn_i_11 {σ : gS} {a p0 : Nat} : gn (i_11 σ a p0) = gn σ + 4 := Eq.trans rfl rfl
theorem kk_i_11 {σ : gS} {a p0 : Nat} {b : Nat} (hb : b < gn σ) : gK (i_11 σ a p0) b = gK σ b := by
  have h0 : ¬ b = gn σ := by omega
  have hj : ∀ j, ¬ b = gn σ + j := fun j => by omega
  simp only [i_11, i_36_4, i_36_8, i_62, n_K_I, n_K_J, n_K_R, n_K_N, n_n_I, n_n_J, n_n_R, n_n_N, Nat.add_assoc, Nat.reduceAdd, h0, hj, if_false]
theorem kr_i_11 {σ : gS} {a p0 : Nat} {b k : Nat} (hb : b < gn σ) (hne : ¬ b = a) : gR (i_11 σ a p0) b k = gR σ b k := by
  have h0 : ¬ b = gn σ := by omega
  have hj : ∀ j, ¬ b = gn σ + j := fun j => by omega
  simp only [i_11, i_36_4, i_36_8, i_62, n_K_I, n_K_J, n_K_R, n_K_N, n_n_I, n_n_J, n_n_R, n_n_N, n_R_I, n_R_J, n_R_R, n_R_N, Nat.add_assoc, Nat.reduceAdd, h0, hj, hne, false_and, if_false]
theorem kn_i_30 {σ : gS} {a p0 : Nat} : gn (i_30 σ a p0) = gn σ + 2 := Eq.trans rfl rfl
theorem kk_i_30 {σ : gS} {a p0 : Nat} {b : Nat} (hb : b < gn σ) : gK (i_30 σ a p0) b = gK σ b := by
  have h0 : ¬ b = gn σ := by omega
  have hj : ∀ j, ¬ b = gn σ + j := fun j => by omega
  simp only [i_30, i_36_4, i_36_8, i_62, n_K_I, n_K_J, n_K_R, n_K_N, n_n_I, n_n_J, n_n_R, n_n_N, Nat.add_assoc, Nat.reduceAdd, h0, hj, if_false]
theorem kr_i_30 {σ : gS} {a p0 : Nat} {b k : Nat} (hb : b < gn σ) (hne : ¬ b = a) : gR (i_30 σ a p0) b k = gR σ b k := by
  have h0 : ¬ b = gn σ := by omega
  have hj : ∀ j, ¬ b = gn σ + j := fun j => by omega
  simp only [i_30, i_36_4, i_36_8, i_62, n_K_I, n_K_J, n_K_R, n_K_N, n_n_I, n_n_J, n_n_R, n_n_N, n_R_I, n_R_J, n_R_R, n_R_N, Nat.add_assoc, Nat.reduceAdd, h0, hj, hne, false_and, if_false]
theorem kn_i_71 {σ : gS} {a p0 p1 : Nat} : gn (i_71 σ a p0 p1) = gn σ + 4 := Eq.trans rfl rfl
theorem kk_i_71 {σ : gS} {a p0 p1 : Nat} {b : Nat} (hb : b < gn σ) : gK (i_71 σ a p0 p1) b = gK σ b := by
  have h0 : ¬ b = gn σ := by omega
  have hj : ∀ j, ¬ b = gn σ + j := fun j => by omega
  simp only [i_71, i_36_4, i_36_8, i_62, n_K_I, n_K_J, n_K_R, n_K_N, n_n_I, n_n_J, n_n_R, n_n_N, Nat.add_assoc, Nat.reduceAdd, h0, hj, if_false]
theorem kr_i_71 {σ : gS} {a p0 p1 : Nat} {b k : Nat} (hb : b < gn σ) (hne : ¬ b = a) : gR (i_71 σ a p0 p1) b k = gR σ b k := by
  have h0 : ¬ b = gn σ := by omega
  have hj : ∀ j, ¬ b = gn σ + j := fun j => by omega
  simp only [i_71, i_36_4, i_36_8, i_62, n_K_I, n_K_J, n_K_R, n_K_N, n_n_I, n_n_J, n_n_R, n_n_N, n_R_I, n_R_J, n_R_R, n_R_N, Nat.add_assoc, Nat.reduceAdd, h0, hj, hne, false_and, if_false]
theorem kn_i_20 {σ : gS} {a p0 p1 p2 : Nat} : gn (i_20 σ a p0 p1 p2) = gn σ + 3 := Eq.trans rfl rfl
theorem kk_i_20 {σ : gS} {a p0 p1 p2 : Nat} {b : Nat} (hb : b < gn σ) : gK (i_20 σ a p0 p1 p2) b = gK σ b := by
  have h0 : ¬ b = gn σ := by omega
  have hj : ∀ j, ¬ b = gn σ + j := fun j => by omega
  simp only [i_20, i_36_4, i_36_8, i_62, n_K_I, n_K_J, n_K_R, n_K_N, n_n_I, n_n_J, n_n_R, n_n_N, Nat.add_assoc, Nat.reduceAdd, h0, hj, if_false]
theorem kr_i_20 {σ : gS} {a p0 p1 p2 : Nat} {b k : Nat} (hb : b < gn σ) (hne : ¬ b = a) : gR (i_20 σ a p0 p1 p2) b k = gR σ b k := by
  have h0 : ¬ b = gn σ := by omega
  have hj : ∀ j, ¬ b = gn σ + j := fun j => by omega
  simp only [i_20, i_36_4, i_36_8, i_62, n_K_I, n_K_J, n_K_R, n_K_N, n_n_I, n_n_J, n_n_R, n_n_N, n_R_I, n_R_J, n_R_R, n_R_N, Nat.add_assoc, Nat.reduceAdd, h0, hj, hne, false_and, if_false]
