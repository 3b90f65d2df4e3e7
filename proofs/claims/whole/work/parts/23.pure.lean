/-- the store behind the two constructors -/
def gS1 (G : gG) : gS := i_168 (sNw (i_113 (sNw (gS0 G) 12 0 15) (gB G)) 13 0 50) (gB G + 54)
theorem n_113 (σ : gS) (a : Nat) : gn (i_113 σ a) = gn σ + 53 := by
  simp only [i_113, kn_i_99, kn_i_40, kn_i_82, kn_i_0, kn_i_11, kn_i_30, kn_i_71, kn_i_20, n_n_I, n_n_J, n_n_R, n_n_N, Nat.add_assoc, Nat.reduceAdd]
theorem n_168 (σ : gS) (a : Nat) : gn (i_168 σ a) = gn σ + 25 := by
  simp only [i_168, n_n_I, n_n_J, n_n_R, n_n_N, Nat.add_assoc, Nat.reduceAdd]
set_option maxHeartbeats 4000000 in
set_option maxRecDepth 20000 in
theorem pure_of (Inv : gG → gS → Nat → Prop) (h0 : ∀ G : gG, gLn G ≤ 3072 → gb G < gB G → (∀ i j : Nat, i < 15 → j < 15 → gaK G i = gaK G j → i = j) → (∀ i j : Nat, i < 15 → j < 15 → gaV G i = gaV G j → i = j) → Inv G (gS1 G) 0)
    (hInv : ∀ (G : gG) σ k, Inv G σ k → gK σ (gb G) = 26 ∧ gN σ (gb G) = gLn G ∧ gK σ (gB G) = 12) (hid : ∀ (G : gG) σ k, Inv G σ k → Inv G σ (k + 1))
    (hQ : ∀ (G : gG) σ k, Inv G σ k → k ≤ 512 → gn σ ≤ gB G + 600000 ∧ gw σ ≤ 7302250) (H : ∀ G : gG, gObs (Inv G) (gb G) (gB G) (gB G + 54)) : gPure := by
  intro G hL hb hK hV
  have hI := h0 G hL hb hK hV
  have e0 : gn (gS0 G) = gB G := rfl
  have k1 : gK (sNw (gS0 G) 12 0 15) (gB G) = 12 := va_up_self _ _ _
  have e1 : gn (sNw (gS0 G) 12 0 15) = gB G + 1 := rfl
  have e2 : gn (i_113 (sNw (gS0 G) 12 0 15) (gB G)) = gB G + 54 := by rw [n_113, e1]
  have k2 : gK (sNw (i_113 (sNw (gS0 G) 12 0 15) (gB G)) 13 0 50) (gB G + 54) = 13 := by rw [← e2]; exact va_up_self _ _ _
  have e3 : gn (sNw (i_113 (sNw (gS0 G) 12 0 15) (gB G)) 13 0 50) = gB G + 55 := by rw [n_n_N, e2]
  rw [e_L_0, e_L_3n, e_L_4, e0]
  refine ⟨Nat.le_of_ble_eq_true rfl, ?_⟩
  refine t_i_113 (d := 997) k1 (by rw [e1]; omega) ?_
  simp only [Option.toList_none, List.nil_append, e_L_7, gPv_r, true_and]
  rw [e_L_8, e_L_11n, e_L_12, e2]
  refine ⟨Nat.le_of_ble_eq_true rfl, ?_⟩
  refine (s_i_168 (d := 999) k2 (by rw [e3]; omega)).mpr ?_
  simp only [Option.toList_none, List.nil_append, e_L_15, e_L_16, e_L_17, gPv_r, true_and]
  exact law_loop (Inv := Inv G) hL (hInv G) (hid G) (fun σ k h hk => ⟨rfl, hQ G σ k h hk⟩) (H G) (gLn G + 1) 0 0 (gS1 G) (by omega) rfl (by omega) hI
