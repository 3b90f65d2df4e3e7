/-! a new law -/
theorem xS_c {X X' : Nat → Nat} {W : Nat → Int32} {pl : Nat} {stk : List Int64} (h : X' pl = X pl) : xS X' W pl stk = xS X W pl stk := by
  simp only [xS, h]
theorem xr_c {X X' : Nat → Nat} {W : Nat → Int32} {e : Nat} (h : ∀ j, j < e → X' j = X j) : ∀ m pl stk, xr X' W e m pl stk = xr X W e m pl stk := by
  intro m
  induction m with
  | zero => intro pl stk; rfl
  | succ m ih =>
    intro pl stk
    rw [xr, xr]
    by_cases c : pl < e
    · rw [if_pos c, if_pos c, xS_c (h pl c)]
      cases xS X W pl stk with
      | none => rfl
      | some x => exact ih _ _
    · rw [if_neg c, if_neg c]
theorem CdC_c {X X' : Nat → Nat} {s e : Nat} {cl : zC} (h : ∀ j, j < e → X' j = X j) (w : CdC X s e cl) : CdC X' s e cl := by
  intro W
  rw [xr_c h]
  exact w W
section
variable {B q n : Nat} {T : Nat → Nat} {d : Nat} {Q : Option Value → gS → Prop} {σ τ : gS}
def NA (τ τ' : gS) (r len : Nat) : Prop := gn τ' = gn τ + 1 ∧ gw τ' = gw τ + len ∧ gT τ' = gT τ ∧ (∀ b, b ≠ gn τ → gK τ' b = gK τ b ∧ gN τ' b = gN τ b ∧ gI τ' b = gI τ b ∧ gJ τ' b = gJ τ b ∧ gR τ' b = gR τ b) ∧ gK τ' (gn τ) = 21 ∧ gN τ' (gn τ) = len ∧ ∀ j, j < len → gI τ' (gn τ) j = gI τ r j
theorem s_copyOf {r N len : Nat} (hK : gK τ r = 21) (hN : gN τ r = N) (hl : len ≤ N) (hN4 : N ≤ 400) (hr : r < gn τ) (K : ∀ τ', NA τ τ' r len → Q (some (.ref (gn τ))) τ') : wc (d + 1) 283 [.ref r, .int (nI len)] τ Q := by
  have hk2 : 20 ≤ gK τ r ∧ gK τ r < 27 := by omega
  by_cases c : len = N
  · subst c
    have kn : gK (sIr (sNw τ 21 len len) (gn τ) (gI τ r)) (gn τ) = 21 := by simp only [n_K_r, n_K_N, if_true]
    simp (disch := first | omega | assumption) only [c_283, e_283_0, e_283_1, e_283_2, e_283_2n, e_283_3, e_283_6, e_283_7, e_283_10, e_283_13, e_283_13n, n10, n01, Nat.lt_irrefl, Nat.not_lt_zero, ne_eq, Nat.add_zero, Nat.one_ne_zero, Nat.zero_ne_one, Nat.reduceEqDiff, bI_T, bI_F, bI_0, bI_1, bI_01, not_and_self, true_and, and_true, not_true_eq_false, not_false_eq_true, false_imp_iff, true_imp_iff, imp_self, gPv_n, gPv_i, gPv_r, gPv_0, Option.toList_some, Option.toList_none, List.singleton_append, List.cons_append, List.nil_append, List.length_nil, List.length_cons, Nat.zero_le, Nat.reduceAdd, Nat.reduceLeDiff, or_true, true_or, false_or, or_false, and_self, and_false, false_and, implies_true, Option.some.injEq, exists_eq_left', nL, nI_add, nI_mul, nI_clamp, nI_ltI, nI_leI, nI_eq, nI_pos, nI_pos', Nat.reduceAdd, Nat.reduceMul, Nat.reducePow, hK, hN, nI_of_len, kn]
    refine K _ ⟨?_, ?_, ?_, ?_, ?_, ?_, ?_⟩
    · simp only [n_n_r, n_n_N]
    · simp only [n_w_r, n_w_N]
    · simp only [n_T_r, n_T_N]
    · intro b hb
      refine ⟨?_, ?_, ?_, ?_, ?_⟩
      · simp only [n_K_r, n_K_N, if_neg hb]
      · simp only [n_N_r, n_N_N, if_neg hb]
      · rw [rr_ne hb]; funext j; simp only [n_I_N, if_neg hb]
      · funext j; simp only [n_J_r, n_J_N, if_neg hb]
      · funext j; simp only [n_R_r, n_R_N, if_neg hb]
    · exact kn
    · simp only [n_N_r, n_N_N, if_true]
    · intro j _; rw [rr_eq]
  · have l1 : len ≤ 1000000 := by omega
    have rne : ¬ r = gn τ := by omega
    have kn : gK (sNw τ 21 len len) (gn τ) = 21 := by simp only [n_K_N, if_true]
    have kr : gK (sNw τ 21 len len) r = 21 := by simp only [n_K_N, if_neg rne]; exact hK
    have nn : gN (sNw τ 21 len len) (gn τ) = len := by simp only [n_N_N, if_true]
    have nr : gN (sNw τ 21 len len) r = N := by simp only [n_N_N, if_neg rne]; exact hN
    have k3 : 20 ≤ gK (sNw τ 21 len len) r ∧ gK (sNw τ 21 len len) r < 27 := by omega
    have mn : min N len = len := by omega
    have ll : len ≤ len := Nat.le_refl _
    simp (disch := first | omega | assumption) only [c_283, e_283_0, e_283_1, e_283_2, e_283_2n, e_283_3, e_283_14, e_283_15, e_283_17, e_283_17n, e_283_18, e_283_19, e_283_20, e_283_20n, e_283_21, e_283_22, e_283_23, e_283_23n, e_283_24, e_283_25, e_283_28, e_283_31, e_283_31n, e_283_32, e_283_32n, n10, n01, Nat.lt_irrefl, Nat.not_lt_zero, ne_eq, Nat.add_zero, Nat.one_ne_zero, Nat.zero_ne_one, Nat.reduceEqDiff, bI_T, bI_F, bI_0, bI_1, bI_01, not_and_self, true_and, and_true, not_true_eq_false, not_false_eq_true, false_imp_iff, true_imp_iff, imp_self, gPv_n, gPv_i, gPv_r, gPv_0, Option.toList_some, Option.toList_none, List.singleton_append, List.cons_append, List.nil_append, List.length_nil, List.length_cons, Nat.zero_le, Nat.reduceAdd, Nat.reduceLeDiff, or_true, true_or, false_or, or_false, and_self, and_false, false_and, implies_true, Option.some.injEq, exists_eq_left', nL, nI_add, nI_mul, nI_clamp, nI_ltI, nI_leI, nI_eq, nI_pos, nI_pos', Nat.reduceAdd, Nat.reduceMul, Nat.reducePow, hK, hN, nI_of_len, c, l1, kn, kr, nn, nr, nI_min2, mn, hl, Nat.zero_add, Nat.le_refl]
    refine K _ ⟨?_, ?_, ?_, ?_, ?_, ?_, ?_⟩
    · simp only [n_n_r, n_n_N]
    · simp only [n_w_r, n_w_N]
    · simp only [n_T_r, n_T_N]
    · intro b hb
      refine ⟨?_, ?_, ?_, ?_, ?_⟩
      · simp only [n_K_r, n_K_N, if_neg hb]
      · simp only [n_N_r, n_N_N, if_neg hb]
      · rw [rr_ne hb]; funext j; simp only [n_I_N, if_neg hb]
      · funext j; simp only [n_J_r, n_J_N, if_neg hb]
      · funext j; simp only [n_R_r, n_R_N, if_neg hb]
    · simp only [n_K_r]; exact kn
    · simp only [n_N_r]; exact nn
    · intro j hj
      have z : 0 ≤ j ∧ j < 0 + len := by omega
      rw [rr_eq, va_cpy, if_pos z, Nat.sub_zero, Nat.zero_add]
      simp only [n_I_N, if_neg rne]
/-- the cells of a new law, p = gn τ -/
def NLw (τ τ' : gS) (B z m : Nat) (x : Int32) : Prop := (gn τ' = gn τ + 4 ∧ gw τ' = gw τ + (5 + z + m + m) ∧ gT τ' = gT τ) ∧ (∀ b, b < gn τ → gK τ' b = gK τ b ∧ gN τ' b = gN τ b ∧ gI τ' b = gI τ b ∧ gJ τ' b = gJ τ b ∧ gR τ' b = gR τ b) ∧ (gK τ' (gn τ) = 4 ∧ gR τ' (gn τ) 0 = some (gn τ + 1) ∧ gR τ' (gn τ) 1 = some (gn τ + 2) ∧ gR τ' (gn τ) 2 = some (gn τ + 3) ∧ gK τ' (gn τ + 1) = 21 ∧ gK τ' (gn τ + 2) = 21 ∧ gK τ' (gn τ + 3) = 21) ∧ (gN τ' (gn τ + 1) = z ∧ gN τ' (gn τ + 2) = m ∧ gN τ' (gn τ + 3) = m) ∧ (gI τ' (gn τ) 3 = nI m ∧ gI τ' (gn τ) 4 = x) ∧ (∀ j, j < z → gI τ' (gn τ + 1) j = gI τ (B + 21) j) ∧ (∀ j, j < m → gI τ' (gn τ + 2) j = gI τ (B + 22) j) ∧ ∀ j, j < m → gI τ' (gn τ + 3) j = gI τ (B + 23) j
set_option maxHeartbeats 1000000 in
theorem s_newLaw {z m : Nat} {x : Int32} (hv : IvS B τ) (hn : B + 80 ≤ gn τ) (hx : x = nI 0 ∨ x = nI 1) (hm1 : 1 ≤ m) (hm : m ≤ 12) (hz : z ≤ 400) (hE : gI τ (B + 22) (m - 1) = nI z) (K : ∀ τ', NLw τ τ' B z m x → Q none τ') : wc (d + 2) 24 [.ref (gn τ), .ref (B + 21), .ref (B + 22), .ref (B + 23), .int (nI m), .int x] (sNw τ 4 0 5) Q := by
  generalize hτ0 : sNw τ 4 0 5 = τ0
  have g0 : gn τ0 = gn τ + 1 := by rw [← hτ0, n_n_N]
  have o0 : ∀ b, b ≠ gn τ → gK τ0 b = gK τ b ∧ gN τ0 b = gN τ b ∧ gI τ0 b = gI τ b ∧ gJ τ0 b = gJ τ b ∧ gR τ0 b = gR τ b := by
    intro b hb
    rw [← hτ0]
    refine ⟨by rw [n_K_N, if_neg hb], by rw [n_N_N, if_neg hb], ?_, ?_, ?_⟩
    · funext j; rw [n_I_N, if_neg hb]
    · funext j; rw [n_J_N, if_neg hb]
    · funext j; rw [n_R_N, if_neg hb]
  have kp0 : gK τ0 (gn τ) = 4 := by rw [← hτ0, n_K_N, if_pos rfl]
  have hv0 : IvS B τ0 := by
    obtain ⟨v1, v2⟩ := hv
    refine ⟨fun o ho => by rw [(o0 _ (by omega)).1, (o0 _ (by omega)).2.1]; exact v1 o ho, fun e he => ?_⟩
    have := (rT_8 e he).2.2
    rw [(o0 _ (by omega)).2.2.2.2]
    exact v2 e he
  have k21 := sk_21 hv0
  have k22 := sk_22 hv0
  have k23 := sk_23 hv0
  have e1 : gI τ0 (B + 22) (m - 1) = nI z := by rw [(o0 _ (by omega)).2.2.1]; exact hE
  have m1 : m - 1 < 12 := by omega
  have m0 : ¬ m = 0 := by omega
  have mm : min m (min 12 12) = m := by omega
  have mz : min 400 z = z := by omega
  have mx1 : max 0 m = m := by omega
  have mx2 : max 0 z = z := by omega
  have m12 : min 12 12 = 12 := by decide
  have mm' : min m 12 = m := by omega
  simp (disch := omega) only [c_24, e_24_0, e_24_1, e_24_4, e_24_5, e_24_7, e_24_7n, e_24_8, e_24_9, e_24_9n, e_24_10, e_24_11, e_24_14, e_24_17, e_24_20, e_24_22, e_24_24, e_24_27, e_24_28, e_24_31, e_24_32, e_24_32n, e_24_33, e_24_34, e_24_34n, e_24_35, e_24_37, e_24_38, e_24_39, e_24_40, e_24_43, e_24_46, e_24_48, e_24_49, e_24_49n, e_24_50, e_24_52, n10, n01, Nat.lt_irrefl, Nat.not_lt_zero, ne_eq, Nat.add_zero, Nat.one_ne_zero, Nat.zero_ne_one, Nat.reduceEqDiff, bI_T, bI_F, bI_0, bI_1, bI_01, not_and_self, true_and, and_true, not_true_eq_false, not_false_eq_true, false_imp_iff, true_imp_iff, imp_self, gPv_n, gPv_i, gPv_r, gPv_0, Option.toList_some, Option.toList_none, List.singleton_append, List.cons_append, List.nil_append, List.length_nil, List.length_cons, Nat.zero_le, Nat.reduceAdd, Nat.reduceLeDiff, or_true, true_or, false_or, or_false, and_self, and_false, false_and, implies_true, Option.some.injEq, exists_eq_left', nL, nI_add, nI_mul, nI_clamp, nI_ltI, nI_leI, nI_eq, nI_pos, nI_pos', Nat.reduceAdd, Nat.reduceMul, Nat.reducePow, sk_21 hv0, sn_21 hv0, sk_22 hv0, sn_22 hv0, sk_23 hv0, sn_23 hv0, nI_of_len, kp0, if_false, nI_min2, nI_max2, m12, mm', mx1, m0, nI_sub, m1, e1, mz, mx2]
  refine s_copyOf (N := 400) (sk_21 hv0) (sn_21 hv0) hz (by omega) (by omega) ?_
  intro τ1 n1
  obtain ⟨a1, a2, a3, a4, a5, a6, a7⟩ := n1
  have kp1 : gK τ1 (gn τ) = 4 := by rw [(a4 _ (by omega)).1]; exact kp0
  simp (disch := omega) only [e_24_55, e_24_58, e_24_59, e_24_59n, e_24_60, e_24_62, n10, n01, Nat.lt_irrefl, Nat.not_lt_zero, ne_eq, Nat.add_zero, Nat.one_ne_zero, Nat.zero_ne_one, Nat.reduceEqDiff, bI_T, bI_F, bI_0, bI_1, bI_01, not_and_self, true_and, and_true, not_true_eq_false, not_false_eq_true, false_imp_iff, true_imp_iff, imp_self, gPv_n, gPv_i, gPv_r, gPv_0, Option.toList_some, Option.toList_none, List.singleton_append, List.cons_append, List.nil_append, List.length_nil, List.length_cons, Nat.zero_le, Nat.reduceAdd, Nat.reduceLeDiff, or_true, true_or, false_or, or_false, and_self, and_false, false_and, implies_true, Option.some.injEq, exists_eq_left', nL, kp1]
  generalize hτ2 : sR τ1 (gn τ) 0 (some (gn τ0)) = τ2
  have g2 : gn τ2 = gn τ + 2 := by rw [← hτ2, n_n_R, a1, g0]
  have o2 : ∀ b, b < gn τ → gK τ2 b = gK τ b ∧ gN τ2 b = gN τ b ∧ gI τ2 b = gI τ b ∧ gJ τ2 b = gJ τ b ∧ gR τ2 b = gR τ b := by
    intro b hb
    obtain ⟨x1, x2, x3, x4, x5⟩ := a4 b (by omega)
    obtain ⟨y1, y2, y3, y4, y5⟩ := o0 b (by omega)
    rw [← hτ2]
    refine ⟨by rw [n_K_R, x1, y1], by rw [n_N_R, x2, y2], ?_, ?_, ?_⟩
    · funext j; rw [n_I_R, x3, y3]
    · funext j; rw [n_J_R, x4, y4]
    · funext j; rw [n_R_R, if_neg (by omega), x5, y5]
  have hv2 : IvS B τ2 := by
    obtain ⟨v1, v2⟩ := hv
    refine ⟨fun o ho => by rw [(o2 _ (by omega)).1, (o2 _ (by omega)).2.1]; exact v1 o ho, fun e he => ?_⟩
    have := (rT_8 e he).2.2
    rw [(o2 _ (by omega)).2.2.2.2]
    exact v2 e he
  refine s_copyOf (N := 12) (sk_22 hv2) (sn_22 hv2) hm (by omega) (by omega) ?_
  intro τ3 n3
  obtain ⟨b1, b2, b3, b4, b5, b6, b7⟩ := n3
  have kp2 : gK τ2 (gn τ) = 4 := by rw [← hτ2, n_K_R]; exact kp1
  have kp3 : gK τ3 (gn τ) = 4 := by rw [(b4 _ (by omega)).1]; exact kp2
  simp (disch := omega) only [e_24_65, e_24_68, e_24_69, e_24_69n, e_24_70, e_24_72, n10, n01, Nat.lt_irrefl, Nat.not_lt_zero, ne_eq, Nat.add_zero, Nat.one_ne_zero, Nat.zero_ne_one, Nat.reduceEqDiff, bI_T, bI_F, bI_0, bI_1, bI_01, not_and_self, true_and, and_true, not_true_eq_false, not_false_eq_true, false_imp_iff, true_imp_iff, imp_self, gPv_n, gPv_i, gPv_r, gPv_0, Option.toList_some, Option.toList_none, List.singleton_append, List.cons_append, List.nil_append, List.length_nil, List.length_cons, Nat.zero_le, Nat.reduceAdd, Nat.reduceLeDiff, or_true, true_or, false_or, or_false, and_self, and_false, false_and, implies_true, Option.some.injEq, exists_eq_left', nL, kp3]
  generalize hτ4 : sR τ3 (gn τ) 1 (some (gn τ2)) = τ4
  have g4 : gn τ4 = gn τ + 3 := by rw [← hτ4, n_n_R, b1, g2]
  have o4 : ∀ b, b < gn τ → gK τ4 b = gK τ b ∧ gN τ4 b = gN τ b ∧ gI τ4 b = gI τ b ∧ gJ τ4 b = gJ τ b ∧ gR τ4 b = gR τ b := by
    intro b hb
    obtain ⟨x1, x2, x3, x4, x5⟩ := b4 b (by omega)
    obtain ⟨y1, y2, y3, y4, y5⟩ := o2 b hb
    rw [← hτ4]
    refine ⟨by rw [n_K_R, x1, y1], by rw [n_N_R, x2, y2], ?_, ?_, ?_⟩
    · funext j; rw [n_I_R, x3, y3]
    · funext j; rw [n_J_R, x4, y4]
    · funext j; rw [n_R_R, if_neg (by omega), x5, y5]
  have hv4 : IvS B τ4 := by
    obtain ⟨v1, v2⟩ := hv
    refine ⟨fun o ho => by rw [(o4 _ (by omega)).1, (o4 _ (by omega)).2.1]; exact v1 o ho, fun e he => ?_⟩
    have := (rT_8 e he).2.2
    rw [(o4 _ (by omega)).2.2.2.2]
    exact v2 e he
  refine s_copyOf (N := 12) (sk_23 hv4) (sn_23 hv4) hm (by omega) (by omega) ?_
  intro τ5 n5
  obtain ⟨c1, c2, c3, c4, c5, c6, c7⟩ := n5
  have kp4 : gK τ4 (gn τ) = 4 := by rw [← hτ4, n_K_R]; exact kp3
  have kp5 : gK τ5 (gn τ) = 4 := by rw [(c4 _ (by omega)).1]; exact kp4
  simp (disch := omega) only [e_24_75, e_24_78, e_24_79, e_24_81, e_24_84, e_24_85, e_24_87, e_24_90, n10, n01, Nat.lt_irrefl, Nat.not_lt_zero, ne_eq, Nat.add_zero, Nat.one_ne_zero, Nat.zero_ne_one, Nat.reduceEqDiff, bI_T, bI_F, bI_0, bI_1, bI_01, not_and_self, true_and, and_true, not_true_eq_false, not_false_eq_true, false_imp_iff, true_imp_iff, imp_self, gPv_n, gPv_i, gPv_r, gPv_0, Option.toList_some, Option.toList_none, List.singleton_append, List.cons_append, List.nil_append, List.length_nil, List.length_cons, Nat.zero_le, Nat.reduceAdd, Nat.reduceLeDiff, or_true, true_or, false_or, or_false, and_self, and_false, false_and, implies_true, Option.some.injEq, exists_eq_left', nL, n_K_I, n_K_J, n_K_R, n_K_r, n_N_I, n_N_J, n_N_R, n_N_r, n_R_I, n_R_J, n_R_r, n_J_I, n_J_R, n_J_r, n_I_J, n_I_R, n_n_I, n_n_J, n_n_R, n_n_r, n_w_I, n_w_J, n_w_R, n_w_r, n_T_I, n_T_J, n_T_R, n_T_r, rI_ne, rI_nk, rI_eq, rr_ne, rr_eq, n_J_J, n_R_R, Nat.add_left_cancel_iff, Nat.add_right_cancel_iff, Nat.add_eq_left, Nat.left_eq_add, Nat.reduceEqDiff, Nat.reduceAdd, Nat.zero_ne_one, Nat.one_ne_zero, false_and, and_false, true_and, and_true, and_self, if_false, if_true, ↓reduceIte, kp5, hx]
  have r5 : ∀ j, gR τ5 (gn τ) j = if j = 1 then some (gn τ + 2) else if j = 0 then some (gn τ + 1) else gR τ1 (gn τ) j := by
    intro j
    rw [(c4 _ (by omega)).2.2.2.2, ← hτ4, n_R_R]
    by_cases h1 : j = 1
    · rw [if_pos ⟨rfl, h1⟩, if_pos h1, g2]
    · rw [if_neg (fun z => h1 z.2), if_neg h1, (b4 _ (by omega)).2.2.2.2, ← hτ2, n_R_R]
      by_cases h0 : j = 0
      · rw [if_pos ⟨rfl, h0⟩, if_pos h0, g0]
      · rw [if_neg (fun z => h0 z.2), if_neg h0]
  have e21 : gI τ1 (gn τ + 1) = gI τ1 (gn τ0) := by rw [g0]
  refine K _ ⟨⟨?_, ?_, ?_⟩, ?_, ⟨?_, ?_, ?_, ?_, ?_, ?_, ?_⟩, ⟨?_, ?_, ?_⟩, ⟨?_, ?_⟩, ?_, ?_, ?_⟩
  · simp only [n_n_I, n_n_R]; rw [c1, g4]
  · simp only [n_w_I, n_w_R]
    rw [c2, ← hτ4, n_w_R, b2, ← hτ2, n_w_R, a2, ← hτ0, n_w_N]
    omega
  · simp only [n_T_I, n_T_R]
    rw [c3, ← hτ4, n_T_R, b3, ← hτ2, n_T_R, a3, ← hτ0, n_T_N]
  · intro b hb
    obtain ⟨x1, x2, x3, x4, x5⟩ := c4 b (by omega)
    obtain ⟨y1, y2, y3, y4, y5⟩ := o4 b hb
    refine ⟨by simp only [n_K_I, n_K_R]; rw [x1, y1], by simp only [n_N_I, n_N_R]; rw [x2, y2], ?_, ?_, ?_⟩
    · rw [rI_ne (by omega), rI_ne (by omega)]
      funext j; rw [n_I_R, x3, y3]
    · funext j; simp only [n_J_I, n_J_R]; rw [x4, y4]
    · funext j; simp only [n_R_I]; rw [n_R_R, if_neg (by omega), x5, y5]
  · simp only [n_K_I, n_K_R]; exact kp5
  · simp only [n_R_I]; rw [n_R_R, if_neg (by omega), r5 0, if_neg (by omega), if_pos rfl]
  · simp only [n_R_I]; rw [n_R_R, if_neg (by omega), r5 1, if_pos rfl]
  · simp only [n_R_I]; rw [n_R_R, if_pos ⟨rfl, rfl⟩, g4]
  · simp only [n_K_I, n_K_R]
    rw [(c4 _ (by omega)).1, ← hτ4, n_K_R, (b4 _ (by omega)).1, ← hτ2, n_K_R, ← g0]
    exact a5
  · simp only [n_K_I, n_K_R]
    rw [(c4 _ (by omega)).1, ← hτ4, n_K_R, ← g2]
    exact b5
  · simp only [n_K_I, n_K_R]
    rw [← g4]
    exact c5
  · simp only [n_N_I, n_N_R]
    rw [(c4 _ (by omega)).2.1, ← hτ4, n_N_R, (b4 _ (by omega)).2.1, ← hτ2, n_N_R, ← g0]
    exact a6
  · simp only [n_N_I, n_N_R]
    rw [(c4 _ (by omega)).2.1, ← hτ4, n_N_R, ← g2]
    exact b6
  · simp only [n_N_I, n_N_R]
    rw [← g4]
    exact c6
  · rw [rI_nk (by omega), rI_eq]
  · rw [rI_eq]
  · intro j hj
    rw [rI_ne (by omega), rI_ne (by omega), n_I_R, (c4 _ (by omega)).2.2.1, ← hτ4, n_I_R, (b4 _ (by omega)).2.2.1, ← hτ2, n_I_R, e21, a7 j hj, (o0 _ (by omega)).2.2.1]
  · intro j hj
    rw [rI_ne (by omega), rI_ne (by omega), n_I_R, (c4 _ (by omega)).2.2.1, ← hτ4, n_I_R, ← g2, b7 j hj, (o2 _ (by omega)).2.2.1]
  · intro j hj
    rw [rI_ne (by omega), rI_ne (by omega), n_I_R, ← g4, c7 j hj, (o4 _ (by omega)).2.2.1]
end
