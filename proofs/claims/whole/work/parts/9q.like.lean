/-! a town becomes like another -/
theorem twk_1 {t : Nat} {σ : gS} (h : TwS t σ) : gK σ (t + 1) = 21 := (h 1 (by omega)).1
theorem twn_1 {t : Nat} {σ : gS} (h : TwS t σ) : gN σ (t + 1) = 12 := (h 1 (by omega)).2
theorem twk_2 {t : Nat} {σ : gS} (h : TwS t σ) : gK σ (t + 2) = 21 := (h 2 (by omega)).1
theorem twn_2 {t : Nat} {σ : gS} (h : TwS t σ) : gN σ (t + 2) = 12 := (h 2 (by omega)).2
theorem twk_3 {t : Nat} {σ : gS} (h : TwS t σ) : gK σ (t + 3) = 21 := (h 3 (by omega)).1
theorem twn_3 {t : Nat} {σ : gS} (h : TwS t σ) : gN σ (t + 3) = 12 := (h 3 (by omega)).2
theorem twk_4 {t : Nat} {σ : gS} (h : TwS t σ) : gK σ (t + 4) = 21 := (h 4 (by omega)).1
theorem twn_4 {t : Nat} {σ : gS} (h : TwS t σ) : gN σ (t + 4) = 12 := (h 4 (by omega)).2
theorem twk_5 {t : Nat} {σ : gS} (h : TwS t σ) : gK σ (t + 5) = 21 := (h 5 (by omega)).1
theorem twn_5 {t : Nat} {σ : gS} (h : TwS t σ) : gN σ (t + 5) = 12 := (h 5 (by omega)).2
theorem twk_6 {t : Nat} {σ : gS} (h : TwS t σ) : gK σ (t + 6) = 21 := (h 6 (by omega)).1
theorem twn_6 {t : Nat} {σ : gS} (h : TwS t σ) : gN σ (t + 6) = 12 := (h 6 (by omega)).2
theorem twk_7 {t : Nat} {σ : gS} (h : TwS t σ) : gK σ (t + 7) = 24 := (h 7 (by omega)).1
theorem twn_7 {t : Nat} {σ : gS} (h : TwS t σ) : gN σ (t + 7) = 6 := (h 7 (by omega)).2
theorem twk_8 {t : Nat} {σ : gS} (h : TwS t σ) : gK σ (t + 8) = 6 := (h 8 (by omega)).1
theorem twn_8 {t : Nat} {σ : gS} (h : TwS t σ) : gN σ (t + 8) = 0 := (h 8 (by omega)).2
theorem twk_9 {t : Nat} {σ : gS} (h : TwS t σ) : gK σ (t + 9) = 21 := (h 9 (by omega)).1
theorem twn_9 {t : Nat} {σ : gS} (h : TwS t σ) : gN σ (t + 9) = 4 := (h 9 (by omega)).2
theorem twk_10 {t : Nat} {σ : gS} (h : TwS t σ) : gK σ (t + 10) = 21 := (h 10 (by omega)).1
theorem twn_10 {t : Nat} {σ : gS} (h : TwS t σ) : gN σ (t + 10) = 4 := (h 10 (by omega)).2
theorem twk_11 {t : Nat} {σ : gS} (h : TwS t σ) : gK σ (t + 11) = 6 := (h 11 (by omega)).1
theorem twn_11 {t : Nat} {σ : gS} (h : TwS t σ) : gN σ (t + 11) = 0 := (h 11 (by omega)).2
theorem twk_12 {t : Nat} {σ : gS} (h : TwS t σ) : gK σ (t + 12) = 21 := (h 12 (by omega)).1
theorem twn_12 {t : Nat} {σ : gS} (h : TwS t σ) : gN σ (t + 12) = 4 := (h 12 (by omega)).2
theorem twk_13 {t : Nat} {σ : gS} (h : TwS t σ) : gK σ (t + 13) = 21 := (h 13 (by omega)).1
theorem twn_13 {t : Nat} {σ : gS} (h : TwS t σ) : gN σ (t + 13) = 4 := (h 13 (by omega)).2
theorem twk_14 {t : Nat} {σ : gS} (h : TwS t σ) : gK σ (t + 14) = 6 := (h 14 (by omega)).1
theorem twn_14 {t : Nat} {σ : gS} (h : TwS t σ) : gN σ (t + 14) = 0 := (h 14 (by omega)).2
theorem twk_15 {t : Nat} {σ : gS} (h : TwS t σ) : gK σ (t + 15) = 21 := (h 15 (by omega)).1
theorem twn_15 {t : Nat} {σ : gS} (h : TwS t σ) : gN σ (t + 15) = 8 := (h 15 (by omega)).2
theorem twk_16 {t : Nat} {σ : gS} (h : TwS t σ) : gK σ (t + 16) = 21 := (h 16 (by omega)).1
theorem twn_16 {t : Nat} {σ : gS} (h : TwS t σ) : gN σ (t + 16) = 8 := (h 16 (by omega)).2
theorem twk_0 {t : Nat} {σ : gS} (h : TwS t σ) : gK σ t = 11 := (h 0 (by omega)).1
def Sr (t : Nat) (σ τ : gS) : Prop := gK τ = gK σ ∧ gN τ = gN σ ∧ (∀ a, a ≠ t + 7 → gR τ a = gR σ a) ∧ gn τ = gn σ ∧ gw τ = gw σ ∧ gT τ = gT σ ∧ (∀ a, ¬ (t ≤ a ∧ a < t + 17) → gI τ a = gI σ a) ∧ ∀ a, ¬ (t ≤ a ∧ a < t + 17) → gJ τ a = gJ σ a
section
variable {t m : Nat} {σ τ : gS} {d : Nat} {Q : Option Value → gS → Prop}
theorem Sr_Sm {P : Nat → Prop} {τ' : gS} (h : Sr t σ τ) (hS : Sm P τ τ') (hP : ∀ a, P a → t ≤ a ∧ a < t + 17) : Sr t σ τ' := by
  obtain ⟨h1, h2, h3, h4, h5, h6, h7, h8⟩ := h
  obtain ⟨g1, g2, g3, g4, g5, g6, g7, g8⟩ := hS
  exact ⟨g1.trans h1, g2.trans h2, fun a ha => by rw [g3]; exact h3 a ha, g4.trans h4, g5.trans h5, g6.trans h6, fun a ha => (g7 a (fun z => ha (hP a z))).trans (h7 a ha), fun a ha => (g8 a (fun z => ha (hP a z))).trans (h8 a ha)⟩
theorem Sr_R {i : Nat} {x : Option Nat} (h : Sr t σ τ) : Sr t σ (sR τ (t + 7) i x) := by
  obtain ⟨h1, h2, h3, h4, h5, h6, h7, h8⟩ := h
  refine ⟨?_, ?_, ?_, ?_, ?_, ?_, ?_, ?_⟩
  · funext a; simp only [n_K_R]; rw [h1]
  · funext a; simp only [n_N_R]; rw [h2]
  · intro a ha
    funext j
    simp only [n_R_R]
    rw [if_neg (fun z => ha z.1), h3 a ha]
  · simp only [n_n_R]; exact h4
  · simp only [n_w_R]; exact h5
  · simp only [n_T_R]; exact h6
  · intro a ha
    funext j
    simp only [n_I_R]
    rw [h7 a ha]
  · intro a ha
    funext j
    simp only [n_J_R]
    rw [h8 a ha]
theorem Sr_refl : Sr t σ σ := ⟨rfl, rfl, fun _ _ => rfl, rfl, rfl, rfl, fun _ _ => rfl, fun _ _ => rfl⟩
theorem Sr_S {P : Nat → Prop} (hS : Sm P σ τ) (hP : ∀ a, P a → t ≤ a ∧ a < t + 17) : Sr t σ τ := Sr_Sm Sr_refl hS hP
theorem TwS_r {u : Nat} (h : TwS u σ) (hS : Sr t σ τ) : TwS u τ := by
  simp only [TwS, hS.1, hS.2.1]
  exact h
theorem TwF_r {u : Nat} (h : TwF u σ) (hS : Sr t σ τ) (hu : u = t ∨ t + 17 ≤ u ∨ u + 17 ≤ t) : TwF u τ := by
  simp only [TwF, hS.2.2.1 u (by omega), hS.2.2.1 (u + 8) (by omega), hS.2.2.1 (u + 11) (by omega), hS.2.2.1 (u + 14) (by omega)]
  exact h
/-- pairs become like others -/
def PrR (p c : Nat) (σ : gS) : Prop := gK σ p = 6 ∧ gR σ p 0 = some (p + 1) ∧ gR σ p 1 = some (p + 2) ∧ gK σ (p + 1) = 21 ∧ gK σ (p + 2) = 21 ∧ gN σ (p + 1) = c ∧ gN σ (p + 2) = c
theorem PrR_S {P : Nat → Prop} {p c : Nat} (h : PrR p c σ) (hS : Sm P σ τ) : PrR p c τ := by
  simp only [PrR, hS.1, hS.2.1, hS.2.2.1]
  exact h
theorem s_keepP {p c i : Nat} {x y : Int32} (h : PrR p c σ) (hi : gI σ p 2 = nI i) (hic : i < c) (hc : c ≤ 8) : wc (d + 1) 38 [.ref p, .int x, .int y] σ Q ↔ Q none (sI (sI (sI σ (p + 1) i x) (p + 2) i y) p 2 (nI (i + 1))) := by
  obtain ⟨k0, r0, r1, k1, k2, n1, n2⟩ := h
  have z : ¬ c ≤ i := by omega
  simp (disch := first | omega | (simp only [n_K_I]; omega)) only [c_38, e_38_0, e_38_1, e_38_4, e_38_5, e_38_8, e_38_9, e_38_12, e_38_13, e_38_16, e_38_17, e_38_20, e_38_21, e_38_24, e_38_25, e_38_28, e_38_29, e_38_32, e_38_33, e_38_34, e_38_35, e_38_38, e_38_39, e_38_42, e_38_43, e_38_44, e_38_45, e_38_45n, e_38_46, e_38_49, e_38_50, e_38_51, e_38_54, n10, n01, Nat.lt_irrefl, Nat.not_lt_zero, ne_eq, Nat.add_zero, Nat.one_ne_zero, Nat.zero_ne_one, Nat.reduceEqDiff, bI_T, bI_F, bI_0, bI_1, bI_01, not_and_self, true_and, and_true, not_true_eq_false, not_false_eq_true, false_imp_iff, true_imp_iff, imp_self, gPv_n, gPv_i, gPv_r, gPv_0, Option.toList_some, Option.toList_none, List.singleton_append, List.cons_append, List.nil_append, List.length_nil, List.length_cons, Nat.zero_le, Nat.reduceAdd, Nat.reduceLeDiff, or_true, true_or, false_or, or_false, and_self, and_false, false_and, implies_true, Option.some.injEq, exists_eq_left', nL, nI_add, nI_mul, nI_clamp, nI_ltI, nI_leI, nI_eq, nI_pos, nI_pos', Nat.reduceAdd, Nat.reduceMul, Nat.reducePow, n_K_I, n_K_J, n_K_R, n_K_r, n_N_I, n_N_J, n_N_R, n_N_r, n_R_I, n_R_J, n_R_r, n_J_I, n_J_R, n_J_r, n_I_J, n_I_R, n_n_I, n_n_J, n_n_R, n_n_r, n_w_I, n_w_J, n_w_R, n_w_r, n_T_I, n_T_J, n_T_R, n_T_r, rI_ne, rI_nk, rI_eq, rr_ne, rr_eq, n_J_J, n_R_R, Nat.add_left_cancel_iff, Nat.add_right_cancel_iff, Nat.add_eq_left, Nat.left_eq_add, Nat.reduceEqDiff, Nat.reduceAdd, Nat.zero_ne_one, Nat.one_ne_zero, false_and, and_false, true_and, and_true, and_self, if_false, if_true, ↓reduceIte, k0, r0, r1, k1, k2, n1, n2, hi, nI_of_len, z, hic]
theorem s_pb1 {p q c s : Nat} (hp : PrR p c σ) (hq : PrR q c σ) (hc : c ≤ 8) (hsz : gI σ q 2 = nI s) (hs : s ≤ c) (hd : p + 3 ≤ q ∨ q + 3 ≤ p) (K : ∀ τ', Sm (fun a => p ≤ a ∧ a < p + 3) σ τ' → gI τ' p 2 = nI s → (∀ k, k < s → gI τ' (p + 1) k = gI σ (q + 1) k ∧ gI τ' (p + 2) k = gI σ (q + 2) k) → Q none τ') : ∀ m i τ, i + m = s → Sm (fun a => p ≤ a ∧ a < p + 3) σ τ → gI τ p 2 = nI i → (∀ k, k < i → gI τ (p + 1) k = gI σ (q + 1) k ∧ gI τ (p + 2) k = gI σ (q + 2) k) → wp (d + 1) pr_39 Q 7 [some (.ref p), some (.ref q), some (.int (nI i))] [] τ := by
  intro m
  induction m with
  | zero =>
    intro i τ hi hS h2 hR
    obtain ⟨k0, r0, r1, k1, k2, n1, n2⟩ := PrR_S hq hS
    have eq : gI τ q 2 = nI s := by rw [hS.2.2.2.2.2.2.1 _ (by omega)]; exact hsz
    have e : i = s := by omega
    subst e
    simp (disch := omega) only [e_39_7, e_39_8, e_39_8n, e_39_9, e_39_12, e_39_55, n10, n01, Nat.lt_irrefl, Nat.not_lt_zero, ne_eq, Nat.add_zero, Nat.one_ne_zero, Nat.zero_ne_one, Nat.reduceEqDiff, bI_T, bI_F, bI_0, bI_1, bI_01, not_and_self, true_and, and_true, not_true_eq_false, not_false_eq_true, false_imp_iff, true_imp_iff, imp_self, gPv_n, gPv_i, gPv_r, gPv_0, Option.toList_some, Option.toList_none, List.singleton_append, List.cons_append, List.nil_append, List.length_nil, List.length_cons, Nat.zero_le, Nat.reduceAdd, Nat.reduceLeDiff, or_true, true_or, false_or, or_false, and_self, and_false, false_and, implies_true, Option.some.injEq, exists_eq_left', nL, nI_add, nI_mul, nI_clamp, nI_ltI, nI_leI, nI_eq, nI_pos, nI_pos', Nat.reduceAdd, Nat.reduceMul, Nat.reducePow, k0, eq, Nat.le_refl]
    exact K τ hS h2 hR
  | succ m ih =>
    intro i τ hi hS h2 hR
    have hpT := PrR_S hp hS
    obtain ⟨k0, r0, r1, k1, k2, n1, n2⟩ := PrR_S hq hS
    obtain ⟨kp0, _⟩ := id hpT
    have eq : gI τ q 2 = nI s := by rw [hS.2.2.2.2.2.2.1 _ (by omega)]; exact hsz
    have e1 : gI τ (q + 1) = gI σ (q + 1) := hS.2.2.2.2.2.2.1 _ (by omega)
    have e2 : gI τ (q + 2) = gI σ (q + 2) := hS.2.2.2.2.2.2.1 _ (by omega)
    have z : ¬ s ≤ i := by omega
    have z2 : ¬ c ≤ i := by omega
    have z3 : i < c := by omega
    rw [e_39_7]
    simp (disch := omega) only [e_39_8, e_39_8n, e_39_9, e_39_12, e_39_15, e_39_16, e_39_16n, e_39_17, e_39_20, e_39_21, e_39_24, e_39_25, e_39_25n, e_39_26, e_39_29, e_39_30, e_39_33, e_39_34, e_39_34n, e_39_35, e_39_38, e_39_39, e_39_40, e_39_40n, e_39_41, e_39_44, e_39_45, e_39_46, e_39_49, e_39_52, n10, n01, Nat.lt_irrefl, Nat.not_lt_zero, ne_eq, Nat.add_zero, Nat.one_ne_zero, Nat.zero_ne_one, Nat.reduceEqDiff, bI_T, bI_F, bI_0, bI_1, bI_01, not_and_self, true_and, and_true, not_true_eq_false, not_false_eq_true, false_imp_iff, true_imp_iff, imp_self, gPv_n, gPv_i, gPv_r, gPv_0, Option.toList_some, Option.toList_none, List.singleton_append, List.cons_append, List.nil_append, List.length_nil, List.length_cons, Nat.zero_le, Nat.reduceAdd, Nat.reduceLeDiff, or_true, true_or, false_or, or_false, and_self, and_false, false_and, implies_true, Option.some.injEq, exists_eq_left', nL, nI_add, nI_mul, nI_clamp, nI_ltI, nI_leI, nI_eq, nI_pos, nI_pos', Nat.reduceAdd, Nat.reduceMul, Nat.reducePow, k0, r0, r1, k1, k2, n1, n2, kp0, eq, e1, e2, nI_of_len, z, z2, z3, s_keepP hpT h2 z3 hc]
    refine ih (i + 1) _ (by omega) (Sm_I (Sm_I (Sm_I hS ⟨by omega, by omega⟩) ⟨by omega, by omega⟩) ⟨by omega, by omega⟩) (by rw [rI_eq]) ?_
    intro k hk
    by_cases g : k = i
    · rw [g]
      simp (disch := omega) only [rI_ne, rI_eq, and_self]
    · simp (disch := omega) only [rI_ne, rI_nk]
      exact hR k (by omega)
theorem s_pbl {p q c s : Nat} (hp : PrR p c σ) (hq : PrR q c σ) (hc : c ≤ 8) (hsz : gI σ q 2 = nI s) (hs : s ≤ c) (hd : p + 3 ≤ q ∨ q + 3 ≤ p) (K : ∀ τ', Sm (fun a => p ≤ a ∧ a < p + 3) σ τ' → gI τ' p 2 = nI s → (∀ k, k < s → gI τ' (p + 1) k = gI σ (q + 1) k ∧ gI τ' (p + 2) k = gI σ (q + 2) k) → Q none τ') : wc (d + 2) 39 [.ref p, .ref q] σ Q := by
  obtain ⟨kp0, _⟩ := id hp
  have hS0 : Sm (fun a => p ≤ a ∧ a < p + 3) σ (sI σ p 2 (nI 0)) := Sm_I (Sm_refl _ _) ⟨by omega, by omega⟩
  simp (disch := omega) only [c_39, e_39_0, e_39_1, e_39_2, e_39_5, e_39_6, n10, n01, Nat.lt_irrefl, Nat.not_lt_zero, ne_eq, Nat.add_zero, Nat.one_ne_zero, Nat.zero_ne_one, Nat.reduceEqDiff, bI_T, bI_F, bI_0, bI_1, bI_01, not_and_self, true_and, and_true, not_true_eq_false, not_false_eq_true, false_imp_iff, true_imp_iff, imp_self, gPv_n, gPv_i, gPv_r, gPv_0, Option.toList_some, Option.toList_none, List.singleton_append, List.cons_append, List.nil_append, List.length_nil, List.length_cons, Nat.zero_le, Nat.reduceAdd, Nat.reduceLeDiff, or_true, true_or, false_or, or_false, and_self, and_false, false_and, implies_true, Option.some.injEq, exists_eq_left', nL, kp0]
  refine s_pb1 (PrR_S hp hS0) (PrR_S hq hS0) hc (by rw [rI_ne (by omega)]; exact hsz) hs hd ?_ s 0 _ (by omega) (Sm_refl _ _) (by rw [rI_eq]) (fun k hk => absurd hk (by omega))
  intro τ' hS h2 hR
  refine K τ' (Sm_trans hS0 hS) h2 (fun k hk => ?_)
  have := hR k hk
  rw [rI_ne (by omega), rI_ne (by omega)] at this
  exact this
/-- all laws -/
theorem s_bl2 {x : Int32} (ht : TwS t σ) (hft : TwF t σ) (hm : TwS m σ) (hfm : TwF m σ) (hd : t + 17 ≤ m ∨ m + 17 ≤ t) (hlaw : ∀ i p, i < 6 → gR σ (m + 7) i = some p → gK σ p = 4) (K : ∀ τ' x2, Sr t σ τ' → (∀ a, gI τ' a = gI σ a) → (∀ i, i < 6 → gR τ' (t + 7) i = gR σ (m + 7) i) → wp d pr_112 Q 116 [some (.ref t), some (.ref m), x2] [] τ') : ∀ n i τ, i + n = 6 → Sr t σ τ → (∀ a, gI τ a = gI σ a) → (∀ j, j < i → gR τ (t + 7) j = gR σ (m + 7) j) → wp d pr_112 Q 92 [some (.ref t), some (.ref m), some (.int (nI i))] [] τ := by
  intro n
  induction n with
  | zero =>
    intro i τ hi hS hI hR
    have e : i = 6 := by omega
    subst e
    simp (disch := omega) only [e_112_92, e_112_93, e_112_95, n10, n01, Nat.lt_irrefl, Nat.not_lt_zero, ne_eq, Nat.add_zero, Nat.one_ne_zero, Nat.zero_ne_one, Nat.reduceEqDiff, bI_T, bI_F, bI_0, bI_1, bI_01, not_and_self, true_and, and_true, not_true_eq_false, not_false_eq_true, false_imp_iff, true_imp_iff, imp_self, gPv_n, gPv_i, gPv_r, gPv_0, Option.toList_some, Option.toList_none, List.singleton_append, List.cons_append, List.nil_append, List.length_nil, List.length_cons, Nat.zero_le, Nat.reduceAdd, Nat.reduceLeDiff, or_true, true_or, false_or, or_false, and_self, and_false, false_and, implies_true, Option.some.injEq, exists_eq_left', nL, nI_add, nI_mul, nI_clamp, nI_ltI, nI_leI, nI_eq, nI_pos, nI_pos', Nat.reduceAdd, Nat.reduceMul, Nat.reducePow, Nat.le_refl]
    exact K τ _ hS hI hR
  | succ n ih =>
    intro i τ hi hS hI hR
    have htT := TwS_r ht hS
    have hmT := TwS_r hm hS
    have ftT := TwF_r hft hS (Or.inl rfl)
    have fmT := TwF_r hfm hS (by omega)
    have z : ¬ 6 ≤ i := by omega
    have z1 : i < 6 := by omega
    have r1 := ftT.2.2.2.2.2.2.1
    have r2 := fmT.2.2.2.2.2.2.1
    have em : gR τ (m + 7) = gR σ (m + 7) := hS.2.2.1 _ (by omega)
    rw [e_112_92]
    cases q : gR σ (m + 7) i with
    | some p =>
      have kp : gK τ p = 4 := by rw [hS.1]; exact hlaw i p z1 q
      have q' : gR τ (m + 7) i = some p := by rw [em]; exact q
      simp (disch := omega) only [e_112_93, e_112_95, e_112_98, e_112_99, e_112_102, e_112_103, e_112_103n, e_112_104, e_112_107, e_112_108, e_112_109, e_112_109n, e_112_110, e_112_113, n10, n01, Nat.lt_irrefl, Nat.not_lt_zero, ne_eq, Nat.add_zero, Nat.one_ne_zero, Nat.zero_ne_one, Nat.reduceEqDiff, bI_T, bI_F, bI_0, bI_1, bI_01, not_and_self, true_and, and_true, not_true_eq_false, not_false_eq_true, false_imp_iff, true_imp_iff, imp_self, gPv_n, gPv_i, gPv_r, gPv_0, Option.toList_some, Option.toList_none, List.singleton_append, List.cons_append, List.nil_append, List.length_nil, List.length_cons, Nat.zero_le, Nat.reduceAdd, Nat.reduceLeDiff, or_true, true_or, false_or, or_false, and_self, and_false, false_and, implies_true, Option.some.injEq, exists_eq_left', nL, nI_add, nI_mul, nI_clamp, nI_ltI, nI_leI, nI_eq, nI_pos, nI_pos', Nat.reduceAdd, Nat.reduceMul, Nat.reducePow, twk_0 htT, twk_0 hmT, twk_7 htT, twk_7 hmT, twn_7 htT, twn_7 hmT, r1, r2, q', kp, z, z1, Option.some.injEq, forall_eq', reduceCtorEq]
      refine ih (i + 1) _ (by omega) (Sr_R hS) (fun a => by funext j; simp only [n_I_R]; rw [hI a]) ?_
      intro j hj
      by_cases g : j = i
      · rw [g, n_R_R, if_pos ⟨rfl, rfl⟩, q]
      · rw [n_R_R, if_neg (fun z => g z.2)]
        exact hR j (by omega)
    | none =>
      have q' : gR τ (m + 7) i = none := by rw [em]; exact q
      simp (disch := omega) only [e_112_93, e_112_95, e_112_98, e_112_99, e_112_102, e_112_103, e_112_103n, e_112_104, e_112_107, e_112_108, e_112_109, e_112_109n, e_112_110, e_112_113, n10, n01, Nat.lt_irrefl, Nat.not_lt_zero, ne_eq, Nat.add_zero, Nat.one_ne_zero, Nat.zero_ne_one, Nat.reduceEqDiff, bI_T, bI_F, bI_0, bI_1, bI_01, not_and_self, true_and, and_true, not_true_eq_false, not_false_eq_true, false_imp_iff, true_imp_iff, imp_self, gPv_n, gPv_i, gPv_r, gPv_0, Option.toList_some, Option.toList_none, List.singleton_append, List.cons_append, List.nil_append, List.length_nil, List.length_cons, Nat.zero_le, Nat.reduceAdd, Nat.reduceLeDiff, or_true, true_or, false_or, or_false, and_self, and_false, false_and, implies_true, Option.some.injEq, exists_eq_left', nL, nI_add, nI_mul, nI_clamp, nI_ltI, nI_leI, nI_eq, nI_pos, nI_pos', Nat.reduceAdd, Nat.reduceMul, Nat.reducePow, twk_0 htT, twk_0 hmT, twk_7 htT, twk_7 hmT, twn_7 htT, twn_7 hmT, r1, r2, q', z, z1, reduceCtorEq, forall_const, forall_false]
      refine ih (i + 1) _ (by omega) (Sr_R hS) (fun a => by funext j; simp only [n_I_R]; rw [hI a]) ?_
      intro j hj
      by_cases g : j = i
      · rw [g, n_R_R, if_pos ⟨rfl, rfl⟩, q]
      · rw [n_R_R, if_neg (fun z => g z.2)]
        exact hR j (by omega)
def PrE (t m o s : Nat) (σ τ : gS) : Prop := gI τ (t + o) 2 = nI s ∧ ∀ k, k < s → gI τ (t + o + 1) k = gI σ (m + o + 1) k ∧ gI τ (t + o + 2) k = gI σ (m + o + 2) k
theorem tw_P (h : TwS t σ) (hf : TwF t σ) : PrR (t + 8) 4 σ ∧ PrR (t + 11) 4 σ ∧ PrR (t + 14) 8 σ := by
  obtain ⟨f0, f1, f2, f3, f4, f5, f6, f7, f8, f9, f10, f11, f12, f13, f14, f15⟩ := hf
  exact ⟨⟨twk_8 h, f10, f11, twk_9 h, twk_10 h, twn_9 h, twn_10 h⟩, ⟨twk_11 h, f12, f13, twk_12 h, twk_13 h, twn_12 h, twn_13 h⟩, ⟨twk_14 h, f14, f15, twk_15 h, twk_16 h, twn_15 h, twn_16 h⟩⟩
set_option maxHeartbeats 4000000 in
theorem s_bl {s1 s2 s3 : Nat} (ht : TwS t σ) (hft : TwF t σ) (hm : TwS m σ) (hfm : TwF m σ) (hd : t + 17 ≤ m ∨ m + 17 ≤ t) (z1 : gI σ (m + 8) 2 = nI s1) (l1 : s1 ≤ 4) (z2 : gI σ (m + 11) 2 = nI s2) (l2 : s2 ≤ 4) (z3 : gI σ (m + 14) 2 = nI s3) (l3 : s3 ≤ 8) (hlaw : ∀ i p, i < 6 → gR σ (m + 7) i = some p → gK σ p = 4)
    (K : ∀ τ, Sr t σ τ → (∀ o, 1 ≤ o → o ≤ 6 → ∀ j, j < 12 → gI τ (t + o) j = gI σ (m + o) j) → (∀ j, j = 5 ∨ j = 6 ∨ j = 8 ∨ j = 10 ∨ j = 11 ∨ j = 12 ∨ j = 13 → gI τ t j = gI σ m j) → gI τ t 17 = gI σ t 17 + nI 1 → (∀ i, i < 6 → gR τ (t + 7) i = gR σ (m + 7) i) → PrE t m 8 s1 σ τ → PrE t m 11 s2 σ τ → PrE t m 14 s3 σ τ → Q none τ) : wc (d + 3) 112 [.ref t, .ref m] σ Q := by
  obtain ⟨f0, f1, f2, f3, f4, f5, f6, f7, f8, f9, f10, f11, f12, f13, f14, f15⟩ := id hft
  obtain ⟨g0, g1, g2, g3, g4, g5, g6, g7, g8, g9, g10, g11, g12, g13, g14, g15⟩ := id hfm
  have n12 : (12 : Nat) ≤ 12 := by omega
  simp (disch := omega) only [c_112, e_112_0, e_112_0n, e_112_1, e_112_4, e_112_5, e_112_6, e_112_9, e_112_10, e_112_12, e_112_15, e_112_15n, e_112_16, e_112_19, e_112_20, e_112_21, e_112_24, e_112_25, e_112_27, e_112_30, e_112_30n, e_112_31, e_112_34, e_112_35, e_112_36, e_112_39, e_112_40, e_112_42, e_112_45, e_112_45n, e_112_46, e_112_49, e_112_50, e_112_51, e_112_54, e_112_55, e_112_57, e_112_60, e_112_60n, e_112_61, e_112_64, e_112_65, e_112_66, e_112_69, e_112_70, e_112_72, e_112_75, e_112_75n, e_112_76, e_112_79, e_112_80, e_112_81, e_112_84, e_112_85, e_112_87, e_112_90, e_112_91, n10, n01, Nat.lt_irrefl, Nat.not_lt_zero, ne_eq, Nat.add_zero, Nat.one_ne_zero, Nat.zero_ne_one, Nat.reduceEqDiff, bI_T, bI_F, bI_0, bI_1, bI_01, not_and_self, true_and, and_true, not_true_eq_false, not_false_eq_true, false_imp_iff, true_imp_iff, imp_self, gPv_n, gPv_i, gPv_r, gPv_0, Option.toList_some, Option.toList_none, List.singleton_append, List.cons_append, List.nil_append, List.length_nil, List.length_cons, Nat.zero_le, Nat.reduceAdd, Nat.reduceLeDiff, or_true, true_or, false_or, or_false, and_self, and_false, false_and, implies_true, Option.some.injEq, exists_eq_left', nL, nI_add, nI_mul, nI_clamp, nI_ltI, nI_leI, nI_eq, nI_pos, nI_pos', Nat.reduceAdd, Nat.reduceMul, Nat.reducePow, n_K_I, n_K_J, n_K_R, n_K_r, n_N_I, n_N_J, n_N_R, n_N_r, n_R_I, n_R_J, n_R_r, n_J_I, n_J_R, n_J_r, n_I_J, n_I_R, n_n_I, n_n_J, n_n_R, n_n_r, n_w_I, n_w_J, n_w_R, n_w_r, n_T_I, n_T_J, n_T_R, n_T_r, rI_ne, rI_nk, rI_eq, rr_ne, rr_eq, n_J_J, n_R_R, Nat.add_left_cancel_iff, Nat.add_right_cancel_iff, Nat.add_eq_left, Nat.left_eq_add, Nat.reduceEqDiff, Nat.reduceAdd, Nat.zero_ne_one, Nat.one_ne_zero, false_and, and_false, true_and, and_true, and_self, if_false, if_true, ↓reduceIte, twk_0 ht, twk_1 ht, twk_2 ht, twk_3 ht, twk_4 ht, twk_5 ht, twk_6 ht, twn_1 ht, twn_2 ht, twn_3 ht, twn_4 ht, twn_5 ht, twn_6 ht, twk_0 hm, twk_1 hm, twk_2 hm, twk_3 hm, twk_4 hm, twk_5 hm, twk_6 hm, twn_1 hm, twn_2 hm, twn_3 hm, twn_4 hm, twn_5 hm, twn_6 hm, f0, f1, f2, f3, f4, f5, g0, g1, g2, g3, g4, g5, n12]
  generalize hτ1 : sIr (sIr (sIr (sIr (sIr (sIr σ (t + 1) _) (t + 2) _) (t + 3) _) (t + 4) _) (t + 5) _) (t + 6) _ = τ1
  have S1 : Sm (fun a => t + 1 ≤ a ∧ a ≤ t + 6) σ τ1 := by
    rw [← hτ1]
    exact Sm_r (Sm_r (Sm_r (Sm_r (Sm_r (Sm_r (Sm_refl _ _) ⟨by omega, by omega⟩) ⟨by omega, by omega⟩) ⟨by omega, by omega⟩) ⟨by omega, by omega⟩) ⟨by omega, by omega⟩) ⟨by omega, by omega⟩
  have rw1 : ∀ o, 1 ≤ o → o ≤ 6 → ∀ j, j < 12 → gI τ1 (t + o) j = gI σ (m + o) j := by
    intro o h1 h2 j hj
    have z : 0 ≤ j ∧ j < 0 + 12 := by omega
    have ho : o = 1 ∨ o = 2 ∨ o = 3 ∨ o = 4 ∨ o = 5 ∨ o = 6 := by omega
    rw [← hτ1]
    rcases ho with rfl | rfl | rfl | rfl | rfl | rfl <;> simp (disch := omega) only [rr_ne, rr_eq, va_cpy, if_pos z, Nat.sub_zero, Nat.zero_add]
  have R1 : Sr t σ τ1 := Sr_S S1 (fun a ha => by omega)
  have ht1 := TwS_r ht R1
  have hm1 := TwS_r hm R1
  have ft1 := TwF_r hft R1 (Or.inl rfl)
  have fm1 := TwF_r hfm R1 (by omega)
  refine s_bl2 (x := 0) (m := m) ht1 ft1 hm1 fm1 hd (fun i p hi hp => by rw [R1.1]; exact hlaw i p hi (by rw [← R1.2.2.1 _ (show m + 7 ≠ t + 7 by omega)]; exact hp)) ?_ 6 0 τ1 (by omega) Sr_refl (fun _ => rfl) (fun j hj => absurd hj (by omega))
  intro τ2 x2 R2 I2 L2
  have R02 : Sr t σ τ2 := by
    obtain ⟨a1, a2, a3, a4, a5, a6, a7, a8⟩ := R1
    obtain ⟨b1, b2, b3, b4, b5, b6, b7, b8⟩ := R2
    exact ⟨b1.trans a1, b2.trans a2, fun a ha => (b3 a ha).trans (a3 a ha), b4.trans a4, b5.trans a5, b6.trans a6, fun a ha => (b7 a ha).trans (a7 a ha), fun a ha => (b8 a ha).trans (a8 a ha)⟩
  have ht2 := TwS_r ht R02
  have hm2 := TwS_r hm R02
  have ft2 := TwF_r hft R02 (Or.inl rfl)
  have fm2 := TwF_r hfm R02 (by omega)
  obtain ⟨f0, f1, f2, f3, f4, f5, f6, f7, f8, f9, f10, f11, f12, f13, f14, f15⟩ := id ft2
  obtain ⟨g0, g1, g2, g3, g4, g5, g6, g7, g8, g9, g10, g11, g12, g13, g14, g15⟩ := id fm2
  have mt : m ≠ t := by omega
  have em2 : gI τ2 m = gI σ m := R02.2.2.2.2.2.2.1 _ (by omega)
  simp (disch := omega) only [e_112_116, e_112_117, e_112_117n, e_112_118, e_112_121, e_112_124, e_112_125, e_112_125n, e_112_126, e_112_129, e_112_132, e_112_133, e_112_133n, e_112_134, e_112_137, e_112_140, e_112_141, e_112_141n, e_112_142, e_112_145, e_112_148, e_112_149, e_112_149n, e_112_150, e_112_153, e_112_156, e_112_157, e_112_157n, e_112_158, e_112_161, e_112_164, e_112_165, e_112_165n, e_112_166, e_112_169, e_112_172, e_112_173, e_112_176, e_112_176n, e_112_177, e_112_180, n10, n01, Nat.lt_irrefl, Nat.not_lt_zero, ne_eq, Nat.add_zero, Nat.one_ne_zero, Nat.zero_ne_one, Nat.reduceEqDiff, bI_T, bI_F, bI_0, bI_1, bI_01, not_and_self, true_and, and_true, not_true_eq_false, not_false_eq_true, false_imp_iff, true_imp_iff, imp_self, gPv_n, gPv_i, gPv_r, gPv_0, Option.toList_some, Option.toList_none, List.singleton_append, List.cons_append, List.nil_append, List.length_nil, List.length_cons, Nat.zero_le, Nat.reduceAdd, Nat.reduceLeDiff, or_true, true_or, false_or, or_false, and_self, and_false, false_and, implies_true, Option.some.injEq, exists_eq_left', nL, n_K_I, n_K_J, n_K_R, n_K_r, n_N_I, n_N_J, n_N_R, n_N_r, n_R_I, n_R_J, n_R_r, n_J_I, n_J_R, n_J_r, n_I_J, n_I_R, n_n_I, n_n_J, n_n_R, n_n_r, n_w_I, n_w_J, n_w_R, n_w_r, n_T_I, n_T_J, n_T_R, n_T_r, rI_ne, rI_nk, rI_eq, rr_ne, rr_eq, n_J_J, n_R_R, Nat.add_left_cancel_iff, Nat.add_right_cancel_iff, Nat.add_eq_left, Nat.left_eq_add, Nat.reduceEqDiff, Nat.reduceAdd, Nat.zero_ne_one, Nat.one_ne_zero, false_and, and_false, true_and, and_true, and_self, if_false, if_true, ↓reduceIte, twk_0 ht2, twk_0 hm2, twk_8 ht2, f7, g7, em2]
  generalize hτ3 : sI (sI (sI (sI (sI (sI (sI τ2 t 5 _) t 6 _) t 8 _) t 10 _) t 11 _) t 12 _) t 13 _ = τ3
  have S3 : Sm (fun a => a = t) τ2 τ3 := by
    rw [← hτ3]
    exact Sm_I (Sm_I (Sm_I (Sm_I (Sm_I (Sm_I (Sm_I (Sm_refl _ _) rfl) rfl) rfl) rfl) rfl) rfl) rfl
  have fd3 : ∀ j, j = 5 ∨ j = 6 ∨ j = 8 ∨ j = 10 ∨ j = 11 ∨ j = 12 ∨ j = 13 → gI τ3 t j = gI σ m j := by
    intro j hj
    rw [← hτ3]
    rcases hj with rfl | rfl | rfl | rfl | rfl | rfl | rfl <;> simp (disch := omega) only [rI_nk, rI_eq]
  have f173 : gI τ3 t 17 = gI σ t 17 := by
    rw [← hτ3]
    simp (disch := omega) only [rI_nk]
    rw [I2 t, S1.2.2.2.2.2.2.1 _ (by omega)]
  have R3 : Sr t σ τ3 := Sr_Sm R02 S3 (fun a ha => by omega)
  have ht3 := TwS_r ht R3
  have hm3 := TwS_r hm R3
  have ft3 := TwF_r hft R3 (Or.inl rfl)
  have fm3 := TwF_r hfm R3 (by omega)
  obtain ⟨p8, p11, p14⟩ := tw_P ht3 ft3
  obtain ⟨q8, q11, q14⟩ := tw_P hm3 fm3
  have mI3 : ∀ a, m ≤ a → a < m + 17 → gI τ3 a = gI σ a := fun a h1 h2 => R3.2.2.2.2.2.2.1 _ (by omega)
  refine s_pbl (d := d) p8 q8 (by omega) (by rw [mI3 _ (by omega) (by omega)]; exact z1) l1 (by omega) ?_
  intro τ4 S4 y4 k4
  have R4 : Sr t σ τ4 := Sr_Sm R3 S4 (fun a ha => by omega)
  have ht4 := TwS_r ht R4
  have hm4 := TwS_r hm R4
  have ft4 := TwF_r hft R4 (Or.inl rfl)
  have fm4 := TwF_r hfm R4 (by omega)
  obtain ⟨p8, p11, p14⟩ := tw_P ht4 ft4
  obtain ⟨q8, q11, q14⟩ := tw_P hm4 fm4
  have mI4 : ∀ a, m ≤ a → a < m + 17 → gI τ4 a = gI σ a := fun a h1 h2 => R4.2.2.2.2.2.2.1 _ (by omega)
  have f15t := ft4.2.2.2.2.2.2.2.2.1
  have f15m := fm4.2.2.2.2.2.2.2.2.1
  simp (disch := omega) only [e_112_183, e_112_184, e_112_187, e_112_187n, e_112_188, e_112_191, n10, n01, Nat.lt_irrefl, Nat.not_lt_zero, ne_eq, Nat.add_zero, Nat.one_ne_zero, Nat.zero_ne_one, Nat.reduceEqDiff, bI_T, bI_F, bI_0, bI_1, bI_01, not_and_self, true_and, and_true, not_true_eq_false, not_false_eq_true, false_imp_iff, true_imp_iff, imp_self, gPv_n, gPv_i, gPv_r, gPv_0, Option.toList_some, Option.toList_none, List.singleton_append, List.cons_append, List.nil_append, List.length_nil, List.length_cons, Nat.zero_le, Nat.reduceAdd, Nat.reduceLeDiff, or_true, true_or, false_or, or_false, and_self, and_false, false_and, implies_true, Option.some.injEq, exists_eq_left', nL, twk_0 ht4, twk_0 hm4, twk_11 ht4, f15t, f15m]
  refine s_pbl (d := d) p11 q11 (by omega) (by rw [mI4 _ (by omega) (by omega)]; exact z2) l2 (by omega) ?_
  intro τ5 S5 y5 k5
  have R5 : Sr t σ τ5 := Sr_Sm R4 S5 (fun a ha => by omega)
  have ht5 := TwS_r ht R5
  have hm5 := TwS_r hm R5
  have ft5 := TwF_r hft R5 (Or.inl rfl)
  have fm5 := TwF_r hfm R5 (by omega)
  obtain ⟨p8, p11, p14⟩ := tw_P ht5 ft5
  obtain ⟨q8, q11, q14⟩ := tw_P hm5 fm5
  have mI5 : ∀ a, m ≤ a → a < m + 17 → gI τ5 a = gI σ a := fun a h1 h2 => R5.2.2.2.2.2.2.1 _ (by omega)
  have f16t := ft5.2.2.2.2.2.2.2.2.2.1
  have f16m := fm5.2.2.2.2.2.2.2.2.2.1
  simp (disch := omega) only [e_112_194, e_112_195, e_112_198, e_112_198n, e_112_199, e_112_202, n10, n01, Nat.lt_irrefl, Nat.not_lt_zero, ne_eq, Nat.add_zero, Nat.one_ne_zero, Nat.zero_ne_one, Nat.reduceEqDiff, bI_T, bI_F, bI_0, bI_1, bI_01, not_and_self, true_and, and_true, not_true_eq_false, not_false_eq_true, false_imp_iff, true_imp_iff, imp_self, gPv_n, gPv_i, gPv_r, gPv_0, Option.toList_some, Option.toList_none, List.singleton_append, List.cons_append, List.nil_append, List.length_nil, List.length_cons, Nat.zero_le, Nat.reduceAdd, Nat.reduceLeDiff, or_true, true_or, false_or, or_false, and_self, and_false, false_and, implies_true, Option.some.injEq, exists_eq_left', nL, twk_0 ht5, twk_0 hm5, twk_14 ht5, f16t, f16m]
  refine s_pbl (d := d) p14 q14 (by omega) (by rw [mI5 _ (by omega) (by omega)]; exact z3) l3 (by omega) ?_
  intro τ6 S6 y6 k6
  have R6 : Sr t σ τ6 := Sr_Sm R5 S6 (fun a ha => by omega)
  have ht6 := TwS_r ht R6
  have e6 : ∀ a, t ≤ a → a < t + 8 → gI τ6 a = gI τ3 a := fun a h1 h2 => by
    rw [S6.2.2.2.2.2.2.1 _ (by omega), S5.2.2.2.2.2.2.1 _ (by omega), S4.2.2.2.2.2.2.1 _ (by omega)]
  have e17 : gI τ6 t 17 = gI σ t 17 := by rw [e6 t (by omega) (by omega)]; exact f173
  simp (disch := omega) only [e_112_205, e_112_206, e_112_206n, e_112_207, e_112_210, e_112_211, e_112_212, e_112_215, n10, n01, Nat.lt_irrefl, Nat.not_lt_zero, ne_eq, Nat.add_zero, Nat.one_ne_zero, Nat.zero_ne_one, Nat.reduceEqDiff, bI_T, bI_F, bI_0, bI_1, bI_01, not_and_self, true_and, and_true, not_true_eq_false, not_false_eq_true, false_imp_iff, true_imp_iff, imp_self, gPv_n, gPv_i, gPv_r, gPv_0, Option.toList_some, Option.toList_none, List.singleton_append, List.cons_append, List.nil_append, List.length_nil, List.length_cons, Nat.zero_le, Nat.reduceAdd, Nat.reduceLeDiff, or_true, true_or, false_or, or_false, and_self, and_false, false_and, implies_true, Option.some.injEq, exists_eq_left', nL, twk_0 ht6, e17]
  refine K _ (Sr_Sm R6 (Sm_I (Sm_refl (fun a => a = t) _) rfl) (fun a ha => by omega)) ?_ ?_ (by rw [rI_eq]) ?_ ?_ ?_ ?_
  · intro o h1 h2 j hj
    rw [rI_ne (by omega), e6 _ (by omega) (by omega), S3.2.2.2.2.2.2.1 _ (by omega), I2]
    exact rw1 o h1 h2 j hj
  · intro j hj
    rw [rI_nk (by omega), e6 t (by omega) (by omega)]
    exact fd3 j hj
  · intro i hi
    simp only [n_R_I]
    rw [S6.2.2.1, S5.2.2.1, S4.2.2.1, S3.2.2.1, L2 i hi, R1.2.2.1 _ (by omega)]
  · refine ⟨?_, fun k hk => ?_⟩
    · rw [rI_ne (by omega), S6.2.2.2.2.2.2.1 _ (by omega), S5.2.2.2.2.2.2.1 _ (by omega)]
      exact y4
    · have := k4 k hk
      rw [mI3 _ (by omega) (by omega), mI3 _ (by omega) (by omega)] at this
      rw [rI_ne (by omega), rI_ne (by omega), S6.2.2.2.2.2.2.1 _ (by omega), S6.2.2.2.2.2.2.1 _ (by omega), S5.2.2.2.2.2.2.1 _ (by omega), S5.2.2.2.2.2.2.1 _ (by omega)]
      exact this
  · refine ⟨?_, fun k hk => ?_⟩
    · rw [rI_ne (by omega), S6.2.2.2.2.2.2.1 _ (by omega)]
      exact y5
    · have := k5 k hk
      rw [mI4 _ (by omega) (by omega), mI4 _ (by omega) (by omega)] at this
      rw [rI_ne (by omega), rI_ne (by omega), S6.2.2.2.2.2.2.1 _ (by omega), S6.2.2.2.2.2.2.1 _ (by omega)]
      exact this
  · refine ⟨?_, fun k hk => ?_⟩
    · rw [rI_ne (by omega)]
      exact y6
    · have := k6 k hk
      rw [mI5 _ (by omega) (by omega), mI5 _ (by omega) (by omega)] at this
      rw [rI_ne (by omega), rI_ne (by omega)]
      exact this
end
