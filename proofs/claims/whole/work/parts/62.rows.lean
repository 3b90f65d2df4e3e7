/-! who can visit whom: the class's rows -/
theorem up_up {W : Nat → Int32} {a : Nat} {u v : Int32} : up (up W a u) a v = up W a v := by
  funext j
  by_cases h : j = a
  · subst h; rw [up_eq, up_eq]
  · rw [up_ne h, up_ne h, up_ne h]
section
variable {B : Nat} {own : Nat → Nat} {σ : gS} {A : Nat → Int32} {d : Nat} {Q : Option Value → gS → Prop}
theorem Ctx_R {r : Nat} {τ : gS} (h : Ctx B own σ A) (hr : r = B + 29 ∨ r = B + 51) (hS : Sm (fun a => Rk B a ∨ a = r) σ τ) : Ctx B own τ A := Ctx_S h (Sm_mono hS (fun a ha => by rcases ha with ha | ha <;> constructor <;> omega))
theorem s_fo1 {r a : Nat} {dy : Int32} (h : Ctx B own σ A) (hr : r = B + 29 ∨ r = B + 51) (ha : a < 12) : ∀ m b τ (W : Nat → Int32), b + m = hn A → Sm (fun a => Rk B a ∨ a = r) σ τ → gI τ r = up W a (nI (mkN (opB A dy a) b)) →
    (∀ τ' x4, Sm (fun a => Rk B a ∨ a = r) σ τ' → gI τ' r = up W a (nI (opn A dy a)) → wp (d + 5) pr_88 Q 54 [some (.ref (B + 25)), some (.ref r), some (.int dy), some (.int (nI a)), x4] [] τ') →
    wp (d + 5) pr_88 Q 15 [some (.ref (B + 25)), some (.ref r), some (.int dy), some (.int (nI a)), some (.int (nI b))] [] τ := by
  have w1 : Wh A := h.2.1.1.1
  have h12 := hn_le w1
  have hn2 := hn_eq w1
  intro m
  induction m with
  | zero =>
    intro b τ W hb hS hW K
    have hc := Ctx_R h hr hS
    have hv := hc.1
    have e5 : gI τ (B + 1) 5 = A 250 := hc.2.1.2.1.1.1
    have z : hn A ≤ b := by omega
    have eb : b = hn A := by omega
    simp (disch := omega) only [e_88_15, e_88_17, e_88_18, e_88_21, e_88_24, n10, n01, Nat.lt_irrefl, Nat.not_lt_zero, ne_eq, Nat.add_zero, Nat.one_ne_zero, Nat.zero_ne_one, Nat.reduceEqDiff, bI_T, bI_F, bI_0, bI_1, bI_01, not_and_self, true_and, and_true, not_true_eq_false, not_false_eq_true, false_imp_iff, true_imp_iff, imp_self, gPv_n, gPv_i, gPv_r, gPv_0, Option.toList_some, Option.toList_none, List.singleton_append, List.cons_append, List.nil_append, List.length_nil, List.length_cons, Nat.zero_le, Nat.reduceAdd, Nat.reduceLeDiff, or_true, true_or, false_or, or_false, and_self, and_false, false_and, implies_true, Option.some.injEq, exists_eq_left', nL, nI_add, nI_mul, nI_clamp, nI_ltI, nI_leI, nI_eq, nI_pos, nI_pos', Nat.reduceAdd, Nat.reduceMul, Nat.reducePow, sk_1 hv, sr_1_0 hv, sr_1_1 hv, sr_1_2 hv, sr_1_3 hv, sr_1_4 hv, sr_1_7 hv, sr_1_9 hv, sr_1_14 hv, sr_1_15 hv, sr_1_16 hv, sk_25 hv, sr_25_0 hv, sr_25_1 hv, sr_25_2 hv, sr_25_3 hv, sr_25_4 hv, sr_25_5 hv, e5, hn2, z]
    exact K τ _ hS (by rw [hW, eb]; rfl)
  | succ m ih =>
    intro b τ W hb hS hW K
    have hc := Ctx_R h hr hS
    have hv := hc.1
    have e5 : gI τ (B + 1) 5 = A 250 := hc.2.1.2.1.1.1
    have z : ¬ hn A ≤ b := by omega
    rw [e_88_15]
    simp (disch := omega) only [e_88_17, e_88_18, e_88_21, e_88_24, e_88_27, e_88_28, e_88_29, e_88_31, e_88_32, n10, n01, Nat.lt_irrefl, Nat.not_lt_zero, ne_eq, Nat.add_zero, Nat.one_ne_zero, Nat.zero_ne_one, Nat.reduceEqDiff, bI_T, bI_F, bI_0, bI_1, bI_01, not_and_self, true_and, and_true, not_true_eq_false, not_false_eq_true, false_imp_iff, true_imp_iff, imp_self, gPv_n, gPv_i, gPv_r, gPv_0, Option.toList_some, Option.toList_none, List.singleton_append, List.cons_append, List.nil_append, List.length_nil, List.length_cons, Nat.zero_le, Nat.reduceAdd, Nat.reduceLeDiff, or_true, true_or, false_or, or_false, and_self, and_false, false_and, implies_true, Option.some.injEq, exists_eq_left', nL, nI_add, nI_mul, nI_clamp, nI_ltI, nI_leI, nI_eq, nI_pos, nI_pos', Nat.reduceAdd, Nat.reduceMul, Nat.reducePow, sk_1 hv, sr_1_0 hv, sr_1_1 hv, sr_1_2 hv, sr_1_3 hv, sr_1_4 hv, sr_1_7 hv, sr_1_9 hv, sr_1_14 hv, sr_1_15 hv, sr_1_16 hv, sk_25 hv, sr_25_0 hv, sr_25_1 hv, sr_25_2 hv, sr_25_3 hv, sr_25_4 hv, sr_25_5 hv, e5, hn2, z]
    refine s_isOpen hc ha (by omega) ?_
    intro τ' hS'
    have hS2 : Sm (fun a => Rk B a ∨ a = r) σ τ' := Sm_trans hS (Sm_mono hS' (fun a ha => Or.inl ha))
    have hc2 := Ctx_R h hr hS2
    have hv2 := hc2.1
    have e6 : gI τ' r = gI τ r := hS'.2.2.2.2.2.2.1 r (by omega)
    by_cases o : opB A dy a b = true
    · have hk : gK τ' r = 21 := by rcases hr with rfl | rfl; exact sk_29 hv2; exact sk_51 hv2
      have hn' : gN τ' r = 12 := by rcases hr with rfl | rfl; exact sn_29 hv2; exact sn_51 hv2
      have e7 : gI τ' r a = nI (mkN (opB A dy a) b) := by rw [e6, hW, up_eq]
      have e8 : mkN (opB A dy a) b ||| 2 ^ b = mkN (opB A dy a) (b + 1) := by simp only [mkN, o, if_true]
      simp (disch := omega) only [e_88_35, e_88_38, e_88_38n, e_88_39, e_88_40, e_88_41, e_88_42, e_88_43, e_88_45, e_88_46, e_88_47, e_88_48, e_88_51, n10, n01, Nat.lt_irrefl, Nat.not_lt_zero, ne_eq, Nat.add_zero, Nat.one_ne_zero, Nat.zero_ne_one, Nat.reduceEqDiff, bI_T, bI_F, bI_0, bI_1, bI_01, not_and_self, true_and, and_true, not_true_eq_false, not_false_eq_true, false_imp_iff, true_imp_iff, imp_self, gPv_n, gPv_i, gPv_r, gPv_0, Option.toList_some, Option.toList_none, List.singleton_append, List.cons_append, List.nil_append, List.length_nil, List.length_cons, Nat.zero_le, Nat.reduceAdd, Nat.reduceLeDiff, or_true, true_or, false_or, or_false, and_self, and_false, false_and, implies_true, Option.some.injEq, exists_eq_left', nL, nI_add, nI_mul, nI_clamp, nI_ltI, nI_leI, nI_eq, nI_pos, nI_pos', Nat.reduceAdd, Nat.reduceMul, Nat.reducePow, o, hk, hn', ha, e7, nI_shl, nI_or, Nat.one_mul, e8]
      refine ih (b + 1) _ W (by omega) (Sm_I hS2 (Or.inr rfl)) ?_ K
      rw [rI_up, e6, hW, up_up]
    · have o' : opB A dy a b = false := by simpa using o
      have e8 : mkN (opB A dy a) (b + 1) = mkN (opB A dy a) b := by simp only [mkN, o', Bool.false_eq_true, if_false, Nat.or_zero]
      simp (disch := omega) only [e_88_35, e_88_38, e_88_38n, e_88_39, e_88_40, e_88_41, e_88_42, e_88_43, e_88_45, e_88_46, e_88_47, e_88_48, e_88_51, n10, n01, Nat.lt_irrefl, Nat.not_lt_zero, ne_eq, Nat.add_zero, Nat.one_ne_zero, Nat.zero_ne_one, Nat.reduceEqDiff, bI_T, bI_F, bI_0, bI_1, bI_01, not_and_self, true_and, and_true, not_true_eq_false, not_false_eq_true, false_imp_iff, true_imp_iff, imp_self, gPv_n, gPv_i, gPv_r, gPv_0, Option.toList_some, Option.toList_none, List.singleton_append, List.cons_append, List.nil_append, List.length_nil, List.length_cons, Nat.zero_le, Nat.reduceAdd, Nat.reduceLeDiff, or_true, true_or, false_or, or_false, and_self, and_false, false_and, implies_true, Option.some.injEq, exists_eq_left', nL, nI_add, nI_mul, nI_clamp, nI_ltI, nI_leI, nI_eq, nI_pos, nI_pos', Nat.reduceAdd, Nat.reduceMul, Nat.reducePow, o', Bool.false_eq_true]
      refine ih (b + 1) _ W (by omega) hS2 ?_ K
      rw [e6, hW, e8]
theorem s_fo2 {r : Nat} {dy : Int32} (h : Ctx B own σ A) (hr : r = B + 29 ∨ r = B + 51) : ∀ m a τ (x4 : Option Value), a + m = 12 → Sm (fun a => Rk B a ∨ a = r) σ τ → (∀ j, j < a → gI τ r j = nI (opn A dy j)) →
    (∀ τ', Sm (fun a => Rk B a ∨ a = r) σ τ' → (∀ j, j < 12 → gI τ' r j = nI (opn A dy j)) → Q none τ') →
    wp (d + 5) pr_88 Q 2 [some (.ref (B + 25)), some (.ref r), some (.int dy), some (.int (nI a)), x4] [] τ := by
  intro m
  induction m with
  | zero =>
    intro a τ x4 ha hS hW K
    have hv := (Ctx_R h hr hS).1
    have hk : gK τ r = 21 := by rcases hr with rfl | rfl; exact sk_29 hv; exact sk_51 hv
    have hn' : gN τ r = 12 := by rcases hr with rfl | rfl; exact sn_29 hv; exact sn_51 hv
    have hk2 : 20 ≤ gK τ r ∧ gK τ r < 27 := by omega
    have z : 12 ≤ a := by omega
    simp (disch := first | omega | assumption) only [e_88_2, e_88_3, e_88_3n, e_88_4, e_88_5, e_88_60, n10, n01, Nat.lt_irrefl, Nat.not_lt_zero, ne_eq, Nat.add_zero, Nat.one_ne_zero, Nat.zero_ne_one, Nat.reduceEqDiff, bI_T, bI_F, bI_0, bI_1, bI_01, not_and_self, true_and, and_true, not_true_eq_false, not_false_eq_true, false_imp_iff, true_imp_iff, imp_self, gPv_n, gPv_i, gPv_r, gPv_0, Option.toList_some, Option.toList_none, List.singleton_append, List.cons_append, List.nil_append, List.length_nil, List.length_cons, Nat.zero_le, Nat.reduceAdd, Nat.reduceLeDiff, or_true, true_or, false_or, or_false, and_self, and_false, false_and, implies_true, Option.some.injEq, exists_eq_left', nL, nI_add, nI_mul, nI_clamp, nI_ltI, nI_leI, nI_eq, nI_pos, nI_pos', Nat.reduceAdd, Nat.reduceMul, Nat.reducePow, hk, hn', lg_len, z]
    exact K τ hS (fun j hj => hW j (by omega))
  | succ m ih =>
    intro a τ x4 ha hS hW K
    have hv := (Ctx_R h hr hS).1
    have hk : gK τ r = 21 := by rcases hr with rfl | rfl; exact sk_29 hv; exact sk_51 hv
    have hn' : gN τ r = 12 := by rcases hr with rfl | rfl; exact sn_29 hv; exact sn_51 hv
    have hk2 : 20 ≤ gK τ r ∧ gK τ r < 27 := by omega
    have z : ¬ 12 ≤ a := by omega
    have z2 : a < 12 := by omega
    rw [e_88_2]
    simp (disch := first | omega | assumption) only [e_88_3, e_88_3n, e_88_4, e_88_5, e_88_8, e_88_8n, e_88_9, e_88_10, e_88_11, e_88_12, e_88_13, n10, n01, Nat.lt_irrefl, Nat.not_lt_zero, ne_eq, Nat.add_zero, Nat.one_ne_zero, Nat.zero_ne_one, Nat.reduceEqDiff, bI_T, bI_F, bI_0, bI_1, bI_01, not_and_self, true_and, and_true, not_true_eq_false, not_false_eq_true, false_imp_iff, true_imp_iff, imp_self, gPv_n, gPv_i, gPv_r, gPv_0, Option.toList_some, Option.toList_none, List.singleton_append, List.cons_append, List.nil_append, List.length_nil, List.length_cons, Nat.zero_le, Nat.reduceAdd, Nat.reduceLeDiff, or_true, true_or, false_or, or_false, and_self, and_false, false_and, implies_true, Option.some.injEq, exists_eq_left', nL, nI_add, nI_mul, nI_clamp, nI_ltI, nI_leI, nI_eq, nI_pos, nI_pos', Nat.reduceAdd, Nat.reduceMul, Nat.reducePow, hk, hn', lg_len, z, z2]
    refine s_fo1 h hr z2 (hn A) 0 _ (gI τ r) (by omega) (Sm_I hS (Or.inr rfl)) (by rw [rI_up]; rfl) ?_
    intro τ' x4' hS' hW'
    simp (disch := omega) only [e_88_54, e_88_57, n10, n01, Nat.lt_irrefl, Nat.not_lt_zero, ne_eq, Nat.add_zero, Nat.one_ne_zero, Nat.zero_ne_one, Nat.reduceEqDiff, bI_T, bI_F, bI_0, bI_1, bI_01, not_and_self, true_and, and_true, not_true_eq_false, not_false_eq_true, false_imp_iff, true_imp_iff, imp_self, gPv_n, gPv_i, gPv_r, gPv_0, Option.toList_some, Option.toList_none, List.singleton_append, List.cons_append, List.nil_append, List.length_nil, List.length_cons, Nat.zero_le, Nat.reduceAdd, Nat.reduceLeDiff, or_true, true_or, false_or, or_false, and_self, and_false, false_and, implies_true, Option.some.injEq, exists_eq_left', nL, nI_add, nI_mul, nI_clamp, nI_ltI, nI_leI, nI_eq, nI_pos, nI_pos', Nat.reduceAdd, Nat.reduceMul, Nat.reducePow]
    refine ih (a + 1) τ' _ (by omega) hS' ?_ K
    intro j hj
    rw [hW']
    by_cases hja : j = a
    · subst hja; rw [up_eq]
    · rw [up_ne hja]; exact hW j (by omega)
theorem s_fillOpen {r : Nat} {dy : Int32} (h : Ctx B own σ A) (hr : r = B + 29 ∨ r = B + 51) (K : ∀ τ', Sm (fun a => Rk B a ∨ a = r) σ τ' → (∀ j, j < 12 → gI τ' r j = nI (opn A dy j)) → Q none τ') : wc (d + 6) 88 [.ref (B + 25), .ref r, .int dy] σ Q := by
  simp (disch := omega) only [c_88, e_88_0, e_88_1, n10, n01, Nat.lt_irrefl, Nat.not_lt_zero, ne_eq, Nat.add_zero, Nat.one_ne_zero, Nat.zero_ne_one, Nat.reduceEqDiff, bI_T, bI_F, bI_0, bI_1, bI_01, not_and_self, true_and, and_true, not_true_eq_false, not_false_eq_true, false_imp_iff, true_imp_iff, imp_self, gPv_n, gPv_i, gPv_r, gPv_0, Option.toList_some, Option.toList_none, List.singleton_append, List.cons_append, List.nil_append, List.length_nil, List.length_cons, Nat.zero_le, Nat.reduceAdd, Nat.reduceLeDiff, or_true, true_or, false_or, or_false, and_self, and_false, false_and, implies_true, Option.some.injEq, exists_eq_left', nL]
  exact s_fo2 h hr 12 0 σ _ (by omega) (Sm_refl _ _) (fun j hj => absurd hj (by omega)) K
/-- with a door between them -/
def wdB (A : Nat → Int32) (dy : Int32) (a b : Nat) : Bool := decide (a < hn A ∧ a ≠ b) && (St A a && St A b) && !brd A a b (nI 1) dy
def wdn (A : Nat → Int32) (dy : Int32) (a : Nat) : Nat := mkN (wdB A dy a) (hn A)
theorem s_rd1 {a : Nat} (h : Ctx B own σ A) (ha : a < 12) : ∀ m b τ (x4 : Option Value), b + m = hn A → Sm (Rk B) σ τ →
    (∀ τ', Sm (Rk B) σ τ' → Q (some (.int (nI (wdn A (A 249) a)))) τ') →
    wp (d + 4) pr_90 Q 4 [some (.ref (B + 25)), some (.int (nI a)), some (.int (nI (mkN (wdB A (A 249) a) b))), some (.int (nI b)), x4] [] τ := by
  have w1 : Wh A := h.2.1.1.1
  have h12 := hn_le w1
  have hn2 := hn_eq w1
  have cS : ∀ τ, Sm (Rk B) σ τ → Ctx B own τ A := fun τ hS => Ctx_S h (Sm_mono hS (fun a ha => by constructor <;> omega))
  intro m
  induction m with
  | zero =>
    intro b τ x4 hb hS K
    have hc := cS τ hS
    have hv := hc.1
    have e5 : gI τ (B + 1) 5 = A 250 := hc.2.1.2.1.1.1
    have z : hn A ≤ b := by omega
    have eb : b = hn A := by omega
    have K := K τ hS
    rw [wdn, ← eb] at K
    simp (disch := omega) only [e_90_4, e_90_5, e_90_6, e_90_9, e_90_12, e_90_80, e_90_81, n10, n01, Nat.lt_irrefl, Nat.not_lt_zero, ne_eq, Nat.add_zero, Nat.one_ne_zero, Nat.zero_ne_one, Nat.reduceEqDiff, bI_T, bI_F, bI_0, bI_1, bI_01, not_and_self, true_and, and_true, not_true_eq_false, not_false_eq_true, false_imp_iff, true_imp_iff, imp_self, gPv_n, gPv_i, gPv_r, gPv_0, Option.toList_some, Option.toList_none, List.singleton_append, List.cons_append, List.nil_append, List.length_nil, List.length_cons, Nat.zero_le, Nat.reduceAdd, Nat.reduceLeDiff, or_true, true_or, false_or, or_false, and_self, and_false, false_and, implies_true, Option.some.injEq, exists_eq_left', nL, nI_add, nI_mul, nI_clamp, nI_ltI, nI_leI, nI_eq, nI_pos, nI_pos', Nat.reduceAdd, Nat.reduceMul, Nat.reducePow, sk_1 hv, sr_1_0 hv, sr_1_1 hv, sr_1_2 hv, sr_1_3 hv, sr_1_4 hv, sr_1_7 hv, sr_1_9 hv, sr_1_14 hv, sr_1_15 hv, sr_1_16 hv, sk_25 hv, sr_25_0 hv, sr_25_1 hv, sr_25_2 hv, sr_25_3 hv, sr_25_4 hv, sr_25_5 hv, e5, hn2, z]
    exact K
  | succ m ih =>
    intro b τ x4 hb hS K
    have hc := cS τ hS
    have hv := hc.1
    obtain ⟨⟨_, w2, w3, w4, w5⟩, ⟨t1, t2, t3, t4, t5⟩, lw⟩ := hc.2.1
    have e5 : gI τ (B + 1) 5 = A 250 := t1.1
    have z : ¬ hn A ≤ b := by omega
    have hb2 : b < hn A := by omega
    have s6 : gI τ (B + 1) 6 = nI (mkN (St A) (hn A)) := t1.2.1
    have m0 : mkN (St A) (hn A) < 4096 := mk_lt12 h12
    have hday : gI τ (B + 1) 13 = A 249 := t3.2
    have eb : (mkN (St A) (hn A)).testBit b = St A b := by rw [tb_mk]; simp [hb2]
    have nx : wdB A (A 249) a b = false → ∀ τ', Sm (Rk B) σ τ' → ∀ x4, wp (d + 4) pr_90 Q 4 [some (.ref (B + 25)), some (.int (nI a)), some (.int (nI (mkN (wdB A (A 249) a) b))), some (.int (nI (b + 1))), x4] [] τ' := by
      intro hw τ' hS' x4
      have e8 : mkN (wdB A (A 249) a) (b + 1) = mkN (wdB A (A 249) a) b := by simp only [mkN, hw, Bool.false_eq_true, if_false, Nat.or_zero]
      rw [← e8]
      exact ih (b + 1) τ' x4 (by omega) hS' K
    rw [e_90_4]
    by_cases ha2 : a < hn A
    · have ea : (mkN (St A) (hn A)).testBit a = St A a := by rw [tb_mk]; simp [ha2]
      by_cases hab : a = b
      · simp (disch := omega) only [e_90_5, e_90_6, e_90_9, e_90_12, e_90_15, e_90_16, e_90_19, e_90_20, e_90_21, e_90_24, e_90_27, e_90_28, e_90_31, e_90_32, e_90_33, e_90_36, e_90_39, e_90_40, e_90_43, e_90_44, e_90_46, e_90_48, e_90_74, e_90_77, n10, n01, Nat.lt_irrefl, Nat.not_lt_zero, ne_eq, Nat.add_zero, Nat.one_ne_zero, Nat.zero_ne_one, Nat.reduceEqDiff, bI_T, bI_F, bI_0, bI_1, bI_01, not_and_self, true_and, and_true, not_true_eq_false, not_false_eq_true, false_imp_iff, true_imp_iff, imp_self, gPv_n, gPv_i, gPv_r, gPv_0, Option.toList_some, Option.toList_none, List.singleton_append, List.cons_append, List.nil_append, List.length_nil, List.length_cons, Nat.zero_le, Nat.reduceAdd, Nat.reduceLeDiff, or_true, true_or, false_or, or_false, and_self, and_false, false_and, implies_true, Option.some.injEq, exists_eq_left', nL, nI_add, nI_mul, nI_clamp, nI_ltI, nI_leI, nI_eq, nI_pos, nI_pos', Nat.reduceAdd, Nat.reduceMul, Nat.reducePow, sk_1 hv, sr_1_0 hv, sr_1_1 hv, sr_1_2 hv, sr_1_3 hv, sr_1_4 hv, sr_1_7 hv, sr_1_9 hv, sr_1_14 hv, sr_1_15 hv, sr_1_16 hv, sk_25 hv, sr_25_0 hv, sr_25_1 hv, sr_25_2 hv, sr_25_3 hv, sr_25_4 hv, sr_25_5 hv, e5, hn2, z, c_102, e_102_0, e_102_1, e_102_2, e_102_5, e_102_8, e_102_9, e_102_10, e_102_13, e_102_16, e_102_17, e_102_18, e_102_21, e_102_22, e_102_25, e_102_26, s_has (sk_1 hv), hb2, ha2, hab]
        have := nx (by simp [wdB, hab]) τ hS
        rw [hab] at this
        exact this _
      · by_cases sa : St A a = true
        · by_cases sb' : St A b = true
          · simp (disch := omega) only [e_90_5, e_90_6, e_90_9, e_90_12, e_90_15, e_90_16, e_90_19, e_90_20, e_90_21, e_90_24, e_90_27, e_90_28, e_90_31, e_90_32, e_90_33, e_90_36, e_90_39, e_90_40, e_90_43, e_90_44, e_90_46, e_90_48, e_90_51, e_90_52, e_90_53, e_90_54, e_90_55, e_90_56, e_90_59, e_90_62, n10, n01, Nat.lt_irrefl, Nat.not_lt_zero, ne_eq, Nat.add_zero, Nat.one_ne_zero, Nat.zero_ne_one, Nat.reduceEqDiff, bI_T, bI_F, bI_0, bI_1, bI_01, not_and_self, true_and, and_true, not_true_eq_false, not_false_eq_true, false_imp_iff, true_imp_iff, imp_self, gPv_n, gPv_i, gPv_r, gPv_0, Option.toList_some, Option.toList_none, List.singleton_append, List.cons_append, List.nil_append, List.length_nil, List.length_cons, Nat.zero_le, Nat.reduceAdd, Nat.reduceLeDiff, or_true, true_or, false_or, or_false, and_self, and_false, false_and, implies_true, Option.some.injEq, exists_eq_left', nL, nI_add, nI_mul, nI_clamp, nI_ltI, nI_leI, nI_eq, nI_pos, nI_pos', Nat.reduceAdd, Nat.reduceMul, Nat.reducePow, sk_1 hv, sr_1_0 hv, sr_1_1 hv, sr_1_2 hv, sr_1_3 hv, sr_1_4 hv, sr_1_7 hv, sr_1_9 hv, sr_1_14 hv, sr_1_15 hv, sr_1_16 hv, sk_25 hv, sr_25_0 hv, sr_25_1 hv, sr_25_2 hv, sr_25_3 hv, sr_25_4 hv, sr_25_5 hv, e5, hn2, z, c_102, e_102_0, e_102_1, e_102_2, e_102_5, e_102_8, e_102_9, e_102_10, e_102_13, e_102_16, e_102_17, e_102_18, e_102_21, e_102_22, e_102_25, e_102_26, c_103, e_103_0, e_103_1, e_103_4, e_103_5, e_103_8, e_103_9, e_103_12, e_103_13, e_103_16, e_103_17, e_103_20, e_103_21, e_103_24, e_103_25, e_103_28, e_103_29, s_has (sk_1 hv), s_bitOf, hb2, ha2, hab, s6, nI_bit, ea, eb, sa, sb', hday]
            refine s_lawBars hc ha2 hb2 ?_
            intro τ' hS'
            have hS2 := Sm_trans hS hS'
            cases hbr : brd A a b (nI 1) (A 249)
            · have hw : wdB A (A 249) a b = true := by simp [wdB, ha2, hab, sa, sb', hbr]
              have e8 : mkN (wdB A (A 249) a) b ||| 2 ^ b = mkN (wdB A (A 249) a) (b + 1) := by simp only [mkN, hw, if_true]
              simp (disch := omega) only [e_90_65, e_90_68, e_90_69, e_90_70, e_90_71, e_90_72, e_90_73, e_90_74, e_90_77, n10, n01, Nat.lt_irrefl, Nat.not_lt_zero, ne_eq, Nat.add_zero, Nat.one_ne_zero, Nat.zero_ne_one, Nat.reduceEqDiff, bI_T, bI_F, bI_0, bI_1, bI_01, not_and_self, true_and, and_true, not_true_eq_false, not_false_eq_true, false_imp_iff, true_imp_iff, imp_self, gPv_n, gPv_i, gPv_r, gPv_0, Option.toList_some, Option.toList_none, List.singleton_append, List.cons_append, List.nil_append, List.length_nil, List.length_cons, Nat.zero_le, Nat.reduceAdd, Nat.reduceLeDiff, or_true, true_or, false_or, or_false, and_self, and_false, false_and, implies_true, Option.some.injEq, exists_eq_left', nL, nI_add, nI_mul, nI_clamp, nI_ltI, nI_leI, nI_eq, nI_pos, nI_pos', Nat.reduceAdd, Nat.reduceMul, Nat.reducePow, Bool.false_eq_true, nI_shl, nI_or, Nat.one_mul, e8]
              exact ih (b + 1) τ' _ (by omega) hS2 K
            · have hw : wdB A (A 249) a b = false := by simp [wdB, ha2, hab, sa, sb', hbr]
              simp (disch := omega) only [e_90_65, e_90_68, e_90_69, e_90_70, e_90_71, e_90_72, e_90_73, e_90_74, e_90_77, n10, n01, Nat.lt_irrefl, Nat.not_lt_zero, ne_eq, Nat.add_zero, Nat.one_ne_zero, Nat.zero_ne_one, Nat.reduceEqDiff, bI_T, bI_F, bI_0, bI_1, bI_01, not_and_self, true_and, and_true, not_true_eq_false, not_false_eq_true, false_imp_iff, true_imp_iff, imp_self, gPv_n, gPv_i, gPv_r, gPv_0, Option.toList_some, Option.toList_none, List.singleton_append, List.cons_append, List.nil_append, List.length_nil, List.length_cons, Nat.zero_le, Nat.reduceAdd, Nat.reduceLeDiff, or_true, true_or, false_or, or_false, and_self, and_false, false_and, implies_true, Option.some.injEq, exists_eq_left', nL, nI_add, nI_mul, nI_clamp, nI_ltI, nI_leI, nI_eq, nI_pos, nI_pos', Nat.reduceAdd, Nat.reduceMul, Nat.reducePow]
              exact nx hw τ' hS2 _
          · have sb'' : St A b = false := by simpa using sb'
            simp (disch := omega) only [e_90_5, e_90_6, e_90_9, e_90_12, e_90_15, e_90_16, e_90_19, e_90_20, e_90_21, e_90_24, e_90_27, e_90_28, e_90_31, e_90_32, e_90_33, e_90_36, e_90_39, e_90_40, e_90_43, e_90_44, e_90_46, e_90_48, e_90_74, e_90_77, n10, n01, Nat.lt_irrefl, Nat.not_lt_zero, ne_eq, Nat.add_zero, Nat.one_ne_zero, Nat.zero_ne_one, Nat.reduceEqDiff, bI_T, bI_F, bI_0, bI_1, bI_01, not_and_self, true_and, and_true, not_true_eq_false, not_false_eq_true, false_imp_iff, true_imp_iff, imp_self, gPv_n, gPv_i, gPv_r, gPv_0, Option.toList_some, Option.toList_none, List.singleton_append, List.cons_append, List.nil_append, List.length_nil, List.length_cons, Nat.zero_le, Nat.reduceAdd, Nat.reduceLeDiff, or_true, true_or, false_or, or_false, and_self, and_false, false_and, implies_true, Option.some.injEq, exists_eq_left', nL, nI_add, nI_mul, nI_clamp, nI_ltI, nI_leI, nI_eq, nI_pos, nI_pos', Nat.reduceAdd, Nat.reduceMul, Nat.reducePow, sk_1 hv, sr_1_0 hv, sr_1_1 hv, sr_1_2 hv, sr_1_3 hv, sr_1_4 hv, sr_1_7 hv, sr_1_9 hv, sr_1_14 hv, sr_1_15 hv, sr_1_16 hv, sk_25 hv, sr_25_0 hv, sr_25_1 hv, sr_25_2 hv, sr_25_3 hv, sr_25_4 hv, sr_25_5 hv, e5, hn2, z, c_102, e_102_0, e_102_1, e_102_2, e_102_5, e_102_8, e_102_9, e_102_10, e_102_13, e_102_16, e_102_17, e_102_18, e_102_21, e_102_22, e_102_25, e_102_26, c_103, e_103_0, e_103_1, e_103_4, e_103_5, e_103_8, e_103_9, e_103_12, e_103_13, e_103_16, e_103_17, e_103_20, e_103_21, e_103_24, e_103_25, e_103_28, e_103_29, s_has (sk_1 hv), s_bitOf, hb2, ha2, hab, s6, nI_bit, ea, eb, sa, sb'', Bool.false_eq_true]
            exact nx (by simp [wdB, sb'']) τ hS _
        · have sa' : St A a = false := by simpa using sa
          simp (disch := omega) only [e_90_5, e_90_6, e_90_9, e_90_12, e_90_15, e_90_16, e_90_19, e_90_20, e_90_21, e_90_24, e_90_27, e_90_28, e_90_31, e_90_32, e_90_33, e_90_36, e_90_39, e_90_40, e_90_43, e_90_44, e_90_46, e_90_48, e_90_74, e_90_77, n10, n01, Nat.lt_irrefl, Nat.not_lt_zero, ne_eq, Nat.add_zero, Nat.one_ne_zero, Nat.zero_ne_one, Nat.reduceEqDiff, bI_T, bI_F, bI_0, bI_1, bI_01, not_and_self, true_and, and_true, not_true_eq_false, not_false_eq_true, false_imp_iff, true_imp_iff, imp_self, gPv_n, gPv_i, gPv_r, gPv_0, Option.toList_some, Option.toList_none, List.singleton_append, List.cons_append, List.nil_append, List.length_nil, List.length_cons, Nat.zero_le, Nat.reduceAdd, Nat.reduceLeDiff, or_true, true_or, false_or, or_false, and_self, and_false, false_and, implies_true, Option.some.injEq, exists_eq_left', nL, nI_add, nI_mul, nI_clamp, nI_ltI, nI_leI, nI_eq, nI_pos, nI_pos', Nat.reduceAdd, Nat.reduceMul, Nat.reducePow, sk_1 hv, sr_1_0 hv, sr_1_1 hv, sr_1_2 hv, sr_1_3 hv, sr_1_4 hv, sr_1_7 hv, sr_1_9 hv, sr_1_14 hv, sr_1_15 hv, sr_1_16 hv, sk_25 hv, sr_25_0 hv, sr_25_1 hv, sr_25_2 hv, sr_25_3 hv, sr_25_4 hv, sr_25_5 hv, e5, hn2, z, c_102, e_102_0, e_102_1, e_102_2, e_102_5, e_102_8, e_102_9, e_102_10, e_102_13, e_102_16, e_102_17, e_102_18, e_102_21, e_102_22, e_102_25, e_102_26, c_103, e_103_0, e_103_1, e_103_4, e_103_5, e_103_8, e_103_9, e_103_12, e_103_13, e_103_16, e_103_17, e_103_20, e_103_21, e_103_24, e_103_25, e_103_28, e_103_29, s_has (sk_1 hv), s_bitOf, hb2, ha2, hab, s6, nI_bit, ea, eb, sa', Bool.false_eq_true]
          exact nx (by simp [wdB, sa']) τ hS _
    · simp (disch := omega) only [e_90_5, e_90_6, e_90_9, e_90_12, e_90_15, e_90_16, e_90_19, e_90_20, e_90_21, e_90_24, e_90_27, e_90_28, e_90_31, e_90_32, e_90_33, e_90_36, e_90_39, e_90_40, e_90_43, e_90_44, e_90_46, e_90_48, e_90_74, e_90_77, n10, n01, Nat.lt_irrefl, Nat.not_lt_zero, ne_eq, Nat.add_zero, Nat.one_ne_zero, Nat.zero_ne_one, Nat.reduceEqDiff, bI_T, bI_F, bI_0, bI_1, bI_01, not_and_self, true_and, and_true, not_true_eq_false, not_false_eq_true, false_imp_iff, true_imp_iff, imp_self, gPv_n, gPv_i, gPv_r, gPv_0, Option.toList_some, Option.toList_none, List.singleton_append, List.cons_append, List.nil_append, List.length_nil, List.length_cons, Nat.zero_le, Nat.reduceAdd, Nat.reduceLeDiff, or_true, true_or, false_or, or_false, and_self, and_false, false_and, implies_true, Option.some.injEq, exists_eq_left', nL, nI_add, nI_mul, nI_clamp, nI_ltI, nI_leI, nI_eq, nI_pos, nI_pos', Nat.reduceAdd, Nat.reduceMul, Nat.reducePow, sk_1 hv, sr_1_0 hv, sr_1_1 hv, sr_1_2 hv, sr_1_3 hv, sr_1_4 hv, sr_1_7 hv, sr_1_9 hv, sr_1_14 hv, sr_1_15 hv, sr_1_16 hv, sk_25 hv, sr_25_0 hv, sr_25_1 hv, sr_25_2 hv, sr_25_3 hv, sr_25_4 hv, sr_25_5 hv, e5, hn2, z, c_102, e_102_0, e_102_1, e_102_2, e_102_5, e_102_8, e_102_9, e_102_10, e_102_13, e_102_16, e_102_17, e_102_18, e_102_21, e_102_22, e_102_25, e_102_26, s_has (sk_1 hv), ha2]
      exact nx (by simp [wdB, ha2]) τ hS _
theorem s_rowByDoor {a : Nat} (h : Ctx B own σ A) (ha : a < 12) (K : ∀ τ', Sm (Rk B) σ τ' → Q (some (.int (nI (wdn A (A 249) a)))) τ') : wc (d + 5) 90 [.ref (B + 25), .int (nI a)] σ Q := by
  simp (disch := omega) only [c_90, e_90_0, e_90_1, e_90_2, e_90_3, n10, n01, Nat.lt_irrefl, Nat.not_lt_zero, ne_eq, Nat.add_zero, Nat.one_ne_zero, Nat.zero_ne_one, Nat.reduceEqDiff, bI_T, bI_F, bI_0, bI_1, bI_01, not_and_self, true_and, and_true, not_true_eq_false, not_false_eq_true, false_imp_iff, true_imp_iff, imp_self, gPv_n, gPv_i, gPv_r, gPv_0, Option.toList_some, Option.toList_none, List.singleton_append, List.cons_append, List.nil_append, List.length_nil, List.length_cons, Nat.zero_le, Nat.reduceAdd, Nat.reduceLeDiff, or_true, true_or, false_or, or_false, and_self, and_false, false_and, implies_true, Option.some.injEq, exists_eq_left', nL]
  exact s_rd1 h ha (hn A) 0 σ _ (by omega) (Sm_refl _ _) K
theorem s_rd2 (h : Ctx B own σ A) : ∀ m a τ, a + m = 12 → Sm (fun a => Rk B a ∨ a = B + 30) σ τ → (∀ j, j < a → gI τ (B + 30) j = nI (wdn A (A 249) j)) →
    (∀ τ', Sm (fun a => Rk B a ∨ a = B + 30) σ τ' → (∀ j, j < 12 → gI τ' (B + 30) j = nI (wdn A (A 249) j)) → Q (some (.ref (B + 30))) τ') →
    wp (d + 5) pr_89 Q 27 [some (.ref (B + 25)), some (.int (nI a))] [] τ := by
  have cS : ∀ τ, Sm (fun a => Rk B a ∨ a = B + 30) σ τ → Ctx B own τ A := fun τ hS => Ctx_S h (Sm_mono hS (fun a ha => by rcases ha with ha | ha <;> constructor <;> omega))
  intro m
  induction m with
  | zero =>
    intro a τ ha hS hW K
    have hv := (cS τ hS).1
    have z : 12 ≤ a := by omega
    simp (disch := omega) only [e_89_27, e_89_28, e_89_30, e_89_50, e_89_51, e_89_54, e_89_54n, n10, n01, Nat.lt_irrefl, Nat.not_lt_zero, ne_eq, Nat.add_zero, Nat.one_ne_zero, Nat.zero_ne_one, Nat.reduceEqDiff, bI_T, bI_F, bI_0, bI_1, bI_01, not_and_self, true_and, and_true, not_true_eq_false, not_false_eq_true, false_imp_iff, true_imp_iff, imp_self, gPv_n, gPv_i, gPv_r, gPv_0, Option.toList_some, Option.toList_none, List.singleton_append, List.cons_append, List.nil_append, List.length_nil, List.length_cons, Nat.zero_le, Nat.reduceAdd, Nat.reduceLeDiff, or_true, true_or, false_or, or_false, and_self, and_false, false_and, implies_true, Option.some.injEq, exists_eq_left', nL, nI_add, nI_mul, nI_clamp, nI_ltI, nI_leI, nI_eq, nI_pos, nI_pos', Nat.reduceAdd, Nat.reduceMul, Nat.reducePow, sk_25 hv, sr_25_0 hv, sr_25_1 hv, sr_25_2 hv, sr_25_3 hv, sr_25_4 hv, sr_25_5 hv, z]
    exact K τ hS (fun j hj => hW j (by omega))
  | succ m ih =>
    intro a τ ha hS hW K
    have hc := cS τ hS
    have hv := hc.1
    have z : ¬ 12 ≤ a := by omega
    have z2 : a < 12 := by omega
    rw [e_89_27]
    simp (disch := omega) only [e_89_28, e_89_30, e_89_33, e_89_34, e_89_37, e_89_38, e_89_39, e_89_40, n10, n01, Nat.lt_irrefl, Nat.not_lt_zero, ne_eq, Nat.add_zero, Nat.one_ne_zero, Nat.zero_ne_one, Nat.reduceEqDiff, bI_T, bI_F, bI_0, bI_1, bI_01, not_and_self, true_and, and_true, not_true_eq_false, not_false_eq_true, false_imp_iff, true_imp_iff, imp_self, gPv_n, gPv_i, gPv_r, gPv_0, Option.toList_some, Option.toList_none, List.singleton_append, List.cons_append, List.nil_append, List.length_nil, List.length_cons, Nat.zero_le, Nat.reduceAdd, Nat.reduceLeDiff, or_true, true_or, false_or, or_false, and_self, and_false, false_and, implies_true, Option.some.injEq, exists_eq_left', nL, nI_add, nI_mul, nI_clamp, nI_ltI, nI_leI, nI_eq, nI_pos, nI_pos', Nat.reduceAdd, Nat.reduceMul, Nat.reducePow, sk_25 hv, sr_25_0 hv, sr_25_1 hv, sr_25_2 hv, sr_25_3 hv, sr_25_4 hv, sr_25_5 hv, z]
    refine s_rowByDoor hc z2 ?_
    intro τ' hS'
    have hS2 : Sm (fun a => Rk B a ∨ a = B + 30) σ τ' := Sm_trans hS (Sm_mono hS' (fun a ha => Or.inl ha))
    have hv2 := (cS τ' hS2).1
    have e6 : gI τ' (B + 30) = gI τ (B + 30) := hS'.2.2.2.2.2.2.1 (B + 30) (by omega)
    simp (disch := omega) only [e_89_43, e_89_44, e_89_47, n10, n01, Nat.lt_irrefl, Nat.not_lt_zero, ne_eq, Nat.add_zero, Nat.one_ne_zero, Nat.zero_ne_one, Nat.reduceEqDiff, bI_T, bI_F, bI_0, bI_1, bI_01, not_and_self, true_and, and_true, not_true_eq_false, not_false_eq_true, false_imp_iff, true_imp_iff, imp_self, gPv_n, gPv_i, gPv_r, gPv_0, Option.toList_some, Option.toList_none, List.singleton_append, List.cons_append, List.nil_append, List.length_nil, List.length_cons, Nat.zero_le, Nat.reduceAdd, Nat.reduceLeDiff, or_true, true_or, false_or, or_false, and_self, and_false, false_and, implies_true, Option.some.injEq, exists_eq_left', nL, nI_add, nI_mul, nI_clamp, nI_ltI, nI_leI, nI_eq, nI_pos, nI_pos', Nat.reduceAdd, Nat.reduceMul, Nat.reducePow, sk_30 hv2, sn_30 hv2, z2]
    refine ih (a + 1) _ (by omega) (Sm_I hS2 (Or.inr rfl)) ?_ K
    intro j hj
    rw [rI_up, e6]
    by_cases hja : j = a
    · subst hja; rw [up_eq]
    · rw [up_ne hja]; exact hW j (by omega)
end
