/-! rounds: the class's least, and its walk -/
theorem idx_inj {s r a r' a' : Nat} (ha : a < s) (ha' : a' < s) (h : r' * s + a' = r * s + a) : r' = r ∧ a' = a := by
  have h1 : (r' * s + a') % s = a' := by rw [Nat.mul_comm, Nat.mul_add_mod, Nat.mod_eq_of_lt ha']
  have h2 : (r * s + a) % s = a := by rw [Nat.mul_comm, Nat.mul_add_mod, Nat.mod_eq_of_lt ha]
  have e : a' = a := by rw [← h1, ← h2, h]
  subst e
  have e2 : r' * s = r * s := by omega
  exact ⟨Nat.eq_of_mul_eq_mul_right (by omega) e2, rfl⟩
theorem idx_lt {s r a : Nat} (hr : r < 2 ^ s) (ha : a < s) : r * s + a < s * 2 ^ s := by
  have h1 : (r + 1) * s ≤ 2 ^ s * s := Nat.mul_le_mul_right s hr
  rw [Nat.add_mul, Nat.one_mul] at h1
  rw [Nat.mul_comm s]
  omega
section
variable {B : Nat} {own : Nat → Nat} {σ : gS} {A : Nat → Int32} {d s l : Nat} {Q : Option Value → gS → Prop} {D : Nat → Nat → Nat}
def RsX (B : Nat) (σ : gS) (s l : Nat) (D : Nat → Nat → Nat) : Prop := IvS B σ ∧ gI σ (B + 45) 6 = nI s ∧ s ≤ 11 ∧ (∀ x y, x ≤ s → y ≤ s → gI σ (B + 48) (12 * x + y) = nI (D x y)) ∧ (gR σ (B + 45) 5 = some l ∧ gK σ l = 21 ∧ s * 2 ^ s ≤ gN σ l ∧ gN σ l < 100000 ∧ (l = B + 49 ∨ B + 80 ≤ l)) ∧ ∀ x y, D x y ≤ 1000000
theorem RsX_S {P : Nat → Prop} {τ : gS} (h : RsX B σ s l D) (hS : Sm P σ τ) (hP : ¬ P (B + 48)) (h6 : gI τ (B + 45) 6 = gI σ (B + 45) 6) : RsX B τ s l D := by
  obtain ⟨h1, h2, h3, h4, h5, h7⟩ := h
  exact ⟨fr_IvS hS.1 hS.2.1 hS.2.2.1 h1, h6.trans h2, h3, by rw [hS.2.2.2.2.2.2.1 _ hP]; exact h4, by rw [hS.2.2.1, hS.1, hS.2.1]; exact h5, h7⟩
theorem s_tb {x y : Nat} (h : RsX B σ s l D) (hx : x ≤ s) (hy : y ≤ s) : wc (d + 1) 76 [.ref (B + 45), .int (nI x), .int (nI y)] σ Q ↔ Q (some (.int (nI (D x y)))) σ := by
  obtain ⟨hv, h2, h3, h4, h5, h7⟩ := h
  have k48 := sk_48 hv
  have e := h4 x y hx hy
  have z : 12 * x + y < 144 := by omega
  have z' : ¬ 144 ≤ 12 * x + y := by omega
  have zz : x * 12 + y = 12 * x + y := by omega
  simp (disch := omega) only [c_76, e_76_0, e_76_1, e_76_3, e_76_4, e_76_5, e_76_6, e_76_7, e_76_8, e_76_11, e_76_12, e_76_13, e_76_16, e_76_17, e_76_20, e_76_21, e_76_24, e_76_25, e_76_26, e_76_29, e_76_30, n10, n01, Nat.lt_irrefl, Nat.not_lt_zero, ne_eq, Nat.add_zero, Nat.one_ne_zero, Nat.zero_ne_one, Nat.reduceEqDiff, bI_T, bI_F, bI_0, bI_1, bI_01, not_and_self, true_and, and_true, not_true_eq_false, not_false_eq_true, false_imp_iff, true_imp_iff, imp_self, gPv_n, gPv_i, gPv_r, gPv_0, Option.toList_some, Option.toList_none, List.singleton_append, List.cons_append, List.nil_append, List.length_nil, List.length_cons, Nat.zero_le, Nat.reduceAdd, Nat.reduceLeDiff, or_true, true_or, false_or, or_false, and_self, and_false, false_and, implies_true, Option.some.injEq, exists_eq_left', nL, nI_add, nI_mul, nI_clamp, nI_ltI, nI_leI, nI_eq, nI_pos, nI_pos', Nat.reduceAdd, Nat.reduceMul, Nat.reducePow, sk_45 hv, sr_45_0 hv, sr_45_1 hv, sr_45_2 hv, sr_45_3 hv, sr_45_4 hv, sk_48 hv, sn_48 hv, nI_of_len, z, z', zz, e]
theorem s_la {r a : Nat} (h : RsX B σ s l D) (hr : r < 2 ^ s) (ha : a < s) : wc (d + 1) 77 [.ref (B + 45), .int (nI r), .int (nI a)] σ Q ↔ Q (some (.int (gI σ l (r * s + a)))) σ := by
  obtain ⟨hv, h2, h3, h4, ⟨l1, l2, l3, l4, l5⟩, h7⟩ := h
  have i1 := idx_lt hr ha
  have k2 : 20 ≤ gK σ l ∧ gK σ l < 27 := by omega
  have z : r * s + a < gN σ l := by omega
  have z' : ¬ gN σ l ≤ r * s + a := by omega
  simp (disch := first | omega | assumption) only [c_77, e_77_0, e_77_1, e_77_2, e_77_5, e_77_6, e_77_7, e_77_8, e_77_9, e_77_10, e_77_13, e_77_14, e_77_15, e_77_18, e_77_19, e_77_22, e_77_23, e_77_26, e_77_27, e_77_28, e_77_31, e_77_32, n10, n01, Nat.lt_irrefl, Nat.not_lt_zero, ne_eq, Nat.add_zero, Nat.one_ne_zero, Nat.zero_ne_one, Nat.reduceEqDiff, bI_T, bI_F, bI_0, bI_1, bI_01, not_and_self, true_and, and_true, not_true_eq_false, not_false_eq_true, false_imp_iff, true_imp_iff, imp_self, gPv_n, gPv_i, gPv_r, gPv_0, Option.toList_some, Option.toList_none, List.singleton_append, List.cons_append, List.nil_append, List.length_nil, List.length_cons, Nat.zero_le, Nat.reduceAdd, Nat.reduceLeDiff, or_true, true_or, false_or, or_false, and_self, and_false, false_and, implies_true, Option.some.injEq, exists_eq_left', nL, nI_add, nI_mul, nI_clamp, nI_ltI, nI_leI, nI_eq, nI_pos, nI_pos', Nat.reduceAdd, Nat.reduceMul, Nat.reducePow, sk_45 hv, sr_45_0 hv, sr_45_1 hv, sr_45_2 hv, sr_45_3 hv, sr_45_4 hv, h2, l1, l2, nI_of_len, z, z', Option.some.injEq, exists_eq_left']
def TlI (s l : Nat) (D : Nat → Nat → Nat) (r a : Nat) (τ : gS) : Prop := ∀ r' a', r' < 2 ^ s → a' < s → r'.testBit a' = false → (r' < r ∨ r' = r ∧ a' < a) → gI τ l (r' * s + a') = nI (lr D s s r' a')
theorem s_lf1 {r a : Nat} (h : RsX B σ s l D) (hT : TlI s l D r 0 σ) (hr : r < 2 ^ s) (hr0 : r ≠ 0) (ha : a ≤ s) (K : Q (some (.int (nI (lr D s s r a)))) σ) : ∀ m k, k + m = s → wp (d + 1) pr_79 Q 20 [some (.ref (B + 45)), some (.int (nI a)), some (.int (nI r)), some (.int (nI (mnF (fun j => r.testBit j) (fun j => D a j + lr D s s (ad r (2 ^ j)) j) k))), some (.int (nI k))] [] σ := by
  obtain ⟨hv, h2, h3, h4, h5, h7⟩ := id h
  have r4 : r < 4096 := Nat.lt_of_lt_of_le hr (Nat.le_trans (Nat.pow_le_pow_right (n := 2) (by decide) h3) (by decide))
  intro m
  induction m with
  | zero =>
    intro k hk
    have e : k = s := by omega
    subst e
    rw [lr_s hr0] at K
    simp (disch := omega) only [e_79_20, e_79_22, e_79_23, e_79_26, e_79_72, e_79_73, n10, n01, Nat.lt_irrefl, Nat.not_lt_zero, ne_eq, Nat.add_zero, Nat.one_ne_zero, Nat.zero_ne_one, Nat.reduceEqDiff, bI_T, bI_F, bI_0, bI_1, bI_01, not_and_self, true_and, and_true, not_true_eq_false, not_false_eq_true, false_imp_iff, true_imp_iff, imp_self, gPv_n, gPv_i, gPv_r, gPv_0, Option.toList_some, Option.toList_none, List.singleton_append, List.cons_append, List.nil_append, List.length_nil, List.length_cons, Nat.zero_le, Nat.reduceAdd, Nat.reduceLeDiff, or_true, true_or, false_or, or_false, and_self, and_false, false_and, implies_true, Option.some.injEq, exists_eq_left', nL, nI_add, nI_mul, nI_clamp, nI_ltI, nI_leI, nI_eq, nI_pos, nI_pos', Nat.reduceAdd, Nat.reduceMul, Nat.reducePow, sk_45 hv, sr_45_0 hv, sr_45_1 hv, sr_45_2 hv, sr_45_3 hv, sr_45_4 hv, h2, Nat.le_refl]
    exact K
  | succ m ih =>
    intro k hk
    have z : ¬ s ≤ k := by omega
    have ih := ih (k + 1) (by omega)
    rw [mnF] at ih
    rw [e_79_20]
    cases c : r.testBit k
    · rw [if_neg (by rw [c]; simp)] at ih
      simp (disch := omega) only [e_79_22, e_79_23, e_79_26, e_79_29, e_79_30, e_79_32, e_79_35, e_79_36, e_79_66, e_79_69, n10, n01, Nat.lt_irrefl, Nat.not_lt_zero, ne_eq, Nat.add_zero, Nat.one_ne_zero, Nat.zero_ne_one, Nat.reduceEqDiff, bI_T, bI_F, bI_0, bI_1, bI_01, not_and_self, true_and, and_true, not_true_eq_false, not_false_eq_true, false_imp_iff, true_imp_iff, imp_self, gPv_n, gPv_i, gPv_r, gPv_0, Option.toList_some, Option.toList_none, List.singleton_append, List.cons_append, List.nil_append, List.length_nil, List.length_cons, Nat.zero_le, Nat.reduceAdd, Nat.reduceLeDiff, or_true, true_or, false_or, or_false, and_self, and_false, false_and, implies_true, Option.some.injEq, exists_eq_left', nL, nI_add, nI_mul, nI_clamp, nI_ltI, nI_leI, nI_eq, nI_pos, nI_pos', Nat.reduceAdd, Nat.reduceMul, Nat.reducePow, sk_45 hv, sr_45_0 hv, sr_45_1 hv, sr_45_2 hv, sr_45_3 hv, sr_45_4 hv, h2, z, s_bitOf, nI_bit, c, Bool.false_eq_true]
      exact ih
    · rw [if_pos c] at ih
      have lt := ad_lt2 c
      have la := hT (ad r (2 ^ k)) k (by omega) (by omega) (by rw [tb_ad, Nat.testBit_two_pow_self]; simp) (Or.inl lt)
      have b1 := h7 a k
      have b2 := lr_le (hm := s) (n := s) (td := ad r (2 ^ k)) (a := k) h7
      have b3 := mnF_le (P := fun j => r.testBit j) (f := fun j => D a j + lr D s s (ad r (2 ^ j)) j) (m := k)
      simp (disch := omega) only [e_79_22, e_79_23, e_79_26, e_79_29, e_79_30, e_79_32, e_79_35, e_79_36, e_79_39, e_79_40, e_79_41, e_79_42, e_79_44, e_79_47, e_79_48, e_79_49, e_79_50, e_79_52, e_79_53, e_79_54, e_79_55, e_79_56, e_79_58, e_79_61, e_79_62, e_79_65, e_79_66, e_79_69, n10, n01, Nat.lt_irrefl, Nat.not_lt_zero, ne_eq, Nat.add_zero, Nat.one_ne_zero, Nat.zero_ne_one, Nat.reduceEqDiff, bI_T, bI_F, bI_0, bI_1, bI_01, not_and_self, true_and, and_true, not_true_eq_false, not_false_eq_true, false_imp_iff, true_imp_iff, imp_self, gPv_n, gPv_i, gPv_r, gPv_0, Option.toList_some, Option.toList_none, List.singleton_append, List.cons_append, List.nil_append, List.length_nil, List.length_cons, Nat.zero_le, Nat.reduceAdd, Nat.reduceLeDiff, or_true, true_or, false_or, or_false, and_self, and_false, false_and, implies_true, Option.some.injEq, exists_eq_left', nL, nI_add, nI_mul, nI_clamp, nI_ltI, nI_leI, nI_eq, nI_pos, nI_pos', Nat.reduceAdd, Nat.reduceMul, Nat.reducePow, sk_45 hv, sr_45_0 hv, sr_45_1 hv, sr_45_2 hv, sr_45_3 hv, sr_45_4 hv, h2, z, s_bitOf, nI_bit, c, s_tb h ha (show k ≤ s by omega), nI_shl, Nat.one_mul, nI_ad, s_la h (show ad r (2 ^ k) < 2 ^ s by omega) (show k < s by omega), la, nI_min2]
      exact ih
theorem s_lf {r a : Nat} (h : RsX B σ s l D) (hT : TlI s l D r 0 σ) (hr : r < 2 ^ s) (ha : a ≤ s) (K : Q (some (.int (nI (lr D s s r a)))) σ) : wc (d + 2) 79 [.ref (B + 45), .int (nI a), .int (nI r)] σ Q := by
  obtain ⟨hv, h2, h3, h4, h5, h7⟩ := id h
  have r4 : r < 4096 := Nat.lt_of_lt_of_le hr (Nat.le_trans (Nat.pow_le_pow_right (n := 2) (by decide) h3) (by decide))
  by_cases c : r = 0
  · subst c
    rw [lr_0] at K
    simp (disch := omega) only [c_79, e_79_0, e_79_1, e_79_4, e_79_5, e_79_6, e_79_7, e_79_10, e_79_13, n10, n01, Nat.lt_irrefl, Nat.not_lt_zero, ne_eq, Nat.add_zero, Nat.one_ne_zero, Nat.zero_ne_one, Nat.reduceEqDiff, bI_T, bI_F, bI_0, bI_1, bI_01, not_and_self, true_and, and_true, not_true_eq_false, not_false_eq_true, false_imp_iff, true_imp_iff, imp_self, gPv_n, gPv_i, gPv_r, gPv_0, Option.toList_some, Option.toList_none, List.singleton_append, List.cons_append, List.nil_append, List.length_nil, List.length_cons, Nat.zero_le, Nat.reduceAdd, Nat.reduceLeDiff, or_true, true_or, false_or, or_false, and_self, and_false, false_and, implies_true, Option.some.injEq, exists_eq_left', nL, nI_add, nI_mul, nI_clamp, nI_ltI, nI_leI, nI_eq, nI_pos, nI_pos', Nat.reduceAdd, Nat.reduceMul, Nat.reducePow, sk_45 hv, sr_45_0 hv, sr_45_1 hv, sr_45_2 hv, sr_45_3 hv, sr_45_4 hv, h2, s_tb h ha (Nat.le_refl s)]
    exact K
  · simp (disch := omega) only [c_79, e_79_0, e_79_1, e_79_14, e_79_16, e_79_17, e_79_18, n10, n01, Nat.lt_irrefl, Nat.not_lt_zero, ne_eq, Nat.add_zero, Nat.one_ne_zero, Nat.zero_ne_one, Nat.reduceEqDiff, bI_T, bI_F, bI_0, bI_1, bI_01, not_and_self, true_and, and_true, not_true_eq_false, not_false_eq_true, false_imp_iff, true_imp_iff, imp_self, gPv_n, gPv_i, gPv_r, gPv_0, Option.toList_some, Option.toList_none, List.singleton_append, List.cons_append, List.nil_append, List.length_nil, List.length_cons, Nat.zero_le, Nat.reduceAdd, Nat.reduceLeDiff, or_true, true_or, false_or, or_false, and_self, and_false, false_and, implies_true, Option.some.injEq, exists_eq_left', nL, nI_add, nI_mul, nI_clamp, nI_ltI, nI_leI, nI_eq, nI_pos, nI_pos', Nat.reduceAdd, Nat.reduceMul, Nat.reducePow, c]
    exact s_lf1 h hT hr c ha K s 0 (by omega)
theorem s_fl1 {r : Nat} (h : RsX B σ s l D) (hr : r < 2 ^ s) (K : ∀ τ' x2 x3, Sm (fun a => a = l) σ τ' → TlI s l D (r + 1) 0 τ' → wp (d + 2) pr_78 Q 66 [some (.ref (B + 45)), some (.int (nI r)), x2, x3] [] τ') : ∀ m a τ x3, a + m = s → Sm (fun a => a = l) σ τ → TlI s l D r a τ → wp (d + 2) pr_78 Q 14 [some (.ref (B + 45)), some (.int (nI r)), some (.int (nI a)), x3] [] τ := by
  have s11 := h.2.2.1
  have ll := h.2.2.2.2.1.2.2.2.2
  have r4 : r < 4096 := Nat.lt_of_lt_of_le hr (Nat.le_trans (Nat.pow_le_pow_right (n := 2) (by decide) s11) (by decide))
  intro m
  induction m with
  | zero =>
    intro a τ x3 ha hS hT
    have hX := RsX_S h hS (by omega) (by rw [hS.2.2.2.2.2.2.1 _ (by omega)])
    obtain ⟨hv, h2, h3, h4, h5, h7⟩ := id hX
    have z : s ≤ a := by omega
    simp (disch := omega) only [e_78_14, e_78_15, e_78_16, e_78_19, n10, n01, Nat.lt_irrefl, Nat.not_lt_zero, ne_eq, Nat.add_zero, Nat.one_ne_zero, Nat.zero_ne_one, Nat.reduceEqDiff, bI_T, bI_F, bI_0, bI_1, bI_01, not_and_self, true_and, and_true, not_true_eq_false, not_false_eq_true, false_imp_iff, true_imp_iff, imp_self, gPv_n, gPv_i, gPv_r, gPv_0, Option.toList_some, Option.toList_none, List.singleton_append, List.cons_append, List.nil_append, List.length_nil, List.length_cons, Nat.zero_le, Nat.reduceAdd, Nat.reduceLeDiff, or_true, true_or, false_or, or_false, and_self, and_false, false_and, implies_true, Option.some.injEq, exists_eq_left', nL, nI_add, nI_mul, nI_clamp, nI_ltI, nI_leI, nI_eq, nI_pos, nI_pos', Nat.reduceAdd, Nat.reduceMul, Nat.reducePow, sk_45 hv, sr_45_0 hv, sr_45_1 hv, sr_45_2 hv, sr_45_3 hv, sr_45_4 hv, h2, z]
    refine K τ _ _ hS ?_
    intro r' a' b1 b2 b3 b4
    exact hT r' a' b1 b2 b3 (by omega)
  | succ m ih =>
    intro a τ x3 ha hS hT
    have hX := RsX_S h hS (by omega) (by rw [hS.2.2.2.2.2.2.1 _ (by omega)])
    obtain ⟨hv, h2, h3, h4, ⟨l1, l2, l3, l4, l5⟩, h7⟩ := id hX
    have z : ¬ s ≤ a := by omega
    have i1 := idx_lt hr (show a < s by omega)
    have k2 : 20 ≤ gK τ l ∧ gK τ l < 27 := by omega
    have z1 : r * s + a < gN τ l := by omega
    have z1' : ¬ gN τ l ≤ r * s + a := by omega
    rw [e_78_14]
    cases c : r.testBit a
    · simp (disch := first | omega | assumption) only [e_78_15, e_78_16, e_78_19, e_78_22, e_78_23, e_78_24, e_78_27, e_78_28, e_78_29, e_78_30, e_78_31, e_78_32, e_78_33, e_78_36, e_78_39, e_78_40, e_78_41, e_78_44, e_78_45, e_78_48, e_78_49, e_78_52, e_78_53, e_78_54, e_78_55, e_78_56, n10, n01, Nat.lt_irrefl, Nat.not_lt_zero, ne_eq, Nat.add_zero, Nat.one_ne_zero, Nat.zero_ne_one, Nat.reduceEqDiff, bI_T, bI_F, bI_0, bI_1, bI_01, not_and_self, true_and, and_true, not_true_eq_false, not_false_eq_true, false_imp_iff, true_imp_iff, imp_self, gPv_n, gPv_i, gPv_r, gPv_0, Option.toList_some, Option.toList_none, List.singleton_append, List.cons_append, List.nil_append, List.length_nil, List.length_cons, Nat.zero_le, Nat.reduceAdd, Nat.reduceLeDiff, or_true, true_or, false_or, or_false, and_self, and_false, false_and, implies_true, Option.some.injEq, exists_eq_left', nL, nI_add, nI_mul, nI_clamp, nI_ltI, nI_leI, nI_eq, nI_pos, nI_pos', Nat.reduceAdd, Nat.reduceMul, Nat.reducePow, sk_45 hv, sr_45_0 hv, sr_45_1 hv, sr_45_2 hv, sr_45_3 hv, sr_45_4 hv, h2, z, s_bitOf, nI_bit, c, Bool.false_eq_true, l1, nI_of_len, z1', Option.some.injEq, exists_eq_left']
      refine s_lf hX (fun r' a' b1 b2 b3 b4 => hT r' a' b1 b2 b3 (by omega)) hr (by omega) ?_
      simp (disch := first | omega | assumption) only [e_78_59, e_78_60, e_78_63, n10, n01, Nat.lt_irrefl, Nat.not_lt_zero, ne_eq, Nat.add_zero, Nat.one_ne_zero, Nat.zero_ne_one, Nat.reduceEqDiff, bI_T, bI_F, bI_0, bI_1, bI_01, not_and_self, true_and, and_true, not_true_eq_false, not_false_eq_true, false_imp_iff, true_imp_iff, imp_self, gPv_n, gPv_i, gPv_r, gPv_0, Option.toList_some, Option.toList_none, List.singleton_append, List.cons_append, List.nil_append, List.length_nil, List.length_cons, Nat.zero_le, Nat.reduceAdd, Nat.reduceLeDiff, or_true, true_or, false_or, or_false, and_self, and_false, false_and, implies_true, Option.some.injEq, exists_eq_left', nL, nI_add, nI_mul, nI_clamp, nI_ltI, nI_leI, nI_eq, nI_pos, nI_pos', Nat.reduceAdd, Nat.reduceMul, Nat.reducePow, l2, z1]
      refine ih (a + 1) _ _ (by omega) (Sm_I hS rfl) ?_
      intro r' a' b1 b2 b3 b4
      by_cases g : r' * s + a' = r * s + a
      · obtain ⟨g1, g2⟩ := idx_inj (show a < s by omega) b2 g
        rw [g1, g2, rI_eq]
      · rw [rI_nk g]
        refine hT r' a' b1 b2 b3 ?_
        by_cases g2 : r' = r ∧ a' = a
        · rw [g2.1, g2.2] at g; exact absurd rfl g
        · omega
    · simp (disch := first | omega | assumption) only [e_78_15, e_78_16, e_78_19, e_78_22, e_78_23, e_78_24, e_78_27, e_78_28, e_78_29, e_78_30, e_78_31, e_78_32, e_78_33, e_78_36, e_78_60, e_78_63, n10, n01, Nat.lt_irrefl, Nat.not_lt_zero, ne_eq, Nat.add_zero, Nat.one_ne_zero, Nat.zero_ne_one, Nat.reduceEqDiff, bI_T, bI_F, bI_0, bI_1, bI_01, not_and_self, true_and, and_true, not_true_eq_false, not_false_eq_true, false_imp_iff, true_imp_iff, imp_self, gPv_n, gPv_i, gPv_r, gPv_0, Option.toList_some, Option.toList_none, List.singleton_append, List.cons_append, List.nil_append, List.length_nil, List.length_cons, Nat.zero_le, Nat.reduceAdd, Nat.reduceLeDiff, or_true, true_or, false_or, or_false, and_self, and_false, false_and, implies_true, Option.some.injEq, exists_eq_left', nL, nI_add, nI_mul, nI_clamp, nI_ltI, nI_leI, nI_eq, nI_pos, nI_pos', Nat.reduceAdd, Nat.reduceMul, Nat.reducePow, sk_45 hv, sr_45_0 hv, sr_45_1 hv, sr_45_2 hv, sr_45_3 hv, sr_45_4 hv, h2, z, s_bitOf, nI_bit, c]
      refine ih (a + 1) τ _ (by omega) hS ?_
      intro r' a' b1 b2 b3 b4
      refine hT r' a' b1 b2 b3 ?_
      by_cases g2 : r' = r ∧ a' = a
      · rw [g2.1, g2.2, c] at b3; exact absurd b3 (by simp)
      · omega
theorem s_fl2 (h : RsX B σ s l D) (K : ∀ τ', Sm (fun a => a = l) σ τ' → TlI s l D (2 ^ s) 0 τ' → Q none τ') : ∀ m r τ x2 x3, r + m = 2 ^ s → Sm (fun a => a = l) σ τ → TlI s l D r 0 τ → wp (d + 2) pr_78 Q 2 [some (.ref (B + 45)), some (.int (nI r)), x2, x3] [] τ := by
  have s11 := h.2.2.1
  have ll := h.2.2.2.2.1.2.2.2.2
  have p12 : 2 ^ s ≤ 2048 := Nat.pow_le_pow_right (n := 2) (by decide) s11
  intro m
  induction m with
  | zero =>
    intro r τ x2 x3 hr hS hT
    have hX := RsX_S h hS (by omega) (by rw [hS.2.2.2.2.2.2.1 _ (by omega)])
    obtain ⟨hv, h2, h3, h4, h5, h7⟩ := id hX
    have e : r = 2 ^ s := by omega
    subst e
    simp (disch := omega) only [e_78_2, e_78_3, e_78_4, e_78_5, e_78_8, e_78_9, e_78_72, n10, n01, Nat.lt_irrefl, Nat.not_lt_zero, ne_eq, Nat.add_zero, Nat.one_ne_zero, Nat.zero_ne_one, Nat.reduceEqDiff, bI_T, bI_F, bI_0, bI_1, bI_01, not_and_self, true_and, and_true, not_true_eq_false, not_false_eq_true, false_imp_iff, true_imp_iff, imp_self, gPv_n, gPv_i, gPv_r, gPv_0, Option.toList_some, Option.toList_none, List.singleton_append, List.cons_append, List.nil_append, List.length_nil, List.length_cons, Nat.zero_le, Nat.reduceAdd, Nat.reduceLeDiff, or_true, true_or, false_or, or_false, and_self, and_false, false_and, implies_true, Option.some.injEq, exists_eq_left', nL, nI_add, nI_mul, nI_clamp, nI_ltI, nI_leI, nI_eq, nI_pos, nI_pos', Nat.reduceAdd, Nat.reduceMul, Nat.reducePow, sk_45 hv, sr_45_0 hv, sr_45_1 hv, sr_45_2 hv, sr_45_3 hv, sr_45_4 hv, h2, nI_shl, Nat.one_mul, Nat.le_refl]
    exact K τ hS hT
  | succ m ih =>
    intro r τ x2 x3 hr hS hT
    have hX := RsX_S h hS (by omega) (by rw [hS.2.2.2.2.2.2.1 _ (by omega)])
    obtain ⟨hv, h2, h3, h4, h5, h7⟩ := id hX
    have z : ¬ 2 ^ s ≤ r := by omega
    rw [e_78_2]
    simp (disch := omega) only [e_78_3, e_78_4, e_78_5, e_78_8, e_78_9, e_78_12, e_78_13, n10, n01, Nat.lt_irrefl, Nat.not_lt_zero, ne_eq, Nat.add_zero, Nat.one_ne_zero, Nat.zero_ne_one, Nat.reduceEqDiff, bI_T, bI_F, bI_0, bI_1, bI_01, not_and_self, true_and, and_true, not_true_eq_false, not_false_eq_true, false_imp_iff, true_imp_iff, imp_self, gPv_n, gPv_i, gPv_r, gPv_0, Option.toList_some, Option.toList_none, List.singleton_append, List.cons_append, List.nil_append, List.length_nil, List.length_cons, Nat.zero_le, Nat.reduceAdd, Nat.reduceLeDiff, or_true, true_or, false_or, or_false, and_self, and_false, false_and, implies_true, Option.some.injEq, exists_eq_left', nL, nI_add, nI_mul, nI_clamp, nI_ltI, nI_leI, nI_eq, nI_pos, nI_pos', Nat.reduceAdd, Nat.reduceMul, Nat.reducePow, sk_45 hv, sr_45_0 hv, sr_45_1 hv, sr_45_2 hv, sr_45_3 hv, sr_45_4 hv, h2, nI_shl, Nat.one_mul, z]
    refine s_fl1 hX (by omega) ?_ s 0 τ _ (by omega) (Sm_refl _ _) hT
    intro τ' x2 x3 hS' hT'
    simp (disch := omega) only [e_78_66, e_78_69, n10, n01, Nat.lt_irrefl, Nat.not_lt_zero, ne_eq, Nat.add_zero, Nat.one_ne_zero, Nat.zero_ne_one, Nat.reduceEqDiff, bI_T, bI_F, bI_0, bI_1, bI_01, not_and_self, true_and, and_true, not_true_eq_false, not_false_eq_true, false_imp_iff, true_imp_iff, imp_self, gPv_n, gPv_i, gPv_r, gPv_0, Option.toList_some, Option.toList_none, List.singleton_append, List.cons_append, List.nil_append, List.length_nil, List.length_cons, Nat.zero_le, Nat.reduceAdd, Nat.reduceLeDiff, or_true, true_or, false_or, or_false, and_self, and_false, false_and, implies_true, Option.some.injEq, exists_eq_left', nL, nI_add]
    exact ih (r + 1) τ' _ _ (by omega) (Sm_trans hS hS') hT'
theorem s_fillLeast (h : RsX B σ s l D) (K : ∀ τ', Sm (fun a => a = l) σ τ' → TlI s l D (2 ^ s) 0 τ' → Q none τ') : wc (d + 3) 78 [.ref (B + 45)] σ Q := by
  simp (disch := omega) only [c_78, e_78_0, e_78_1, n10, n01, Nat.lt_irrefl, Nat.not_lt_zero, ne_eq, Nat.add_zero, Nat.one_ne_zero, Nat.zero_ne_one, Nat.reduceEqDiff, bI_T, bI_F, bI_0, bI_1, bI_01, not_and_self, true_and, and_true, not_true_eq_false, not_false_eq_true, false_imp_iff, true_imp_iff, imp_self, gPv_n, gPv_i, gPv_r, gPv_0, Option.toList_some, Option.toList_none, List.singleton_append, List.cons_append, List.nil_append, List.length_nil, List.length_cons, Nat.zero_le, Nat.reduceAdd, Nat.reduceLeDiff, or_true, true_or, false_or, or_false, and_self, and_false, false_and, implies_true, Option.some.injEq, exists_eq_left', nL]
  exact s_fl2 h K (2 ^ s) 0 σ _ _ (by omega) (Sm_refl _ _) (fun r' a' _ _ _ z => absurd z (by omega))
theorem s_ne1 {r a j : Nat} (h : RsX B σ s l D) (hT : TlI s l D (2 ^ s) 0 σ) (hr : r < 2 ^ s) (ha : a ≤ s) (K : Q (some (.int (nI j))) σ) : ∀ m k, k + m = s → fo (nxB D s s r a) m k = some j → wp (d + 1) pr_81 Q 10 [some (.ref (B + 45)), some (.int (nI a)), some (.int (nI r)), some (.int (nI (lr D s s r a))), some (.int (nI k))] [] σ := by
  obtain ⟨hv, h2, h3, h4, h5, h7⟩ := id h
  have r4 : r < 4096 := Nat.lt_of_lt_of_le hr (Nat.le_trans (Nat.pow_le_pow_right (n := 2) (by decide) h3) (by decide))
  have b0 := lr_le (hm := s) (n := s) (td := r) (a := a) h7
  intro m
  induction m with
  | zero => intro k hk q; exact absurd q (by simp [fo])
  | succ m ih =>
    intro k hk q
    have z : ¬ s ≤ k := by omega
    rw [fo] at q
    rw [e_81_10]
    cases c : r.testBit k
    · rw [if_neg (by rw [nxB, c]; simp)] at q
      simp (disch := omega) only [e_81_12, e_81_13, e_81_16, e_81_19, e_81_20, e_81_22, e_81_25, e_81_26, e_81_58, e_81_61, n10, n01, Nat.lt_irrefl, Nat.not_lt_zero, ne_eq, Nat.add_zero, Nat.one_ne_zero, Nat.zero_ne_one, Nat.reduceEqDiff, bI_T, bI_F, bI_0, bI_1, bI_01, not_and_self, true_and, and_true, not_true_eq_false, not_false_eq_true, false_imp_iff, true_imp_iff, imp_self, gPv_n, gPv_i, gPv_r, gPv_0, Option.toList_some, Option.toList_none, List.singleton_append, List.cons_append, List.nil_append, List.length_nil, List.length_cons, Nat.zero_le, Nat.reduceAdd, Nat.reduceLeDiff, or_true, true_or, false_or, or_false, and_self, and_false, false_and, implies_true, Option.some.injEq, exists_eq_left', nL, nI_add, nI_mul, nI_clamp, nI_ltI, nI_leI, nI_eq, nI_pos, nI_pos', Nat.reduceAdd, Nat.reduceMul, Nat.reducePow, sk_45 hv, sr_45_0 hv, sr_45_1 hv, sr_45_2 hv, sr_45_3 hv, sr_45_4 hv, h2, z, s_bitOf, nI_bit, c, Bool.false_eq_true]
      exact ih (k + 1) (by omega) q
    · have lt := ad_lt2 c
      have la := hT (ad r (2 ^ k)) k (by omega) (by omega) (by rw [tb_ad, Nat.testBit_two_pow_self]; simp) (Or.inl (by omega))
      have b1 := h7 a k
      have b2 := lr_le (hm := s) (n := s) (td := ad r (2 ^ k)) (a := k) h7
      by_cases c2 : D a k + lr D s s (ad r (2 ^ k)) k = lr D s s r a
      · rw [if_pos (by rw [nxB, c, Bool.true_and, decide_eq_true_eq]; exact c2)] at q
        have q : k = j := by simpa using q
        subst q
        simp (disch := omega) only [e_81_12, e_81_13, e_81_16, e_81_19, e_81_20, e_81_22, e_81_25, e_81_26, e_81_29, e_81_30, e_81_31, e_81_33, e_81_36, e_81_37, e_81_38, e_81_39, e_81_41, e_81_42, e_81_43, e_81_44, e_81_45, e_81_47, e_81_50, e_81_51, e_81_52, e_81_55, e_81_57, n10, n01, Nat.lt_irrefl, Nat.not_lt_zero, ne_eq, Nat.add_zero, Nat.one_ne_zero, Nat.zero_ne_one, Nat.reduceEqDiff, bI_T, bI_F, bI_0, bI_1, bI_01, not_and_self, true_and, and_true, not_true_eq_false, not_false_eq_true, false_imp_iff, true_imp_iff, imp_self, gPv_n, gPv_i, gPv_r, gPv_0, Option.toList_some, Option.toList_none, List.singleton_append, List.cons_append, List.nil_append, List.length_nil, List.length_cons, Nat.zero_le, Nat.reduceAdd, Nat.reduceLeDiff, or_true, true_or, false_or, or_false, and_self, and_false, false_and, implies_true, Option.some.injEq, exists_eq_left', nL, nI_add, nI_mul, nI_clamp, nI_ltI, nI_leI, nI_eq, nI_pos, nI_pos', Nat.reduceAdd, Nat.reduceMul, Nat.reducePow, sk_45 hv, sr_45_0 hv, sr_45_1 hv, sr_45_2 hv, sr_45_3 hv, sr_45_4 hv, h2, z, s_bitOf, nI_bit, c, s_tb h ha (show k ≤ s by omega), nI_shl, Nat.one_mul, nI_ad, s_la h (show ad r (2 ^ k) < 2 ^ s by omega) (show k < s by omega), la, c2]
        exact K
      · rw [if_neg (by rw [nxB, c, Bool.true_and, decide_eq_true_eq]; exact c2)] at q
        simp (disch := omega) only [e_81_12, e_81_13, e_81_16, e_81_19, e_81_20, e_81_22, e_81_25, e_81_26, e_81_29, e_81_30, e_81_31, e_81_33, e_81_36, e_81_37, e_81_38, e_81_39, e_81_41, e_81_42, e_81_43, e_81_44, e_81_45, e_81_47, e_81_50, e_81_51, e_81_52, e_81_55, e_81_57, e_81_58, e_81_61, n10, n01, Nat.lt_irrefl, Nat.not_lt_zero, ne_eq, Nat.add_zero, Nat.one_ne_zero, Nat.zero_ne_one, Nat.reduceEqDiff, bI_T, bI_F, bI_0, bI_1, bI_01, not_and_self, true_and, and_true, not_true_eq_false, not_false_eq_true, false_imp_iff, true_imp_iff, imp_self, gPv_n, gPv_i, gPv_r, gPv_0, Option.toList_some, Option.toList_none, List.singleton_append, List.cons_append, List.nil_append, List.length_nil, List.length_cons, Nat.zero_le, Nat.reduceAdd, Nat.reduceLeDiff, or_true, true_or, false_or, or_false, and_self, and_false, false_and, implies_true, Option.some.injEq, exists_eq_left', nL, nI_add, nI_mul, nI_clamp, nI_ltI, nI_leI, nI_eq, nI_pos, nI_pos', Nat.reduceAdd, Nat.reduceMul, Nat.reducePow, sk_45 hv, sr_45_0 hv, sr_45_1 hv, sr_45_2 hv, sr_45_3 hv, sr_45_4 hv, h2, z, s_bitOf, nI_bit, c, s_tb h ha (show k ≤ s by omega), nI_shl, Nat.one_mul, nI_ad, s_la h (show ad r (2 ^ k) < 2 ^ s by omega) (show k < s by omega), la, c2]
        exact ih (k + 1) (by omega) q
theorem TlI_w {r a r' : Nat} {τ : gS} (h : TlI s l D r' 0 τ) (hr : r ≤ r') : TlI s l D r 0 τ := fun x y b1 b2 b3 b4 => h x y b1 b2 b3 (by omega)
theorem s_next2 {r a j : Nat} (h : RsX B σ s l D) (hT : TlI s l D (2 ^ s) 0 σ) (hr : r < 2 ^ s) (ha : a ≤ s) (q : fo (nxB D s s r a) s 0 = some j) (K : Q (some (.int (nI j))) σ) : wc (d + 3) 81 [.ref (B + 45), .int (nI a), .int (nI r)] σ Q := by
  obtain ⟨hv, h2, h3, h4, h5, h7⟩ := id h
  simp (disch := omega) only [c_81, e_81_0, e_81_1, e_81_2, e_81_3, n10, n01, Nat.lt_irrefl, Nat.not_lt_zero, ne_eq, Nat.add_zero, Nat.one_ne_zero, Nat.zero_ne_one, Nat.reduceEqDiff, bI_T, bI_F, bI_0, bI_1, bI_01, not_and_self, true_and, and_true, not_true_eq_false, not_false_eq_true, false_imp_iff, true_imp_iff, imp_self, gPv_n, gPv_i, gPv_r, gPv_0, Option.toList_some, Option.toList_none, List.singleton_append, List.cons_append, List.nil_append, List.length_nil, List.length_cons, Nat.zero_le, Nat.reduceAdd, Nat.reduceLeDiff, or_true, true_or, false_or, or_false, and_self, and_false, false_and, implies_true, Option.some.injEq, exists_eq_left', nL, sk_45 hv, sr_45_0 hv, sr_45_1 hv, sr_45_2 hv, sr_45_3 hv, sr_45_4 hv]
  refine s_lf (d := d) h (TlI_w (a := 0) hT (by omega)) hr ha ?_
  simp (disch := omega) only [e_81_6, e_81_7, e_81_8, n10, n01, Nat.lt_irrefl, Nat.not_lt_zero, ne_eq, Nat.add_zero, Nat.one_ne_zero, Nat.zero_ne_one, Nat.reduceEqDiff, bI_T, bI_F, bI_0, bI_1, bI_01, not_and_self, true_and, and_true, not_true_eq_false, not_false_eq_true, false_imp_iff, true_imp_iff, imp_self, gPv_n, gPv_i, gPv_r, gPv_0, Option.toList_some, Option.toList_none, List.singleton_append, List.cons_append, List.nil_append, List.length_nil, List.length_cons, Nat.zero_le, Nat.reduceAdd, Nat.reduceLeDiff, or_true, true_or, false_or, or_false, and_self, and_false, false_and, implies_true, Option.some.injEq, exists_eq_left', nL]
  exact s_ne1 h hT hr ha K s 0 (by omega) q
theorem s_wk1 {e : Nat → Nat} (h : RsX B σ s l D) (hT : TlI s l D (2 ^ s) 0 σ) (hR : ∀ j, j < s → gI σ (B + 46) j = nI (e j)) (K : ∀ τ', Sm (fun a => a = B + 47) σ τ' → (∀ j, j < s → gI τ' (B + 47) j = nI (e (sp D s s (j + 1) (2 ^ s - 1) s))) → Q none τ') : ∀ m i r a τ x4, i + m = s → r < 2 ^ s → a ≤ s → cn (fun j => r.testBit j) s 0 = m → (m ≠ 0 → lr D s s r a < 1000000) → (∀ t, sp D s s t r a = sp D s s (i + t) (2 ^ s - 1) s) → Sm (fun a => a = B + 47) σ τ → (∀ j, j < i → gI τ (B + 47) j = nI (e (sp D s s (j + 1) (2 ^ s - 1) s))) → wp (d + 3) pr_80 Q 37 [some (.ref (B + 45)), some (.int (nI r)), some (.int (nI a)), some (.int (nI i)), x4] [] τ := by
  have s11 := h.2.2.1
  have ll := h.2.2.2.2.1.2.2.2.2
  have p12 : 2 ^ s ≤ 2048 := Nat.pow_le_pow_right (n := 2) (by decide) s11
  intro m
  induction m with
  | zero =>
    intro i r a τ x4 hi hr ha hc hl hsp hS hO
    have hX := RsX_S h hS (by omega) (by rw [hS.2.2.2.2.2.2.1 _ (by omega)])
    obtain ⟨hv, h2, h3, h4, h5, h7⟩ := id hX
    have z : s ≤ i := by omega
    simp (disch := omega) only [e_80_37, e_80_38, e_80_39, e_80_42, e_80_99, n10, n01, Nat.lt_irrefl, Nat.not_lt_zero, ne_eq, Nat.add_zero, Nat.one_ne_zero, Nat.zero_ne_one, Nat.reduceEqDiff, bI_T, bI_F, bI_0, bI_1, bI_01, not_and_self, true_and, and_true, not_true_eq_false, not_false_eq_true, false_imp_iff, true_imp_iff, imp_self, gPv_n, gPv_i, gPv_r, gPv_0, Option.toList_some, Option.toList_none, List.singleton_append, List.cons_append, List.nil_append, List.length_nil, List.length_cons, Nat.zero_le, Nat.reduceAdd, Nat.reduceLeDiff, or_true, true_or, false_or, or_false, and_self, and_false, false_and, implies_true, Option.some.injEq, exists_eq_left', nL, nI_add, nI_mul, nI_clamp, nI_ltI, nI_leI, nI_eq, nI_pos, nI_pos', Nat.reduceAdd, Nat.reduceMul, Nat.reducePow, sk_45 hv, sr_45_0 hv, sr_45_1 hv, sr_45_2 hv, sr_45_3 hv, sr_45_4 hv, h2, z]
    exact K τ hS (fun j hj => hO j (by omega))
  | succ m ih =>
    intro i r a τ x4 hi hr ha hc hl hsp hS hO
    have hX := RsX_S h hS (by omega) (by rw [hS.2.2.2.2.2.2.1 _ (by omega)])
    obtain ⟨hv, h2, h3, h4, h5, h7⟩ := id hX
    have z : ¬ s ≤ i := by omega
    have r0 : r ≠ 0 := by
      intro z
      rw [z, cn_0 (fun j _ _ => by simp)] at hc
      omega
    obtain ⟨j, q, hj, hb, hd, hl2⟩ := nx_ex r0 (hl (by omega))
    have lt := ad_lt2 hb
    have T1 : TlI s l D (2 ^ s) 0 τ := by
      intro r' a' b1 b2 b3 b4
      rw [hS.2.2.2.2.2.2.1 _ (by omega)]
      exact hT r' a' b1 b2 b3 b4
    have j12 : j < 12 := by omega
    have j11 : j ≤ 11 := by omega
    have i12 : i < 12 := by omega
    have r46 : gI τ (B + 46) j = nI (e j) := by rw [hS.2.2.2.2.2.2.1 _ (by omega)]; exact hR j hj
    have hc2 : cn (fun k => (ad r (2 ^ j)).testBit k) s 0 = m := by
      have : cn (fun k => r.testBit k) s 0 = cn (fun k => (ad r (2 ^ j)).testBit k) s 0 + 1 := by
        refine cn_set (h := j) ?_ ?_ hb s 0 (by omega) (by omega)
        · intro k hk
          rw [tb_ad, Nat.testBit_two_pow]
          have : ¬ j = k := fun z => hk z.symm
          simp [this]
        · rw [tb_ad, Nat.testBit_two_pow_self]
          simp
      omega
    have sp1' : sp D s s 1 r a = j := by rw [sp_s q]; rfl
    rw [e_80_37]
    simp (disch := omega) only [e_80_38, e_80_39, e_80_42, e_80_45, e_80_46, e_80_47, e_80_48, n10, n01, Nat.lt_irrefl, Nat.not_lt_zero, ne_eq, Nat.add_zero, Nat.one_ne_zero, Nat.zero_ne_one, Nat.reduceEqDiff, bI_T, bI_F, bI_0, bI_1, bI_01, not_and_self, true_and, and_true, not_true_eq_false, not_false_eq_true, false_imp_iff, true_imp_iff, imp_self, gPv_n, gPv_i, gPv_r, gPv_0, Option.toList_some, Option.toList_none, List.singleton_append, List.cons_append, List.nil_append, List.length_nil, List.length_cons, Nat.zero_le, Nat.reduceAdd, Nat.reduceLeDiff, or_true, true_or, false_or, or_false, and_self, and_false, false_and, implies_true, Option.some.injEq, exists_eq_left', nL, nI_add, nI_mul, nI_clamp, nI_ltI, nI_leI, nI_eq, nI_pos, nI_pos', Nat.reduceAdd, Nat.reduceMul, Nat.reducePow, sk_45 hv, sr_45_0 hv, sr_45_1 hv, sr_45_2 hv, sr_45_3 hv, sr_45_4 hv, h2, z]
    refine s_next2 (d := d) hX T1 hr ha q ?_
    simp (disch := omega) only [e_80_51, e_80_53, e_80_54, e_80_57, e_80_58, e_80_60, e_80_61, e_80_63, e_80_66, e_80_69, e_80_70, e_80_73, e_80_75, e_80_76, e_80_79, e_80_80, e_80_81, e_80_82, e_80_83, e_80_85, e_80_86, e_80_87, e_80_88, e_80_89, e_80_90, e_80_92, e_80_93, e_80_96, n10, n01, Nat.lt_irrefl, Nat.not_lt_zero, ne_eq, Nat.add_zero, Nat.one_ne_zero, Nat.zero_ne_one, Nat.reduceEqDiff, bI_T, bI_F, bI_0, bI_1, bI_01, not_and_self, true_and, and_true, not_true_eq_false, not_false_eq_true, false_imp_iff, true_imp_iff, imp_self, gPv_n, gPv_i, gPv_r, gPv_0, Option.toList_some, Option.toList_none, List.singleton_append, List.cons_append, List.nil_append, List.length_nil, List.length_cons, Nat.zero_le, Nat.reduceAdd, Nat.reduceLeDiff, or_true, true_or, false_or, or_false, and_self, and_false, false_and, implies_true, Option.some.injEq, exists_eq_left', nL, nI_add, nI_mul, nI_clamp, nI_ltI, nI_leI, nI_eq, nI_pos, nI_pos', Nat.reduceAdd, Nat.reduceMul, Nat.reducePow, sk_45 hv, sr_45_0 hv, sr_45_1 hv, sr_45_2 hv, sr_45_3 hv, sr_45_4 hv, sk_46 hv, sn_46 hv, sk_47 hv, sn_47 hv, s_within, j11, j12, i12, r46, nI_shl, Nat.one_mul, nI_ad]
    refine ih (i + 1) (ad r (2 ^ j)) j _ _ (by omega) (by omega) (by omega) hc2 (fun _ => hl2) ?_ (Sm_I hS rfl) ?_
    · intro t
      have := hsp (t + 1)
      rw [sp_s q] at this
      rw [this]
      congr 1
      omega
    · intro k hk
      by_cases g : k = i
      · rw [g, rI_eq, ← hsp 1, sp1']
      · rw [rI_nk g]
        exact hO k (by omega)
theorem cn_fullm {s : Nat} : cn (fun j => (2 ^ s - 1).testBit j) s 0 = s := by
  have : ∀ m i, i + m ≤ s → cn (fun j => (2 ^ s - 1).testBit j) m i = m := by
    intro m
    induction m with
    | zero => intro i _; rfl
    | succ m ih =>
      intro i hi
      rw [cn, if_pos (by rw [Nat.testBit_two_pow_sub_one]; simp; omega), ih (i + 1) (by omega)]
      omega
  exact this s 0 (by omega)
theorem s_walk {e : Nat → Nat} (h : RsX B σ s l D) (hT : TlI s l D (2 ^ s) 0 σ) (hR : ∀ j, j < s → gI σ (B + 46) j = nI (e j)) (hl : s ≠ 0 → lr D s s (2 ^ s - 1) s < 1000000) (K : ∀ τ', Sm (fun a => a = B + 45 ∨ a = B + 47) σ τ' → (∀ j, j ≠ 11 → gI τ' (B + 45) j = gI σ (B + 45) j) → gI τ' (B + 45) 11 = nI (if s = 0 then 0 else lr D s s (2 ^ s - 1) s) → (∀ j, j < s → gI τ' (B + 47) j = nI (e (sp D s s (j + 1) (2 ^ s - 1) s))) → Q none τ') : wc (d + 4) 80 [.ref (B + 45)] σ Q := by
  obtain ⟨hv, h2, h3, h4, h5, h7⟩ := id h
  have ll := h5.2.2.2.2
  have p12 : 2 ^ s ≤ 2048 := Nat.pow_le_pow_right (n := 2) (by decide) h3
  have p1 : 1 ≤ 2 ^ s := Nat.pow_pos (by decide)
  have go : ∀ x : Int32, x = nI (if s = 0 then 0 else lr D s s (2 ^ s - 1) s) → ∀ x3 x4, wp (d + 3) pr_80 Q 35 [some (.ref (B + 45)), some (.int (nI (2 ^ s - 1))), some (.int (nI s)), x3, x4] [] (sI σ (B + 45) 11 x) := by
    intro x hx x3 x4
    simp (disch := omega) only [e_80_35, e_80_36, n10, n01, Nat.lt_irrefl, Nat.not_lt_zero, ne_eq, Nat.add_zero, Nat.one_ne_zero, Nat.zero_ne_one, Nat.reduceEqDiff, bI_T, bI_F, bI_0, bI_1, bI_01, not_and_self, true_and, and_true, not_true_eq_false, not_false_eq_true, false_imp_iff, true_imp_iff, imp_self, gPv_n, gPv_i, gPv_r, gPv_0, Option.toList_some, Option.toList_none, List.singleton_append, List.cons_append, List.nil_append, List.length_nil, List.length_cons, Nat.zero_le, Nat.reduceAdd, Nat.reduceLeDiff, or_true, true_or, false_or, or_false, and_self, and_false, false_and, implies_true, Option.some.injEq, exists_eq_left', nL]
    have S1 : Sm (fun a => a = B + 45 ∨ a = B + 47) σ (sI σ (B + 45) 11 x) := Sm_I (Sm_refl _ _) (Or.inl rfl)
    have X1 : RsX B (sI σ (B + 45) 11 x) s l D := RsX_S h S1 (by omega) (by rw [rI_nk (by omega)])
    refine s_wk1 (e := e) (l := l) (D := D) X1 ?_ ?_ ?_ s 0 (2 ^ s - 1) s _ _ (by omega) (by omega) (Nat.le_refl _) cn_fullm hl (fun t => by rw [Nat.zero_add]) (Sm_refl _ _) (fun j hj => absurd hj (by omega))
    · intro r' a' b1 b2 b3 b4
      rw [rI_ne (by omega)]
      exact hT r' a' b1 b2 b3 b4
    · intro j hj
      rw [rI_ne (by omega)]
      exact hR j hj
    · intro τ' hS' hO
      refine K τ' (Sm_trans S1 (Sm_mono hS' (fun a ha => Or.inr ha))) (fun j hj => ?_) ?_ hO
      · rw [hS'.2.2.2.2.2.2.1 _ (by omega), rI_nk hj]
      · rw [hS'.2.2.2.2.2.2.1 _ (by omega), rI_eq, hx]
  by_cases c : s = 0
  · subst c
    have go := go (nI 0) (by rw [if_pos rfl])
    simp (disch := omega) only [c_80, e_80_0, e_80_1, e_80_2, e_80_5, e_80_6, e_80_7, e_80_8, e_80_9, e_80_10, e_80_13, e_80_14, e_80_15, e_80_16, e_80_19, e_80_22, e_80_23, e_80_32, n10, n01, Nat.lt_irrefl, Nat.not_lt_zero, ne_eq, Nat.add_zero, Nat.one_ne_zero, Nat.zero_ne_one, Nat.reduceEqDiff, bI_T, bI_F, bI_0, bI_1, bI_01, not_and_self, true_and, and_true, not_true_eq_false, not_false_eq_true, false_imp_iff, true_imp_iff, imp_self, gPv_n, gPv_i, gPv_r, gPv_0, Option.toList_some, Option.toList_none, List.singleton_append, List.cons_append, List.nil_append, List.length_nil, List.length_cons, Nat.zero_le, Nat.reduceAdd, Nat.reduceLeDiff, or_true, true_or, false_or, or_false, and_self, and_false, false_and, implies_true, Option.some.injEq, exists_eq_left', nL, nI_add, nI_mul, nI_clamp, nI_ltI, nI_leI, nI_eq, nI_pos, nI_pos', Nat.reduceAdd, Nat.reduceMul, Nat.reducePow, sk_45 hv, sr_45_0 hv, sr_45_1 hv, sr_45_2 hv, sr_45_3 hv, sr_45_4 hv, h2, nI_shl, Nat.one_mul, nI_sub]
    exact go _ _
  · simp (disch := omega) only [c_80, e_80_0, e_80_1, e_80_2, e_80_5, e_80_6, e_80_7, e_80_8, e_80_9, e_80_10, e_80_13, e_80_14, e_80_15, e_80_16, e_80_19, e_80_22, e_80_23, e_80_26, e_80_27, e_80_28, e_80_29, n10, n01, Nat.lt_irrefl, Nat.not_lt_zero, ne_eq, Nat.add_zero, Nat.one_ne_zero, Nat.zero_ne_one, Nat.reduceEqDiff, bI_T, bI_F, bI_0, bI_1, bI_01, not_and_self, true_and, and_true, not_true_eq_false, not_false_eq_true, false_imp_iff, true_imp_iff, imp_self, gPv_n, gPv_i, gPv_r, gPv_0, Option.toList_some, Option.toList_none, List.singleton_append, List.cons_append, List.nil_append, List.length_nil, List.length_cons, Nat.zero_le, Nat.reduceAdd, Nat.reduceLeDiff, or_true, true_or, false_or, or_false, and_self, and_false, false_and, implies_true, Option.some.injEq, exists_eq_left', nL, nI_add, nI_mul, nI_clamp, nI_ltI, nI_leI, nI_eq, nI_pos, nI_pos', Nat.reduceAdd, Nat.reduceMul, Nat.reducePow, sk_45 hv, sr_45_0 hv, sr_45_1 hv, sr_45_2 hv, sr_45_3 hv, sr_45_4 hv, h2, nI_shl, Nat.one_mul, nI_sub, c]
    refine s_lf (d := d + 1) h (TlI_w (a := 0) hT (by omega)) (by omega) (Nat.le_refl _) ?_
    simp (disch := omega) only [e_80_32, n10, n01, Nat.lt_irrefl, Nat.not_lt_zero, ne_eq, Nat.add_zero, Nat.one_ne_zero, Nat.zero_ne_one, Nat.reduceEqDiff, bI_T, bI_F, bI_0, bI_1, bI_01, not_and_self, true_and, and_true, not_true_eq_false, not_false_eq_true, false_imp_iff, true_imp_iff, imp_self, gPv_n, gPv_i, gPv_r, gPv_0, Option.toList_some, Option.toList_none, List.singleton_append, List.cons_append, List.nil_append, List.length_nil, List.length_cons, Nat.zero_le, Nat.reduceAdd, Nat.reduceLeDiff, or_true, true_or, false_or, or_false, and_self, and_false, false_and, implies_true, Option.some.injEq, exists_eq_left', nL, sk_45 hv, sr_45_0 hv, sr_45_1 hv, sr_45_2 hv, sr_45_3 hv, sr_45_4 hv]
    exact go _ (by rw [if_neg c]) _ _
end
