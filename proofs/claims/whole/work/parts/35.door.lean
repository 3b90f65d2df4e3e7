/-! doors -/
theorem Dr_v {A : Nat → Int32} (w : Wd A) {a b : Nat} (ha : a < 12) (hb : b < 12) : A (72 + 12 * a + b) = nI (if Dr A a b = true then 1 else 0) := by
  rcases (w.1 a b ha hb).1 with h | h
  · have : Dr A a b = false := by simp [Dr, h, nI_eq]
    rw [this, h]; rfl
  · have : Dr A a b = true := by simp [Dr, h.1]
    rw [this, h.1]; rfl
theorem Dr_s {A : Nat → Int32} (w : Wd A) {a b : Nat} (ha : a < 12) (hb : b < 12) : Dr A a b = Dr A b a := by simp only [Dr, (w.1 a b ha hb).2]
theorem Dr_n {A : Nat → Int32} (w : Wd A) {a b : Nat} (ha : a < 12) (hb : b < 12) (h : Dr A a b = true) : a < hn A ∧ b < hn A ∧ a ≠ b := by
  rcases (w.1 a b ha hb).1 with h' | h'
  · simp [Dr, h', nI_eq] at h
  · exact h'.2
theorem drc_le (A : Nat → Int32) (a b : Nat) : drc A a b ≤ b := by
  induction b with
  | zero => exact Nat.le_refl 0
  | succ b ih =>
    simp only [drc]
    split <;> omega
theorem dcs_le (A : Nat → Int32) (n : Nat) (hn : n ≤ 12) : dcs A n ≤ 12 * n := by
  induction n with
  | zero => exact Nat.le_refl 0
  | succ n ih =>
    simp only [dcs]
    have := ih (by omega)
    have := drc_le A n n
    omega
theorem t_dm1 {d : Nat} {Q : Option Value → gS → Prop} {B a : Nat} {σ : gS} (h : IvS B σ) (w : Wd (gI σ (B + 56))) (ha : a < 12) (c : Nat) (hc : c ≤ 200) : ∀ (m b : Nat), b + m = a → (wp d pr_188 Q 14 [some (.ref (B + 54)), some (.int (nI (c + drc (gI σ (B + 56)) a b))), some (.int (nI a)), some (.int (nI b))] [] σ ↔ wp d pr_188 Q 42 [some (.ref (B + 54)), some (.int (nI (c + drc (gI σ (B + 56)) a a))), some (.int (nI a)), some (.int (nI a))] [] σ) := by
  intro m
  induction m with
  | zero =>
    intro b hb
    have : b = a := by omega
    subst this
    simp (disch := omega) only [e_188_14, e_188_15, e_188_16, n10, n01, Nat.not_lt_zero, ne_eq, Nat.add_zero, Nat.one_ne_zero, Nat.zero_ne_one, Nat.reduceEqDiff, bI_T, bI_F, bI_0, bI_1, bI_01, not_and_self, true_and, and_true, not_true_eq_false, not_false_eq_true, false_imp_iff, true_imp_iff, imp_self, gPv_n, gPv_i, gPv_r, gPv_0, Option.toList_some, Option.toList_none, List.singleton_append, List.cons_append, List.nil_append, List.length_nil, List.length_cons, Nat.zero_le, Nat.reduceAdd, Nat.reduceLeDiff, or_true, true_or, false_or, or_false, and_self, and_false, false_and, implies_true, Option.some.injEq, exists_eq_left', nL, nI_add, nI_mul, nI_clamp, nI_ltI, nI_leI, nI_eq, nI_pos, nI_pos', Nat.reduceAdd, Nat.reduceMul, Nat.reducePow, Nat.le_refl]
  | succ m ih =>
    intro b hb
    have z1 : ¬ a ≤ b := by omega
    have z2 := drc_le (gI σ (B + 56)) a b
    have z3 : 72 + 12 * a + b < 5062 := by omega
    rw [e_188_14]
    simp (disch := omega) only [e_188_15, e_188_16, e_188_19, e_188_20, e_188_21, e_188_24, e_188_26, e_188_28, e_188_29, e_188_30, e_188_31, e_188_32, e_188_33, e_188_34, e_188_35, e_188_36, e_188_39, n10, n01, Nat.not_lt_zero, ne_eq, Nat.add_zero, Nat.one_ne_zero, Nat.zero_ne_one, Nat.reduceEqDiff, bI_T, bI_F, bI_0, bI_1, bI_01, not_and_self, true_and, and_true, not_true_eq_false, not_false_eq_true, false_imp_iff, true_imp_iff, imp_self, gPv_n, gPv_i, gPv_r, gPv_0, Option.toList_some, Option.toList_none, List.singleton_append, List.cons_append, List.nil_append, List.length_nil, List.length_cons, Nat.zero_le, Nat.reduceAdd, Nat.reduceLeDiff, or_true, true_or, false_or, or_false, and_self, and_false, false_and, implies_true, Option.some.injEq, exists_eq_left', nL, nI_add, nI_mul, nI_clamp, nI_ltI, nI_leI, nI_eq, nI_pos, nI_pos', Nat.reduceAdd, Nat.reduceMul, Nat.reducePow, sk_54 h, sr_54_2 h, sr_54_3 h, sr_54_4 h, sr_54_5 h, sr_54_7 h, sr_54_8 h, sr_54_9 h, sr_54_12 h, sr_54_13 h, sr_54_14 h, sr_54_22 h, sr_54_25 h, sr_54_26 h, sr_54_27 h, sr_54_34 h, sr_54_35 h, sr_54_36 h, sr_54_37 h, sr_54_38 h, sr_54_40 h, sr_54_43 h, sr_54_44 h, sr_54_45 h, sr_54_46 h, sr_54_47 h, sk_56 h, sn_56 h, z1, z3, Dr_v w ha (show b < 12 by omega)]
    rw [← ih (b + 1) (by omega)]
    simp only [drc, Nat.add_assoc]
theorem t_dm2 {d : Nat} {Q : Option Value → gS → Prop} {B n : Nat} {σ : gS} (h : IvS B σ) (w : Wd (gI σ (B + 56))) (hn : gI σ (B + 56) 250 = nI n) (hn1 : n ≤ 12) : ∀ (m a : Nat), a + m = n → ∀ x3 : Option Value, (wp (d + 1) pr_188 Q 4 [some (.ref (B + 54)), some (.int (nI (dcs (gI σ (B + 56)) a))), some (.int (nI a)), x3] [] σ ↔ Q (some (.int (nI (dcs (gI σ (B + 56)) n)))) σ) := by
  intro m
  induction m with
  | zero =>
    intro a ha x3
    have : a = n := by omega
    subst this
    simp (disch := first | omega | assumption) only [e_188_4, e_188_5, e_188_6, e_188_9, e_188_48, e_188_49, n10, n01, Nat.not_lt_zero, ne_eq, Nat.add_zero, Nat.one_ne_zero, Nat.zero_ne_one, Nat.reduceEqDiff, bI_T, bI_F, bI_0, bI_1, bI_01, not_and_self, true_and, and_true, not_true_eq_false, not_false_eq_true, false_imp_iff, true_imp_iff, imp_self, gPv_n, gPv_i, gPv_r, gPv_0, Option.toList_some, Option.toList_none, List.singleton_append, List.cons_append, List.nil_append, List.length_nil, List.length_cons, Nat.zero_le, Nat.reduceAdd, Nat.reduceLeDiff, or_true, true_or, false_or, or_false, and_self, and_false, false_and, implies_true, Option.some.injEq, exists_eq_left', nL, nI_add, nI_mul, nI_clamp, nI_ltI, nI_leI, nI_eq, nI_pos, nI_pos', Nat.reduceAdd, Nat.reduceMul, Nat.reducePow, sk_54 h, sr_54_2 h, sr_54_3 h, sr_54_4 h, sr_54_5 h, sr_54_7 h, sr_54_8 h, sr_54_9 h, sr_54_12 h, sr_54_13 h, sr_54_14 h, sr_54_22 h, sr_54_25 h, sr_54_26 h, sr_54_27 h, sr_54_34 h, sr_54_35 h, sr_54_36 h, sr_54_37 h, sr_54_38 h, sr_54_40 h, sr_54_43 h, sr_54_44 h, sr_54_45 h, sr_54_46 h, sr_54_47 h, sk_56 h, sn_56 h, t_houses, hn, Nat.le_refl]
  | succ m ih =>
    intro a ha x3
    have z1 : ¬ n ≤ a := by omega
    have z2 := dcs_le (gI σ (B + 56)) a (by omega)
    rw [e_188_4]
    simp (disch := first | omega | assumption) only [e_188_5, e_188_6, e_188_9, e_188_12, e_188_13, n10, n01, Nat.not_lt_zero, ne_eq, Nat.add_zero, Nat.one_ne_zero, Nat.zero_ne_one, Nat.reduceEqDiff, bI_T, bI_F, bI_0, bI_1, bI_01, not_and_self, true_and, and_true, not_true_eq_false, not_false_eq_true, false_imp_iff, true_imp_iff, imp_self, gPv_n, gPv_i, gPv_r, gPv_0, Option.toList_some, Option.toList_none, List.singleton_append, List.cons_append, List.nil_append, List.length_nil, List.length_cons, Nat.zero_le, Nat.reduceAdd, Nat.reduceLeDiff, or_true, true_or, false_or, or_false, and_self, and_false, false_and, implies_true, Option.some.injEq, exists_eq_left', nL, nI_add, nI_mul, nI_clamp, nI_ltI, nI_leI, nI_eq, nI_pos, nI_pos', Nat.reduceAdd, Nat.reduceMul, Nat.reducePow, sk_54 h, sr_54_2 h, sr_54_3 h, sr_54_4 h, sr_54_5 h, sr_54_7 h, sr_54_8 h, sr_54_9 h, sr_54_12 h, sr_54_13 h, sr_54_14 h, sr_54_22 h, sr_54_25 h, sr_54_26 h, sr_54_27 h, sr_54_34 h, sr_54_35 h, sr_54_36 h, sr_54_37 h, sr_54_38 h, sr_54_40 h, sr_54_43 h, sr_54_44 h, sr_54_45 h, sr_54_46 h, sr_54_47 h, sk_56 h, sn_56 h, t_houses, hn, z1]
    have e := t_dm1 (d := d + 1) (Q := Q) h w (show a < 12 by omega) (dcs (gI σ (B + 56)) a) (by omega) a 0 (by omega)
    simp only [drc, Nat.add_zero] at e
    rw [e]
    simp (disch := omega) only [e_188_42, e_188_45, n10, n01, Nat.not_lt_zero, ne_eq, Nat.add_zero, Nat.one_ne_zero, Nat.zero_ne_one, Nat.reduceEqDiff, bI_T, bI_F, bI_0, bI_1, bI_01, not_and_self, true_and, and_true, not_true_eq_false, not_false_eq_true, false_imp_iff, true_imp_iff, imp_self, gPv_n, gPv_i, gPv_r, gPv_0, Option.toList_some, Option.toList_none, List.singleton_append, List.cons_append, List.nil_append, List.length_nil, List.length_cons, Nat.zero_le, Nat.reduceAdd, Nat.reduceLeDiff, or_true, true_or, false_or, or_false, and_self, and_false, false_and, implies_true, Option.some.injEq, exists_eq_left', nL, nI_add, nI_mul, nI_clamp, nI_ltI, nI_leI, nI_eq, nI_pos, nI_pos', Nat.reduceAdd, Nat.reduceMul, Nat.reducePow]
    exact ih (a + 1) (by omega) _
theorem t_doorMany {d : Nat} {Q : Option Value → gS → Prop} {B : Nat} {σ : gS} (h : IvS B σ) (w1 : Wh (gI σ (B + 56))) (w : Wd (gI σ (B + 56))) : wc (d + 2) 188 [.ref (B + 54)] σ Q ↔ Q (some (.int (nI (dc (gI σ (B + 56)))))) σ := by
  simp only [c_188, e_188_0, e_188_1, e_188_2, e_188_3, n10, n01, Nat.not_lt_zero, ne_eq, Nat.add_zero, Nat.one_ne_zero, Nat.zero_ne_one, Nat.reduceEqDiff, bI_T, bI_F, bI_0, bI_1, bI_01, not_and_self, true_and, and_true, not_true_eq_false, not_false_eq_true, false_imp_iff, true_imp_iff, imp_self, gPv_n, gPv_i, gPv_r, gPv_0, Option.toList_some, Option.toList_none, List.singleton_append, List.cons_append, List.nil_append, List.length_nil, List.length_cons, Nat.zero_le, Nat.reduceAdd, Nat.reduceLeDiff, or_true, true_or, false_or, or_false, and_self, and_false, false_and, implies_true, Option.some.injEq, exists_eq_left', nL]
  exact t_dm2 h w (hn_eq w1) (hn_le w1) (hn (gI σ (B + 56))) 0 (by omega) _
theorem t_hasDoor {d : Nat} {Q : Option Value → gS → Prop} {B a b : Nat} {σ : gS} (h : IvS B σ) (w : Wd (gI σ (B + 56))) (ha : a < 12) (hb : b < 12) : wc (d + 1) 187 [.ref (B + 54), .int (nI a), .int (nI b)] σ Q ↔ Q (some (.int (bI (Dr (gI σ (B + 56)) a b = true)))) σ := by
  have z3 : 72 + 12 * a + b < 5062 := by omega
  simp (disch := omega) only [c_187, e_187_0, e_187_1, e_187_4, e_187_6, e_187_8, e_187_9, e_187_10, e_187_11, e_187_12, e_187_13, e_187_14, e_187_15, e_187_18, e_187_19, e_187_22, e_187_23, n10, n01, Nat.not_lt_zero, ne_eq, Nat.add_zero, Nat.one_ne_zero, Nat.zero_ne_one, Nat.reduceEqDiff, bI_T, bI_F, bI_0, bI_1, bI_01, not_and_self, true_and, and_true, not_true_eq_false, not_false_eq_true, false_imp_iff, true_imp_iff, imp_self, gPv_n, gPv_i, gPv_r, gPv_0, Option.toList_some, Option.toList_none, List.singleton_append, List.cons_append, List.nil_append, List.length_nil, List.length_cons, Nat.zero_le, Nat.reduceAdd, Nat.reduceLeDiff, or_true, true_or, false_or, or_false, and_self, and_false, false_and, implies_true, Option.some.injEq, exists_eq_left', nL, nI_add, nI_mul, nI_clamp, nI_ltI, nI_leI, nI_eq, nI_pos, nI_pos', Nat.reduceAdd, Nat.reduceMul, Nat.reducePow, sk_54 h, sr_54_2 h, sr_54_3 h, sr_54_4 h, sr_54_5 h, sr_54_7 h, sr_54_8 h, sr_54_9 h, sr_54_12 h, sr_54_13 h, sr_54_14 h, sr_54_22 h, sr_54_25 h, sr_54_26 h, sr_54_27 h, sr_54_34 h, sr_54_35 h, sr_54_36 h, sr_54_37 h, sr_54_38 h, sr_54_40 h, sr_54_43 h, sr_54_44 h, sr_54_45 h, sr_54_46 h, sr_54_47 h, sk_56 h, sn_56 h, z3, Dr_v w ha hb]
  by_cases hd : Dr (gI σ (B + 56)) a b = true
  · simp [hd, bI_T, nI_eq]
  · simp [hd, bI_F, nI_eq]
theorem mk_xor {C D : Nat → Bool} {b : Nat} (hb : b < 12) (h : ∀ j, j < 12 → D j = if j = b then !C j else C j) : mkN C 12 ^^^ 2 ^ b = mkN D 12 := by
  refine Nat.eq_of_testBit_eq ?_
  intro j
  rw [Nat.testBit_xor, tb_mk, tb_mk, Nat.testBit_two_pow]
  by_cases hj : j < 12
  · rw [h j hj]
    by_cases hjb : j = b
    · subst hjb; simp [hj]
    · have : ¬ b = j := fun z => hjb z.symm
      simp [hj, hjb, this]
  · have : ¬ b = j := by omega
    simp [hj, this]
theorem drc_t {A A' : Nat → Int32} {x y : Nat} (h1 : Dr A x y = false) (h2 : Dr A' x y = true) (h : ∀ j, j < 12 → j ≠ y → Dr A' x j = Dr A x j) : ∀ b, b ≤ 12 → drc A' x b = drc A x b + (if y < b then 1 else 0) := by
  intro b
  induction b with
  | zero => intro _; simp [drc]
  | succ b ih =>
    intro hb
    simp only [drc, ih (by omega)]
    by_cases hy : b = y
    · subst hy
      simp [h1, h2]
    · rw [h b (by omega) hy]
      by_cases hyb : y < b
      · have : y < b + 1 := by omega
        simp [hyb, this]; omega
      · have : ¬ y < b + 1 := by omega
        simp [hyb, this]
theorem dcs_t {A A' : Nat → Int32} {x y : Nat} (hx : x < 12) (hy : y < x) (h1 : Dr A x y = false) (h2 : Dr A' x y = true) (h : ∀ i j, i < 12 → j < i → ¬ (i = x ∧ j = y) → Dr A' i j = Dr A i j) : ∀ n, n ≤ 12 → dcs A' n = dcs A n + (if x < n then 1 else 0) := by
  intro n
  induction n with
  | zero => intro _; simp [dcs]
  | succ n ih =>
    intro hn
    simp only [dcs, ih (by omega)]
    by_cases hx : n = x
    · subst hx
      have e : drc A' n n = drc A n n + 1 := by
        have : ∀ b, b ≤ n → drc A' n b = drc A n b + (if y < b then 1 else 0) := by
          intro b
          induction b with
          | zero => intro _; simp [drc]
          | succ b ih =>
            intro hb
            simp only [drc, ih (by omega)]
            by_cases hy : b = y
            · subst hy
              simp [h1, h2]
            · rw [h n b (by omega) (by omega) (fun z => hy z.2)]
              by_cases hyb : y < b
              · have : y < b + 1 := by omega
                simp [hyb, this]; omega
              · have : ¬ y < b + 1 := by omega
                simp [hyb, this]
        rw [this n (by omega), if_pos hy]
      rw [e]
      have a1 : ¬ n < n := by omega
      have a2 : n < n + 1 := by omega
      simp only [a1, a2, if_true, if_false]
      omega
    · rw [drc_c (fun j hj => h n j (by omega) hj (fun z => hx z.1))]
      by_cases hxn : x < n
      · have : x < n + 1 := by omega
        simp only [hxn, this, if_true]; omega
      · have : ¬ x < n + 1 := by omega
        simp only [hxn, this, if_false]; omega
/-- a door more between a and b -/
theorem dc_t {A A' : Nat → Int32} {a b : Nat} (w : Wh A) (e : A' 250 = A 250) (ha : a < hn A) (hb : b < hn A) (hab : a ≠ b) (h1 : Dr A a b = false ∧ Dr A b a = false) (h2 : Dr A' a b = true ∧ Dr A' b a = true) (h : ∀ i j, i < 12 → j < 12 → ¬ (i = a ∧ j = b) → ¬ (i = b ∧ j = a) → Dr A' i j = Dr A i j) : dc A' = dc A + 1 := by
  have h12 := hn_le w
  simp only [dc, hn_c e]
  by_cases hl : b < a
  · rw [dcs_t (x := a) (y := b) (by omega) hl h1.1 h2.1 (fun i j hi hj hz => h i j hi (by omega) hz (by omega)) _ h12, if_pos ha]
  · rw [dcs_t (x := b) (y := a) (by omega) (by omega) h1.2 h2.2 (fun i j hi hj hz => h i j hi (by omega) (by omega) hz) _ h12, if_pos hb]
/-- the row of doors is turned between a and b -/
theorem Wd_t {A A' : Nat → Int32} {a b : Nat} {v : Bool} (w1 : Wh A) (w : Wd A) (ha : a < hn A) (hb : b < hn A) (hab : a ≠ b) (e : A' 250 = A 250) (h1 : A' (72 + 12 * a + b) = nI (if v = true then 1 else 0)) (h2 : A' (72 + 12 * b + a) = nI (if v = true then 1 else 0)) (h : ∀ j, j ≠ 72 + 12 * a + b → j ≠ 72 + 12 * b + a → A' j = A j) (hd : dc A' ≤ 6) : Wd A' := by
  have h12 := hn_le w1
  refine ⟨?_, hd⟩
  intro x y hx hy
  rw [hn_c e]
  by_cases c1 : x = a ∧ y = b
  · obtain ⟨rfl, rfl⟩ := c1
    rw [h1, h2]
    refine ⟨?_, rfl⟩
    cases v
    · exact Or.inl rfl
    · exact Or.inr ⟨rfl, ha, hb, hab⟩
  · by_cases c2 : x = b ∧ y = a
    · obtain ⟨rfl, rfl⟩ := c2
      rw [h1, h2]
      refine ⟨?_, rfl⟩
      cases v
      · exact Or.inl rfl
      · exact Or.inr ⟨rfl, hb, ha, fun z => hab z.symm⟩
    · rw [h (72 + 12 * x + y) (by omega) (by omega), h (72 + 12 * y + x) (by omega) (by omega)]
      exact w.1 x y hx hy
theorem Dr_t {A A' : Nat → Int32} {a b : Nat} {v : Bool} (ha : a < 12) (hb : b < 12) (h1 : A' (72 + 12 * a + b) = nI (if v = true then 1 else 0)) (h2 : A' (72 + 12 * b + a) = nI (if v = true then 1 else 0)) (h : ∀ j, j ≠ 72 + 12 * a + b → j ≠ 72 + 12 * b + a → A' j = A j) : Dr A' a b = v ∧ Dr A' b a = v ∧ ∀ i j, i < 12 → j < 12 → ¬ (i = a ∧ j = b) → ¬ (i = b ∧ j = a) → Dr A' i j = Dr A i j := by
  refine ⟨?_, ?_, ?_⟩
  · simp only [Dr, h1]
    cases v <;> decide
  · simp only [Dr, h2]
    cases v <;> decide
  · intro i j hi hj c1 c2
    simp only [Dr]
    rw [h (72 + 12 * i + j) (by omega) (by omega)]
theorem Td_t {t a b : Nat} {σ τ : gS} {A A' : Nat → Int32} {v : Bool} (w1 : Wh A) (wd : Wd A) (w : Td t σ A) (ha : a < hn A) (hb : b < hn A) (hab : a ≠ b) (e : A' 250 = A 250) (hv : Dr A a b = !v) (h1 : A' (72 + 12 * a + b) = nI (if v = true then 1 else 0)) (h2 : A' (72 + 12 * b + a) = nI (if v = true then 1 else 0)) (h : ∀ j, j ≠ 72 + 12 * a + b → j ≠ 72 + 12 * b + a → A' j = A j) (h8 : gI τ t 8 = nI (dc A')) (ra : gI τ (t + 6) a = nI (mkN (Dr A a) 12 ^^^ 2 ^ b)) (rb : gI τ (t + 6) b = nI (mkN (Dr A b) 12 ^^^ 2 ^ a)) (r : ∀ x, x ≠ a → x ≠ b → gI τ (t + 6) x = gI σ (t + 6) x) : Td t τ A' := by
  have h12 := hn_le w1
  obtain ⟨d1, d2, d3⟩ := Dr_t (by omega) (by omega) h1 h2 h
  have hv2 : Dr A b a = !v := by rw [Dr_s wd (by omega) (by omega)]; exact hv
  refine ⟨h8, ?_⟩
  intro x hx
  rw [hn_c e] at hx
  by_cases c1 : x = a
  · subst c1
    rw [ra, mk_xor (D := Dr A' x) (by omega)]
    intro j hj
    by_cases hjb : j = b
    · subst hjb; rw [if_pos rfl, d1, hv]; simp
    · rw [if_neg hjb, d3 x j (by omega) hj (fun z => hjb z.2) (fun z => hab z.1)]
  · by_cases c2 : x = b
    · subst c2
      rw [rb, mk_xor (D := Dr A' x) (by omega)]
      intro j hj
      by_cases hja : j = a
      · subst hja; rw [if_pos rfl, d2, hv2]; simp
      · rw [if_neg hja, d3 x j (by omega) hj (fun z => hab z.1.symm) (fun z => hja z.2)]
    · rw [r x c1 c2, w.2 x hx]
      congr 1
      refine mk_c ?_
      intro j hj
      exact (d3 x j (by omega) hj (fun z => c1 z.1) (fun z => c2 z.1)).symm
