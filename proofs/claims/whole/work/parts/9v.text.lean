/-! a text: its tokens -/
def kd (b : Nat) : Nat := if 97 ≤ b ∧ b ≤ 122 then 1 else if 48 ≤ b ∧ b ≤ 57 then 2 else 3
def sk (T : Nat → Nat) (q : Nat) : Nat → Nat → Nat
  | 0, p => p
  | m + 1, p => if p < q ∧ T p = 32 then sk T q m (p + 1) else p
def ex (T : Nat → Nat) (q k : Nat) : Nat → Nat → Nat
  | 0, p => p
  | m + 1, p => if p < q ∧ kd (T p) = k then ex T q k m (p + 1) else p
def skp (T : Nat → Nat) (q p : Nat) : Nat := sk T q (q - p) p
def en (T : Nat → Nat) (q p : Nat) : Nat := if p < q then (if kd (T p) = 3 then p + 1 else ex T q (kd (T p)) (q - (p + 1)) (p + 1)) else p
def st (T : Nat → Nat) (q : Nat) : Nat → Nat
  | 0 => skp T q 0
  | t + 1 => skp T q (en T q (st T q t))
section
variable {T : Nat → Nat} {q : Nat}
theorem sk_le : ∀ m p, p ≤ sk T q m p ∧ (p ≤ q → sk T q m p ≤ q) := by
  intro m
  induction m with
  | zero => intro p; exact ⟨Nat.le_refl _, fun h => h⟩
  | succ m ih =>
    intro p
    rw [sk]
    by_cases c : p < q ∧ T p = 32
    · rw [if_pos c]
      have := ih (p + 1)
      exact ⟨by omega, fun _ => this.2 (by omega)⟩
    · rw [if_neg c]; exact ⟨Nat.le_refl _, fun h => h⟩
theorem sk_end : ∀ m p, p + m = q → sk T q m p < q → T (sk T q m p) ≠ 32 := by
  intro m
  induction m with
  | zero => intro p hp h; simp only [sk] at h; omega
  | succ m ih =>
    intro p hp h
    rw [sk] at h ⊢
    by_cases c : p < q ∧ T p = 32
    · rw [if_pos c] at h ⊢
      exact ih (p + 1) (by omega) h
    · rw [if_neg c] at h ⊢
      intro z
      exact c ⟨by omega, z⟩
theorem ex_le {k : Nat} : ∀ m p, p ≤ ex T q k m p ∧ (p ≤ q → ex T q k m p ≤ q) := by
  intro m
  induction m with
  | zero => intro p; exact ⟨Nat.le_refl _, fun h => h⟩
  | succ m ih =>
    intro p
    rw [ex]
    by_cases c : p < q ∧ kd (T p) = k
    · rw [if_pos c]
      have := ih (p + 1)
      exact ⟨by omega, fun _ => this.2 (by omega)⟩
    · rw [if_neg c]; exact ⟨Nat.le_refl _, fun h => h⟩
theorem skp_le {p : Nat} : p ≤ skp T q p ∧ (p ≤ q → skp T q p ≤ q) := sk_le _ _
theorem skp_32 {p : Nat} (hp : p ≤ q) (h : skp T q p < q) : T (skp T q p) ≠ 32 := sk_end (q - p) p (by omega) h
theorem skp_q {p : Nat} (hp : q ≤ p) : skp T q p = p := by
  have : q - p = 0 := by omega
  rw [skp, this]
  rfl
theorem skp_s {p : Nat} (hp : p < q) (h : T p = 32) : skp T q p = skp T q (p + 1) := by
  obtain ⟨m, hm⟩ : ∃ m, q - p = m + 1 := ⟨q - p - 1, by omega⟩
  have hm2 : q - (p + 1) = m := by omega
  rw [skp, skp, hm, hm2, sk, if_pos ⟨hp, h⟩]
theorem skp_n {p : Nat} (h : ¬ (p < q ∧ T p = 32)) : skp T q p = p := by
  rw [skp]
  cases hm : q - p with
  | zero => rfl
  | succ m => rw [sk, if_neg h]
theorem en_gt {p : Nat} (hp : p < q) : p < en T q p ∧ en T q p ≤ q := by
  rw [en, if_pos hp]
  by_cases c : kd (T p) = 3
  · rw [if_pos c]; omega
  · rw [if_neg c]
    have := ex_le (T := T) (q := q) (k := kd (T p)) (q - (p + 1)) (p + 1)
    exact ⟨by omega, this.2 (by omega)⟩
theorem en_q {p : Nat} (hp : ¬ p < q) : en T q p = p := by rw [en, if_neg hp]
theorem en_3 {p : Nat} (hp : p < q) (h : kd (T p) = 3) : en T q p = p + 1 := by rw [en, if_pos hp, if_pos h]
theorem en_x {p : Nat} (hp : p < q) (h : kd (T p) ≠ 3) : en T q p = ex T q (kd (T p)) (q - (p + 1)) (p + 1) := by rw [en, if_pos hp, if_neg h]
theorem en_le {p : Nat} (hp : p ≤ q) : en T q p ≤ q := by
  by_cases c : p < q
  · exact (en_gt c).2
  · rw [en_q c]; exact hp
theorem st_le : ∀ t, st T q t ≤ q := by
  intro t
  induction t with
  | zero => exact skp_le.2 (by omega)
  | succ t ih => exact skp_le.2 (en_le ih)
theorem st_lt {t : Nat} (h : st T q t < q) : st T q t < st T q (t + 1) := by
  have a := (en_gt (T := T) h).1
  have b := (skp_le (T := T) (q := q) (p := en T q (st T q t))).1
  show _ < skp T q (en T q (st T q t))
  omega
theorem st_q {n : Nat} (h : st T q n = q) : ∀ k, st T q (n + k) = q := by
  intro k
  induction k with
  | zero => exact h
  | succ k ih =>
    show skp T q (en T q (st T q (n + k))) = q
    rw [ih, en_q (by omega), skp_q (Nat.le_refl _)]
theorem st_ge {n : Nat} (h : ∀ t, t < n → st T q t < q) : ∀ t, t ≤ n → t ≤ st T q t := by
  intro t
  induction t with
  | zero => intro _; omega
  | succ t ih =>
    intro ht
    have := ih (by omega)
    have := st_lt (h t (by omega))
    omega
theorem st_32 {t : Nat} (h : st T q t < q) : T (st T q t) ≠ 32 := by
  cases t with
  | zero => exact skp_32 (by omega) h
  | succ t => exact skp_32 (en_le (st_le t)) h
end
/-! words -/
def wO (w : Nat) : Nat := [0, 6, 11, 14, 17, 21, 25, 30, 33, 38, 44, 49, 54, 59, 64, 68].getD w 68
def wL (w : Nat) : Nat := [5, 4, 2, 2, 3, 3, 4, 2, 4, 5, 4, 4, 4, 4, 3].getD w 0
theorem w_ok : ∀ w, w < 15 → wO w + wL w < 68 ∧ wO (w + 1) = wO w + wL w + 1 ∧ wL w ≤ 5 ∧ wdL.getD (wO w + wL w) 0 = 32 ∧ ∀ j, j < wL w → wdL.getD (wO w + j) 0 ≠ 32 := by decide
theorem wd_lt : ∀ j, j < 68 → wdL.getD j 0 < 128 := by decide
def eqB (T : Nat → Nat) (w p e : Nat) : Bool := decide (e - p = wL w ∧ ∀ j, j < wL w → T (p + j) = wdL.getD (wO w + j) 0)
theorem w_inj : ∀ w, w < 15 → ∀ w', w' < 15 → wL w = wL w' → (∀ j, j < wL w → wdL.getD (wO w + j) 0 = wdL.getD (wO w' + j) 0) → w = w' := by decide
theorem eqB_u {T : Nat → Nat} {w w' p e : Nat} (hw : w < 15) (hw' : w' < 15) (h : eqB T w p e = true) (h' : eqB T w' p e = true) : w = w' := by
  rw [eqB, decide_eq_true_eq] at h h'
  refine w_inj w hw w' hw' (by omega) (fun j hj => ?_)
  rw [← h.2 j hj, h'.2 j (by omega)]
def wx (T : Nat → Nat) (p e : Nat) : Nat := match fo (fun w => eqB T w p e) 15 0 with
  | none => 0
  | some w => w + 1
theorem wx_le {T : Nat → Nat} {p e : Nat} : wx T p e ≤ 15 := by
  rw [wx]
  cases q : fo (fun w => eqB T w p e) 15 0 with
  | none => simp
  | some w => have := fo_in _ _ _ q; simp only; omega
theorem wx_w {T : Nat → Nat} {p e w : Nat} (hw : w < 15) : wx T p e = w + 1 ↔ eqB T w p e = true := by
  rw [wx]
  cases q : fo (fun w => eqB T w p e) 15 0 with
  | none =>
    have := fo_none _ _ q w (by omega) (by omega)
    simp only [this]
    simp
  | some w' =>
    obtain ⟨a, _, c⟩ := fo_in _ _ _ q
    simp only
    constructor
    · intro z
      have : w' = w := by omega
      rw [← this]; exact a
    · intro z
      have := eqB_u (by omega) hw a z
      omega
def cd (T : Nat → Nat) (q p : Nat) : Nat := if kd (T p) = 1 then wx T p (en T q p) else if kd (T p) = 2 then 50 else 100 + T p
def cT (T : Nat → Nat) (q t : Nat) : Nat := if st T q t < q then cd T q (st T q t) else 0
def vl (T : Nat → Nat) : Nat → Nat → Nat → Nat
  | 0, _, a => a
  | m + 1, p, a => vl T m (p + 1) (if 1000000 < a then a else 10 * a + (T p - 48))
def vP (T : Nat → Nat) (q p : Nat) : Nat := if kd (T p) = 2 then vl T (en T q p - p) p 0 else 0
def vT (T : Nat → Nat) (q t : Nat) : Nat := if st T q t < q then vP T q (st T q t) else 0
/-! a byte as the model has it -/
theorem sb_32 : ∀ b, b < 256 → (sb b = nI 32 ↔ b = 32) := by decide +kernel
theorem sb_255 : ∀ b, b < 256 → sb b &&& nI 255 = nI b := by decide +kernel
theorem sb_97 : ∀ b, b < 256 → (sb b < nI 97 ↔ b < 97 ∨ 128 ≤ b) := by decide +kernel
theorem sb_122 : ∀ b, b < 256 → (nI 122 < sb b ↔ 122 < b ∧ b < 128) := by decide +kernel
theorem sb_48 : ∀ b, b < 256 → (sb b < nI 48 ↔ b < 48 ∨ 128 ≤ b) := by decide +kernel
theorem sb_57 : ∀ b, b < 256 → (nI 57 < sb b ↔ 57 < b ∧ b < 128) := by decide +kernel
theorem sb_eq {a b : Nat} (ha : a < 128) (hb : b < 256) : nI a = sb b ↔ a = b := by
  by_cases c : b < 128
  · rw [sb, if_pos c, nI_eq (by omega) (by omega)]
  · constructor
    · intro z
      exfalso
      have := sb_neg hb c
      rw [← z, nI_toInt (by omega)] at this
      omega
    · intro z; omega
section
variable {d : Nat} {Q : Option Value → gS → Prop} {σ : gS}
theorem t_small {b : Nat} (hb : b < 256) : wc (d + 1) 196 [.int (sb b)] σ Q ↔ Q (some (.int (bI (kd b = 1)))) σ := by
  by_cases c1 : b < 97 ∨ 128 ≤ b
  · have e : ¬ kd b = 1 := by rw [kd, if_neg (by omega)]; split <;> omega
    simp (disch := omega) only [c_196, e_196_0, e_196_1, e_196_3, e_196_6, e_196_7, e_196_9, e_196_12, e_196_13, e_196_16, e_196_17, n10, n01, Nat.lt_irrefl, Nat.not_lt_zero, ne_eq, Nat.add_zero, Nat.one_ne_zero, Nat.zero_ne_one, Nat.reduceEqDiff, bI_T, bI_F, bI_0, bI_1, bI_01, not_and_self, true_and, and_true, not_true_eq_false, not_false_eq_true, false_imp_iff, true_imp_iff, imp_self, gPv_n, gPv_i, gPv_r, gPv_0, Option.toList_some, Option.toList_none, List.singleton_append, List.cons_append, List.nil_append, List.length_nil, List.length_cons, Nat.zero_le, Nat.reduceAdd, Nat.reduceLeDiff, or_true, true_or, false_or, or_false, and_self, and_false, false_and, implies_true, Option.some.injEq, exists_eq_left', nL, nI_add, nI_mul, nI_clamp, nI_ltI, nI_leI, nI_eq, nI_pos, nI_pos', Nat.reduceAdd, Nat.reduceMul, Nat.reducePow, sb_97 b hb, sb_122 b hb, c1, e]
  · by_cases c2 : 122 < b ∧ b < 128
    · have e : ¬ kd b = 1 := by rw [kd, if_neg (by omega)]; split <;> omega
      simp (disch := omega) only [c_196, e_196_0, e_196_1, e_196_3, e_196_6, e_196_7, e_196_9, e_196_12, e_196_13, e_196_16, e_196_17, n10, n01, Nat.lt_irrefl, Nat.not_lt_zero, ne_eq, Nat.add_zero, Nat.one_ne_zero, Nat.zero_ne_one, Nat.reduceEqDiff, bI_T, bI_F, bI_0, bI_1, bI_01, not_and_self, true_and, and_true, not_true_eq_false, not_false_eq_true, false_imp_iff, true_imp_iff, imp_self, gPv_n, gPv_i, gPv_r, gPv_0, Option.toList_some, Option.toList_none, List.singleton_append, List.cons_append, List.nil_append, List.length_nil, List.length_cons, Nat.zero_le, Nat.reduceAdd, Nat.reduceLeDiff, or_true, true_or, false_or, or_false, and_self, and_false, false_and, implies_true, Option.some.injEq, exists_eq_left', nL, nI_add, nI_mul, nI_clamp, nI_ltI, nI_leI, nI_eq, nI_pos, nI_pos', Nat.reduceAdd, Nat.reduceMul, Nat.reducePow, sb_97 b hb, sb_122 b hb, c1, c2, e]
    · have e : kd b = 1 := by rw [kd, if_pos (by omega)]
      simp (disch := omega) only [c_196, e_196_0, e_196_1, e_196_3, e_196_6, e_196_7, e_196_9, e_196_12, e_196_13, e_196_16, e_196_17, n10, n01, Nat.lt_irrefl, Nat.not_lt_zero, ne_eq, Nat.add_zero, Nat.one_ne_zero, Nat.zero_ne_one, Nat.reduceEqDiff, bI_T, bI_F, bI_0, bI_1, bI_01, not_and_self, true_and, and_true, not_true_eq_false, not_false_eq_true, false_imp_iff, true_imp_iff, imp_self, gPv_n, gPv_i, gPv_r, gPv_0, Option.toList_some, Option.toList_none, List.singleton_append, List.cons_append, List.nil_append, List.length_nil, List.length_cons, Nat.zero_le, Nat.reduceAdd, Nat.reduceLeDiff, or_true, true_or, false_or, or_false, and_self, and_false, false_and, implies_true, Option.some.injEq, exists_eq_left', nL, nI_add, nI_mul, nI_clamp, nI_ltI, nI_leI, nI_eq, nI_pos, nI_pos', Nat.reduceAdd, Nat.reduceMul, Nat.reducePow, sb_97 b hb, sb_122 b hb, c1, c2, e]
theorem t_digit {b : Nat} (hb : b < 256) : wc (d + 1) 197 [.int (sb b)] σ Q ↔ Q (some (.int (bI (kd b = 2)))) σ := by
  by_cases c1 : b < 48 ∨ 128 ≤ b
  · have e : ¬ kd b = 2 := by
      rw [kd]
      split
      · omega
      · rw [if_neg (by omega)]; omega
    simp (disch := omega) only [c_197, e_197_0, e_197_1, e_197_3, e_197_6, e_197_7, e_197_9, e_197_12, e_197_13, e_197_16, e_197_17, n10, n01, Nat.lt_irrefl, Nat.not_lt_zero, ne_eq, Nat.add_zero, Nat.one_ne_zero, Nat.zero_ne_one, Nat.reduceEqDiff, bI_T, bI_F, bI_0, bI_1, bI_01, not_and_self, true_and, and_true, not_true_eq_false, not_false_eq_true, false_imp_iff, true_imp_iff, imp_self, gPv_n, gPv_i, gPv_r, gPv_0, Option.toList_some, Option.toList_none, List.singleton_append, List.cons_append, List.nil_append, List.length_nil, List.length_cons, Nat.zero_le, Nat.reduceAdd, Nat.reduceLeDiff, or_true, true_or, false_or, or_false, and_self, and_false, false_and, implies_true, Option.some.injEq, exists_eq_left', nL, nI_add, nI_mul, nI_clamp, nI_ltI, nI_leI, nI_eq, nI_pos, nI_pos', Nat.reduceAdd, Nat.reduceMul, Nat.reducePow, sb_48 b hb, sb_57 b hb, c1, e]
  · by_cases c2 : 57 < b ∧ b < 128
    · have e : ¬ kd b = 2 := by
        rw [kd]
        split
        · omega
        · rw [if_neg (by omega)]; omega
      simp (disch := omega) only [c_197, e_197_0, e_197_1, e_197_3, e_197_6, e_197_7, e_197_9, e_197_12, e_197_13, e_197_16, e_197_17, n10, n01, Nat.lt_irrefl, Nat.not_lt_zero, ne_eq, Nat.add_zero, Nat.one_ne_zero, Nat.zero_ne_one, Nat.reduceEqDiff, bI_T, bI_F, bI_0, bI_1, bI_01, not_and_self, true_and, and_true, not_true_eq_false, not_false_eq_true, false_imp_iff, true_imp_iff, imp_self, gPv_n, gPv_i, gPv_r, gPv_0, Option.toList_some, Option.toList_none, List.singleton_append, List.cons_append, List.nil_append, List.length_nil, List.length_cons, Nat.zero_le, Nat.reduceAdd, Nat.reduceLeDiff, or_true, true_or, false_or, or_false, and_self, and_false, false_and, implies_true, Option.some.injEq, exists_eq_left', nL, nI_add, nI_mul, nI_clamp, nI_ltI, nI_leI, nI_eq, nI_pos, nI_pos', Nat.reduceAdd, Nat.reduceMul, Nat.reducePow, sb_48 b hb, sb_57 b hb, c1, c2, e]
    · have e : kd b = 2 := by rw [kd, if_neg (by omega), if_pos (by omega)]
      simp (disch := omega) only [c_197, e_197_0, e_197_1, e_197_3, e_197_6, e_197_7, e_197_9, e_197_12, e_197_13, e_197_16, e_197_17, n10, n01, Nat.lt_irrefl, Nat.not_lt_zero, ne_eq, Nat.add_zero, Nat.one_ne_zero, Nat.zero_ne_one, Nat.reduceEqDiff, bI_T, bI_F, bI_0, bI_1, bI_01, not_and_self, true_and, and_true, not_true_eq_false, not_false_eq_true, false_imp_iff, true_imp_iff, imp_self, gPv_n, gPv_i, gPv_r, gPv_0, Option.toList_some, Option.toList_none, List.singleton_append, List.cons_append, List.nil_append, List.length_nil, List.length_cons, Nat.zero_le, Nat.reduceAdd, Nat.reduceLeDiff, or_true, true_or, false_or, or_false, and_self, and_false, false_and, implies_true, Option.some.injEq, exists_eq_left', nL, nI_add, nI_mul, nI_clamp, nI_ltI, nI_leI, nI_eq, nI_pos, nI_pos', Nat.reduceAdd, Nat.reduceMul, Nat.reducePow, sb_48 b hb, sb_57 b hb, c1, c2, e]
theorem s_kindOf {b : Nat} (hb : b < 256) : wc (d + 1) 44 [.int (nI b)] σ Q ↔ Q (some (.int (nI (kd b)))) σ := by
  by_cases c1 : b < 97
  · by_cases c3 : b < 48
    · have e : kd b = 3 := by rw [kd, if_neg (by omega), if_neg (by omega)]
      simp (disch := omega) only [c_44, e_44_0, e_44_1, e_44_3, e_44_6, e_44_7, e_44_9, e_44_12, e_44_13, e_44_14, e_44_15, e_44_17, e_44_20, e_44_21, e_44_23, e_44_26, e_44_27, e_44_30, e_44_31, n10, n01, Nat.lt_irrefl, Nat.not_lt_zero, ne_eq, Nat.add_zero, Nat.one_ne_zero, Nat.zero_ne_one, Nat.reduceEqDiff, bI_T, bI_F, bI_0, bI_1, bI_01, not_and_self, true_and, and_true, not_true_eq_false, not_false_eq_true, false_imp_iff, true_imp_iff, imp_self, gPv_n, gPv_i, gPv_r, gPv_0, Option.toList_some, Option.toList_none, List.singleton_append, List.cons_append, List.nil_append, List.length_nil, List.length_cons, Nat.zero_le, Nat.reduceAdd, Nat.reduceLeDiff, or_true, true_or, false_or, or_false, and_self, and_false, false_and, implies_true, Option.some.injEq, exists_eq_left', nL, nI_add, nI_mul, nI_clamp, nI_ltI, nI_leI, nI_eq, nI_pos, nI_pos', Nat.reduceAdd, Nat.reduceMul, Nat.reducePow, c1, c3, e]
    · by_cases c4 : 57 < b
      · have e : kd b = 3 := by rw [kd, if_neg (by omega), if_neg (by omega)]
        simp (disch := omega) only [c_44, e_44_0, e_44_1, e_44_3, e_44_6, e_44_7, e_44_9, e_44_12, e_44_13, e_44_14, e_44_15, e_44_17, e_44_20, e_44_21, e_44_23, e_44_26, e_44_27, e_44_30, e_44_31, n10, n01, Nat.lt_irrefl, Nat.not_lt_zero, ne_eq, Nat.add_zero, Nat.one_ne_zero, Nat.zero_ne_one, Nat.reduceEqDiff, bI_T, bI_F, bI_0, bI_1, bI_01, not_and_self, true_and, and_true, not_true_eq_false, not_false_eq_true, false_imp_iff, true_imp_iff, imp_self, gPv_n, gPv_i, gPv_r, gPv_0, Option.toList_some, Option.toList_none, List.singleton_append, List.cons_append, List.nil_append, List.length_nil, List.length_cons, Nat.zero_le, Nat.reduceAdd, Nat.reduceLeDiff, or_true, true_or, false_or, or_false, and_self, and_false, false_and, implies_true, Option.some.injEq, exists_eq_left', nL, nI_add, nI_mul, nI_clamp, nI_ltI, nI_leI, nI_eq, nI_pos, nI_pos', Nat.reduceAdd, Nat.reduceMul, Nat.reducePow, c1, c3, c4, e]
      · have e : kd b = 2 := by rw [kd, if_neg (by omega), if_pos (by omega)]
        simp (disch := omega) only [c_44, e_44_0, e_44_1, e_44_3, e_44_6, e_44_7, e_44_9, e_44_12, e_44_13, e_44_14, e_44_15, e_44_17, e_44_20, e_44_21, e_44_23, e_44_26, e_44_27, e_44_30, e_44_31, n10, n01, Nat.lt_irrefl, Nat.not_lt_zero, ne_eq, Nat.add_zero, Nat.one_ne_zero, Nat.zero_ne_one, Nat.reduceEqDiff, bI_T, bI_F, bI_0, bI_1, bI_01, not_and_self, true_and, and_true, not_true_eq_false, not_false_eq_true, false_imp_iff, true_imp_iff, imp_self, gPv_n, gPv_i, gPv_r, gPv_0, Option.toList_some, Option.toList_none, List.singleton_append, List.cons_append, List.nil_append, List.length_nil, List.length_cons, Nat.zero_le, Nat.reduceAdd, Nat.reduceLeDiff, or_true, true_or, false_or, or_false, and_self, and_false, false_and, implies_true, Option.some.injEq, exists_eq_left', nL, nI_add, nI_mul, nI_clamp, nI_ltI, nI_leI, nI_eq, nI_pos, nI_pos', Nat.reduceAdd, Nat.reduceMul, Nat.reducePow, c1, c3, c4, e]
  · by_cases c2 : 122 < b
    · have c3 : ¬ b < 48 := by omega
      have c4 : 57 < b := by omega
      have e : kd b = 3 := by rw [kd, if_neg (by omega), if_neg (by omega)]
      simp (disch := omega) only [c_44, e_44_0, e_44_1, e_44_3, e_44_6, e_44_7, e_44_9, e_44_12, e_44_13, e_44_14, e_44_15, e_44_17, e_44_20, e_44_21, e_44_23, e_44_26, e_44_27, e_44_30, e_44_31, n10, n01, Nat.lt_irrefl, Nat.not_lt_zero, ne_eq, Nat.add_zero, Nat.one_ne_zero, Nat.zero_ne_one, Nat.reduceEqDiff, bI_T, bI_F, bI_0, bI_1, bI_01, not_and_self, true_and, and_true, not_true_eq_false, not_false_eq_true, false_imp_iff, true_imp_iff, imp_self, gPv_n, gPv_i, gPv_r, gPv_0, Option.toList_some, Option.toList_none, List.singleton_append, List.cons_append, List.nil_append, List.length_nil, List.length_cons, Nat.zero_le, Nat.reduceAdd, Nat.reduceLeDiff, or_true, true_or, false_or, or_false, and_self, and_false, false_and, implies_true, Option.some.injEq, exists_eq_left', nL, nI_add, nI_mul, nI_clamp, nI_ltI, nI_leI, nI_eq, nI_pos, nI_pos', Nat.reduceAdd, Nat.reduceMul, Nat.reducePow, c1, c2, c3, c4, e]
    · have e : kd b = 1 := by rw [kd, if_pos (by omega)]
      simp (disch := omega) only [c_44, e_44_0, e_44_1, e_44_3, e_44_6, e_44_7, e_44_9, e_44_12, e_44_13, e_44_14, e_44_15, e_44_17, e_44_20, e_44_21, e_44_23, e_44_26, e_44_27, e_44_30, e_44_31, n10, n01, Nat.lt_irrefl, Nat.not_lt_zero, ne_eq, Nat.add_zero, Nat.one_ne_zero, Nat.zero_ne_one, Nat.reduceEqDiff, bI_T, bI_F, bI_0, bI_1, bI_01, not_and_self, true_and, and_true, not_true_eq_false, not_false_eq_true, false_imp_iff, true_imp_iff, imp_self, gPv_n, gPv_i, gPv_r, gPv_0, Option.toList_some, Option.toList_none, List.singleton_append, List.cons_append, List.nil_append, List.length_nil, List.length_cons, Nat.zero_le, Nat.reduceAdd, Nat.reduceLeDiff, or_true, true_or, false_or, or_false, and_self, and_false, false_and, implies_true, Option.some.injEq, exists_eq_left', nL, nI_add, nI_mul, nI_clamp, nI_ltI, nI_leI, nI_eq, nI_pos, nI_pos', Nat.reduceAdd, Nat.reduceMul, Nat.reducePow, c1, c2, e]
end
