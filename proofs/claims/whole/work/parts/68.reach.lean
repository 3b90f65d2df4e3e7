/-! who comes to whom: the least set that visits stay within -/
theorem wc_det {d i : Nat} {As : List Value} {σ σ' : gS} {Q : Option Value → gS → Prop} {v : Option Value} (h : wc d i As σ Q) (g : wc d i As σ (fun r τ => r = v ∧ τ = σ')) : Q v σ' := by
  obtain ⟨F, r, τ, h1, h2⟩ := h
  obtain ⟨F', r', τ', g1, rfl, rfl⟩ := g
  have a := gEx_mono d F (max F F') i As σ _ (Nat.le_max_left _ _) h1
  have b := gEx_mono d F' (max F F') i As σ _ (Nat.le_max_right _ _) g1
  rw [a] at b
  cases b
  exact h2
theorem wc_one {d i : Nat} {As : List Value} {σ σ' : gS} {v : Option Value} (main : ∀ Q : Option Value → gS → Prop, Q v σ' → wc d i As σ Q) {Q : Option Value → gS → Prop} : wc d i As σ Q ↔ Q v σ' := ⟨fun h => wc_det h (main (fun r τ => r = v ∧ τ = σ') ⟨rfl, rfl⟩), main Q⟩
def orU (F : Nat → Nat) : Nat → Nat
  | 0 => 0
  | n + 1 => orU F n ||| F n
theorem tb_orU {F : Nat → Nat} {j : Nat} : ∀ {n : Nat}, (orU F n).testBit j = true ↔ ∃ h, h < n ∧ (F h).testBit j = true := by
  intro n
  induction n with
  | zero => simp [orU]
  | succ n ih =>
    simp only [orU, Nat.testBit_or, Bool.or_eq_true, ih]
    constructor
    · rintro (⟨h, h1, h2⟩ | h)
      · exact ⟨h, by omega, h2⟩
      · exact ⟨n, by omega, h⟩
    · rintro ⟨h, h1, h2⟩
      by_cases z : h = n
      · subst z; exact Or.inr h2
      · exact Or.inl ⟨h, by omega, h2⟩
theorem orU_lt {F : Nat → Nat} (hF : ∀ h, F h < 4096) : ∀ n, orU F n < 4096 := by
  intro n
  induction n with
  | zero => exact Nat.zero_lt_succ _
  | succ n ih => exact Nat.or_lt_two_pow (n := 12) ih (hF n)
def sp1 (F : Nat → Nat) (n S : Nat) : Nat := S ||| orU (fun h => if S.testBit h = true then F h else 0) n
def mr (F : Nat → Nat) (n : Nat) : Nat → Nat → Nat
  | 0, S => S
  | k + 1, S => if sp1 F n S = S then S else mr F n k (sp1 F n S)
/-- the houses that one comes to from some -/
def rc (F : Nat → Nat) (n S : Nat) : Nat := mr F n 4096 S
theorem sp1_le {F : Nat → Nat} {n S : Nat} : S ≤ sp1 F n S := Nat.left_le_or
theorem sp1_lt {F : Nat → Nat} {n S : Nat} (hF : ∀ h, F h < 4096) (hS : S < 4096) : sp1 F n S < 4096 := by
  refine Nat.or_lt_two_pow (n := 12) hS (orU_lt ?_ n)
  intro h
  split
  · exact hF h
  · omega
theorem tb_sp1 {F : Nat → Nat} {n S j : Nat} : (sp1 F n S).testBit j = true ↔ S.testBit j = true ∨ ∃ h, h < n ∧ S.testBit h = true ∧ (F h).testBit j = true := by
  simp only [sp1, Nat.testBit_or, Bool.or_eq_true, tb_orU]
  constructor
  · rintro (h | ⟨h, h1, h2⟩)
    · exact Or.inl h
    · by_cases z : S.testBit h = true
      · rw [if_pos z] at h2; exact Or.inr ⟨h, h1, z, h2⟩
      · rw [if_neg z] at h2; simp at h2
  · rintro (h | ⟨h, h1, h2, h3⟩)
    · exact Or.inl h
    · exact Or.inr ⟨h, h1, by rw [if_pos h2]; exact h3⟩
theorem mr_lt {F : Nat → Nat} {n : Nat} (hF : ∀ h, F h < 4096) : ∀ k S, S < 4096 → mr F n k S < 4096 := by
  intro k
  induction k with
  | zero => intro S h; exact h
  | succ k ih =>
    intro S h
    simp only [mr]
    split
    · exact h
    · exact ih _ (sp1_lt hF h)
theorem mr_fix {F : Nat → Nat} {n : Nat} (hF : ∀ h, F h < 4096) : ∀ k S, S < 4096 → 4096 ≤ S + k → sp1 F n (mr F n k S) = mr F n k S := by
  intro k
  induction k with
  | zero => intro S h h2; omega
  | succ k ih =>
    intro S h h2
    simp only [mr]
    split
    · next e => exact e
    · next e =>
      have := sp1_le (F := F) (n := n) (S := S)
      exact ih _ (sp1_lt hF h) (by omega)
theorem mr_sub {F : Nat → Nat} {n j : Nat} : ∀ k S, S.testBit j = true → (mr F n k S).testBit j = true := by
  intro k
  induction k with
  | zero => intro S h; exact h
  | succ k ih =>
    intro S h
    simp only [mr]
    split
    · exact h
    · exact ih _ (tb_sp1.mpr (Or.inl h))
theorem mr_min {F : Nat → Nat} {n : Nat} {C : Nat → Prop} (hC : ∀ h, h < n → C h → ∀ j, (F h).testBit j = true → C j) : ∀ k S, (∀ j, S.testBit j = true → C j) → ∀ j, (mr F n k S).testBit j = true → C j := by
  intro k
  induction k with
  | zero => intro S h; exact h
  | succ k ih =>
    intro S h
    simp only [mr]
    split
    · exact h
    · refine ih _ ?_
      intro j hj
      rcases tb_sp1.mp hj with z | ⟨h', h1, h2, h3⟩
      · exact h j z
      · exact hC h' h1 (h h' h2) j h3
theorem rc_lt {F : Nat → Nat} {n S : Nat} (hF : ∀ h, F h < 4096) (hS : S < 4096) : rc F n S < 4096 := mr_lt hF _ _ hS
theorem rc_sub {F : Nat → Nat} {n S j : Nat} (h : S.testBit j = true) : (rc F n S).testBit j = true := mr_sub _ _ h
theorem rc_cl {F : Nat → Nat} {n S : Nat} (hF : ∀ h, F h < 4096) (hS : S < 4096) {h j : Nat} (h1 : h < n) (h2 : (rc F n S).testBit h = true) (h3 : (F h).testBit j = true) : (rc F n S).testBit j = true := by
  have := mr_fix (n := n) hF 4096 S hS (by omega)
  have e : (sp1 F n (rc F n S)).testBit j = true := tb_sp1.mpr (Or.inr ⟨h, h1, h2, h3⟩)
  rw [rc, this] at e
  exact e
theorem rc_min {F : Nat → Nat} {n S : Nat} {C : Nat → Prop} (hC : ∀ h, h < n → C h → ∀ j, (F h).testBit j = true → C j) (h0 : ∀ j, S.testBit j = true → C j) {j : Nat} (hj : (rc F n S).testBit j = true) : C j := mr_min hC _ _ h0 j hj
/-- what a set must be to be that -/
theorem rc_uni {F : Nat → Nat} {n S R : Nat} (hF : ∀ h, F h < 4096) (hS : S < 4096) (h1 : ∀ j, S.testBit j = true → R.testBit j = true) (h2 : ∀ h, h < n → R.testBit h = true → ∀ j, (F h).testBit j = true → R.testBit j = true) (h3 : ∀ C : Nat → Prop, (∀ h, h < n → C h → ∀ j, (F h).testBit j = true → C j) → (∀ j, S.testBit j = true → C j) → ∀ j, R.testBit j = true → C j) : R = rc F n S := by
  refine Nat.eq_of_testBit_eq ?_
  intro j
  rw [Bool.eq_iff_iff]
  constructor
  · exact h3 (fun j => (rc F n S).testBit j = true) (fun h a b j c => rc_cl hF hS a b c) (fun j a => rc_sub a) j
  · exact fun z => rc_min (C := fun j => R.testBit j = true) h2 h1 z
theorem rc_c {F F' : Nat → Nat} {n n' S : Nat} (hF : ∀ h, F h < 4096) (hF' : ∀ h, F' h < 4096) (hS : S < 4096) (hn : n ≤ n') (he : ∀ h, h < n → F' h = F h) (h0 : ∀ h, n ≤ h → h < n' → F' h = 0) : rc F' n' S = rc F n S := by
  refine rc_uni hF hS (fun j h => rc_sub h) ?_ ?_
  · intro h h1 h2 j h3
    exact rc_cl hF' hS (by omega) h2 (by rw [he h h1]; exact h3)
  · intro C hC h0' j hj
    refine rc_min (C := C) ?_ h0' hj
    intro h h1 h2 j' h3
    by_cases z : h < n
    · exact hC h z h2 j' (by rw [← he h z]; exact h3)
    · rw [h0 h (by omega) h1] at h3
      simp at h3
/-! the lowest bit -/
def loG : Nat → Nat → Nat
  | 0, _ => 0
  | k + 1, b => if b % 2 = 1 then 0 else loG k (b / 2) + 1
abbrev loB (b : Nat) : Nat := loG 12 b
theorem lo_ok2 : ∀ x, x < 64 → ∀ y, y < 64 → 64 * x + y ≠ 0 → (nI (64 * x + y) &&& -nI (64 * x + y)) - nI 1 = nI (2 ^ loB (64 * x + y) - 1) ∧ pcN (2 ^ loB (64 * x + y) - 1) 12 = loB (64 * x + y) ∧ (64 * x + y).testBit (loB (64 * x + y)) = true ∧ loB (64 * x + y) < 12 ∧ (64 * x + y) &&& (64 * x + y - 1) = ad (64 * x + y) (2 ^ loB (64 * x + y)) := by decide +kernel
theorem lo_ok {b : Nat} (h : b < 4096) (h0 : b ≠ 0) : (nI b &&& -nI b) - nI 1 = nI (2 ^ loB b - 1) ∧ pcN (2 ^ loB b - 1) 12 = loB b ∧ b.testBit (loB b) = true ∧ loB b < 12 ∧ b &&& (b - 1) = ad b (2 ^ loB b) := by
  have := lo_ok2 (b / 64) (by omega) (b % 64) (Nat.mod_lt _ (by omega))
  rw [Nat.div_add_mod] at this
  exact this h0
theorem s_lowest {d : Nat} {Q : Option Value → gS → Prop} {b : Nat} {σ : gS} (hb : b < 4096) (h0 : b ≠ 0) : wc (d + 2) 162 [.int (nI b)] σ Q ↔ Q (some (.int (nI (loB b)))) σ := by
  obtain ⟨e1, e2, _, e4, _⟩ := lo_ok hb h0
  have hp : 2 ^ loB b - 1 < 4096 := by
    have : 2 ^ loB b ≤ 2 ^ 11 := Nat.pow_le_pow_right (by decide) (by omega)
    have : (2 : Nat) ^ 11 = 2048 := by decide
    omega
  simp (disch := omega) only [c_162, e_162_0, e_162_1, e_162_2, e_162_3, e_162_4, e_162_5, e_162_6, e_162_9, n10, n01, Nat.lt_irrefl, Nat.not_lt_zero, ne_eq, Nat.add_zero, Nat.one_ne_zero, Nat.zero_ne_one, Nat.reduceEqDiff, bI_T, bI_F, bI_0, bI_1, bI_01, not_and_self, true_and, and_true, not_true_eq_false, not_false_eq_true, false_imp_iff, true_imp_iff, imp_self, gPv_n, gPv_i, gPv_r, gPv_0, Option.toList_some, Option.toList_none, List.singleton_append, List.cons_append, List.nil_append, List.length_nil, List.length_cons, Nat.zero_le, Nat.reduceAdd, Nat.reduceLeDiff, or_true, true_or, false_or, or_false, and_self, and_false, false_and, implies_true, Option.some.injEq, exists_eq_left', nL, e1, s_bitCount hp, e2]
theorem cn_ne {C C' : Nat → Bool} {h : Nat} (he : ∀ j, j ≠ h → C' j = C j) : ∀ m i, (h < i ∨ i + m ≤ h) → cn C' m i = cn C m i := by
  intro m
  induction m with
  | zero => intro i _; rfl
  | succ m ih =>
    intro i hi
    simp only [cn, ih (i + 1) (by omega), he i (by omega)]
theorem cn_set {C C' : Nat → Bool} {h : Nat} (he : ∀ j, j ≠ h → C' j = C j) (h1 : C h = false) (h2 : C' h = true) : ∀ m i, i ≤ h → h < i + m → cn C' m i = cn C m i + 1 := by
  intro m
  induction m with
  | zero => intro i a b; omega
  | succ m ih =>
    intro i a b
    by_cases z : i = h
    · subst z
      simp only [cn, h1, h2, if_true, Bool.false_eq_true, if_false, cn_ne he m (i + 1) (by omega)]
      omega
    · simp only [cn, ih (i + 1) (by omega) (by omega), he i z]
      omega
theorem cn_full {C : Nat → Bool} : ∀ m i, cn C m i = m → ∀ j, i ≤ j → j < i + m → C j = true := by
  intro m
  induction m with
  | zero => intro i _ j a b; omega
  | succ m ih =>
    intro i h j a b
    simp only [cn] at h
    have := cn_le C m (i + 1)
    by_cases z : C i = true
    · rw [if_pos z] at h
      by_cases y : j = i
      · subst y; exact z
      · exact ih (i + 1) (by omega) j (by omega) (by omega)
    · rw [if_neg z] at h; omega
theorem tb12 {b : Nat} (h : b < 4096) {j : Nat} (hj : b.testBit j = true) : j < 12 := by
  by_cases z : j < 12
  · exact z
  · rw [tb_lt (n := 12) h (by omega)] at hj
    exact absurd hj Bool.false_ne_true
set_option maxHeartbeats 1000000 in
theorem s_rcL {d r f M S0 : Nat} {Q : Option Value → gS → Prop} {σ : gS} {E : Nat → Nat} (hk : gK σ r = 21) (hN : gN σ r = 12) (hE : ∀ h, h < 12 → gI σ r h = nI (E h)) (hE2 : ∀ h, E h < 4096) (hM : M < 4096) (hS0 : S0 < 4096) (K : Q (some (.int (nI (rc (fun h => E h &&& M) 12 S0)))) σ) :
    ∀ m n seen todo (x6 x7 : Option Value), n + m = 12 → seen < 4096 → todo < 4096 → (∀ j, todo.testBit j = true → seen.testBit j = true) → cn (fun j => seen.testBit j && !todo.testBit j) 12 0 = n → (∀ j, S0.testBit j = true → seen.testBit j = true) → (∀ h, seen.testBit h = true → todo.testBit h = false → ∀ j, (E h &&& M).testBit j = true → seen.testBit j = true) → (∀ C : Nat → Prop, (∀ h, h < 12 → C h → ∀ j, (E h &&& M).testBit j = true → C j) → (∀ j, S0.testBit j = true → C j) → ∀ j, seen.testBit j = true → C j) →
    wp (d + 2) pr_1 Q 12 [some (.ref r), some (.int (nI f)), some (.int (nI M)), some (.int (nI seen)), some (.int (nI todo)), some (.int (nI n)), x6, x7] [] σ := by
  have hF : ∀ h, E h &&& M < 4096 := fun h => Nat.and_lt_two_pow (n := 12) _ hM
  have hk2 : 20 ≤ gK σ r ∧ gK σ r < 27 := by omega
  intro m
  induction m with
  | zero =>
    intro n seen todo x6 x7 hn h1 h2 h3 h4 h5 h6 h7
    have hn12 : n = 12 := by omega
    have hto : ∀ j, todo.testBit j = false := by
      intro j
      cases hj : todo.testBit j
      · rfl
      · have j12 := tb12 h2 hj
        have := cn_full 12 0 (h4.trans hn12) j (by omega) (by omega)
        rw [hj] at this
        simp at this
    have e := rc_uni (R := seen) (n := 12) hF hS0 h5 (fun h _ a j b => h6 h a (hto h) j b) h7
    rw [← e] at K
    have z : 12 ≤ n := by omega
    simp (disch := omega) only [e_1_12, e_1_14, e_1_16, e_1_75, e_1_76, n10, n01, Nat.lt_irrefl, Nat.not_lt_zero, ne_eq, Nat.add_zero, Nat.one_ne_zero, Nat.zero_ne_one, Nat.reduceEqDiff, bI_T, bI_F, bI_0, bI_1, bI_01, not_and_self, true_and, and_true, not_true_eq_false, not_false_eq_true, false_imp_iff, true_imp_iff, imp_self, gPv_n, gPv_i, gPv_r, gPv_0, Option.toList_some, Option.toList_none, List.singleton_append, List.cons_append, List.nil_append, List.length_nil, List.length_cons, Nat.zero_le, Nat.reduceAdd, Nat.reduceLeDiff, or_true, true_or, false_or, or_false, and_self, and_false, false_and, implies_true, Option.some.injEq, exists_eq_left', nL, nI_add, nI_mul, nI_clamp, nI_ltI, nI_leI, nI_eq, nI_pos, nI_pos', Nat.reduceAdd, Nat.reduceMul, Nat.reducePow, z]
    exact K
  | succ m ih =>
    intro n seen todo x6 x7 hn h1 h2 h3 h4 h5 h6 h7
    have z : ¬ 12 ≤ n := by omega
    by_cases t0 : todo = 0
    · have hto : ∀ j, todo.testBit j = false := by intro j; rw [t0]; exact Nat.zero_testBit j
      have e := rc_uni (R := seen) (n := 12) hF hS0 h5 (fun h _ a j b => h6 h a (hto h) j b) h7
      rw [← e] at K
      simp (disch := omega) only [e_1_12, e_1_14, e_1_16, e_1_19, e_1_21, e_1_75, e_1_76, n10, n01, Nat.lt_irrefl, Nat.not_lt_zero, ne_eq, Nat.add_zero, Nat.one_ne_zero, Nat.zero_ne_one, Nat.reduceEqDiff, bI_T, bI_F, bI_0, bI_1, bI_01, not_and_self, true_and, and_true, not_true_eq_false, not_false_eq_true, false_imp_iff, true_imp_iff, imp_self, gPv_n, gPv_i, gPv_r, gPv_0, Option.toList_some, Option.toList_none, List.singleton_append, List.cons_append, List.nil_append, List.length_nil, List.length_cons, Nat.zero_le, Nat.reduceAdd, Nat.reduceLeDiff, or_true, true_or, false_or, or_false, and_self, and_false, false_and, implies_true, Option.some.injEq, exists_eq_left', nL, nI_add, nI_mul, nI_clamp, nI_ltI, nI_leI, nI_eq, nI_pos, nI_pos', Nat.reduceAdd, Nat.reduceMul, Nat.reducePow, z, t0]
      exact K
    · obtain ⟨_, _, l3, l4, l5⟩ := lo_ok h2 t0
      generalize hlo : loB todo = h at l3 l4 l5
      have sl : ∀ (d : Nat) (Q : Option Value → gS → Prop), wc (d + 2) 162 [.int (nI todo)] σ Q ↔ Q (some (.int (nI h))) σ := fun d Q => by rw [s_lowest h2 t0, hlo]
      have eh := hE h l4
      have e1 : nI todo - nI 1 = nI (todo - 1) := nI_sub (by omega)
      rw [e_1_12]
      simp (disch := first | omega | assumption) only [e_1_14, e_1_16, e_1_19, e_1_21, e_1_24, e_1_26, e_1_29, e_1_31, e_1_33, e_1_34, e_1_35, e_1_38, e_1_39, e_1_40, e_1_41, e_1_43, e_1_44, e_1_45, e_1_46, e_1_47, e_1_48, e_1_49, e_1_50, e_1_52, e_1_53, e_1_55, e_1_56, e_1_57, e_1_59, e_1_61, e_1_62, e_1_63, e_1_64, e_1_66, e_1_67, e_1_69, e_1_72, n10, n01, Nat.lt_irrefl, Nat.not_lt_zero, ne_eq, Nat.add_zero, Nat.one_ne_zero, Nat.zero_ne_one, Nat.reduceEqDiff, bI_T, bI_F, bI_0, bI_1, bI_01, not_and_self, true_and, and_true, not_true_eq_false, not_false_eq_true, false_imp_iff, true_imp_iff, imp_self, gPv_n, gPv_i, gPv_r, gPv_0, Option.toList_some, Option.toList_none, List.singleton_append, List.cons_append, List.nil_append, List.length_nil, List.length_cons, Nat.zero_le, Nat.reduceAdd, Nat.reduceLeDiff, or_true, true_or, false_or, or_false, and_self, and_false, false_and, implies_true, Option.some.injEq, exists_eq_left', nL, nI_add, nI_mul, nI_clamp, nI_ltI, nI_leI, nI_eq, nI_pos, nI_pos', Nat.reduceAdd, Nat.reduceMul, Nat.reducePow, z, t0, sl, hk, hN, lg_len, l4, eh, nI_and, nI_ad, nI_or, e1, l5]
      have bs : ∀ j, (seen ||| ad (E h &&& M) seen).testBit j = (seen.testBit j || (E h &&& M).testBit j) := by
        intro j
        rw [Nat.testBit_or, tb_ad]
        cases seen.testBit j <;> simp
      have bt : ∀ j, (ad todo (2 ^ h) ||| ad (E h &&& M) seen).testBit j = (todo.testBit j && !decide (h = j) || (E h &&& M).testBit j && !seen.testBit j) := by
        intro j
        rw [Nat.testBit_or, tb_ad, tb_ad, Nat.testBit_two_pow]
      have al : ad (E h &&& M) seen < 4096 := by
        refine Nat.lt_pow_two_of_testBit (n := 12) _ ?_
        intro i hi
        rw [tb_ad, tb_lt (n := 12) (hF h) hi]
        rfl
      have al2 : ad todo (2 ^ h) < 4096 := by
        refine Nat.lt_pow_two_of_testBit (n := 12) _ ?_
        intro i hi
        rw [tb_ad, tb_lt (n := 12) h2 hi]
        rfl
      have hsh := h3 h l3
      refine ih (n + 1) _ _ _ _ (by omega) (Nat.or_lt_two_pow (n := 12) h1 al) (Nat.or_lt_two_pow (n := 12) al2 al) ?_ ?_ ?_ ?_ ?_
      · intro j hj
        rw [bt] at hj
        rw [bs]
        simp only [Bool.or_eq_true, Bool.and_eq_true] at hj ⊢
        rcases hj with hj | hj
        · exact Or.inl (h3 j hj.1)
        · exact Or.inr hj.1
      · rw [← h4]
        refine cn_set (h := h) ?_ ?_ ?_ 12 0 (by omega) (by omega)
        · intro j hj
          simp only [bs, bt]
          have : decide (h = j) = false := decide_eq_false (fun z => hj z.symm)
          rw [this]
          cases seen.testBit j <;> cases todo.testBit j <;> cases (E h &&& M).testBit j <;> rfl
        · simp only [l3, Bool.not_true, Bool.and_false]
        · simp only [bs, bt, hsh, decide_true, Bool.not_true, Bool.and_false, Bool.or_false, Bool.true_or, Bool.not_false, Bool.and_self]
      · intro j hj
        rw [bs, h5 j hj]
        rfl
      · intro h' a b j c
        rw [bs] at a ⊢
        rw [bt] at b
        by_cases zz : h' = h
        · subst zz
          rw [c, Bool.or_true]
        · have dz : decide (h = h') = false := decide_eq_false (fun z => zz z.symm)
          rw [dz] at b
          simp only [Bool.not_false, Bool.and_true, Bool.or_eq_false_iff] at b
          have a2 : seen.testBit h' = true := by
            cases hs : seen.testBit h'
            · rw [hs] at a b
              simp only [Bool.false_or, Bool.not_false, Bool.and_true] at a b
              rw [a] at b
              exact absurd b.2 (by simp)
            · rfl
          rw [h6 h' a2 b.1 j c]
          rfl
      · intro C hC h0 j hj
        rw [bs] at hj
        simp only [Bool.or_eq_true] at hj
        rcases hj with hj | hj
        · exact h7 C hC h0 j hj
        · exact hC h l4 (h7 C hC h0 h hsh) j hj
theorem s_reach {d r f M : Nat} {Q : Option Value → gS → Prop} {σ : gS} {E : Nat → Nat} (hk : gK σ r = 21) (hN : gN σ r = 12) (hE : ∀ h, h < 12 → gI σ r h = nI (E h)) (hE2 : ∀ h, E h < 4096) (hM : M < 4096) (hf : f < 12) : wc (d + 3) 1 [.ref r, .int (nI f), .int (nI M)] σ Q ↔ Q (some (.int (nI (rc (fun h => E h &&& M) 12 (2 ^ f &&& M))))) σ := by
  have hS0 : 2 ^ f &&& M < 4096 := Nat.and_lt_two_pow (n := 12) _ hM
  have main : ∀ Q : Option Value → gS → Prop, Q (some (.int (nI (rc (fun h => E h &&& M) 12 (2 ^ f &&& M))))) σ → wc (d + 3) 1 [.ref r, .int (nI f), .int (nI M)] σ Q := by
    intro Q K
    simp (disch := omega) only [c_1, e_1_0, e_1_1, e_1_2, e_1_3, e_1_4, e_1_5, e_1_6, e_1_7, e_1_9, e_1_10, n10, n01, Nat.lt_irrefl, Nat.not_lt_zero, ne_eq, Nat.add_zero, Nat.one_ne_zero, Nat.zero_ne_one, Nat.reduceEqDiff, bI_T, bI_F, bI_0, bI_1, bI_01, not_and_self, true_and, and_true, not_true_eq_false, not_false_eq_true, false_imp_iff, true_imp_iff, imp_self, gPv_n, gPv_i, gPv_r, gPv_0, Option.toList_some, Option.toList_none, List.singleton_append, List.cons_append, List.nil_append, List.length_nil, List.length_cons, Nat.zero_le, Nat.reduceAdd, Nat.reduceLeDiff, or_true, true_or, false_or, or_false, and_self, and_false, false_and, implies_true, Option.some.injEq, exists_eq_left', nL, nI_add, nI_mul, nI_clamp, nI_ltI, nI_leI, nI_eq, nI_pos, nI_pos', Nat.reduceAdd, Nat.reduceMul, Nat.reducePow, nI_shl, Nat.one_mul]
    simp only [nI_and]
    refine s_rcL hk hN hE hE2 hM hS0 K 12 0 _ _ _ _ (by omega) hS0 hS0 (fun _ h => h) ?_ (fun _ h => h) ?_ (fun C _ h0 => h0)
    · refine cn_0 ?_
      intro j _ _
      cases (2 ^ f &&& M).testBit j <;> rfl
    · intro h a b
      rw [a] at b
      exact absurd b (by simp)
  exact wc_one main
