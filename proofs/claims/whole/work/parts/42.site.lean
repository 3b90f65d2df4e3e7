/-! sites -/
def cn (C : Nat → Bool) : Nat → Nat → Nat
  | 0, _ => 0
  | m + 1, i => (if C i = true then 1 else 0) + cn C m (i + 1)
def fo (C : Nat → Bool) : Nat → Nat → Option Nat
  | 0, _ => none
  | m + 1, i => if C i = true then some i else fo C m (i + 1)
theorem cn_le (C : Nat → Bool) : ∀ m i, cn C m i ≤ m := by
  intro m
  induction m with
  | zero => intro i; exact Nat.le_refl 0
  | succ m ih =>
    intro i
    have := ih (i + 1)
    simp only [cn]
    split <;> omega
theorem cn_add (C : Nat → Bool) : ∀ a b i, cn C (a + b) i = cn C a i + cn C b (i + a) := by
  intro a
  induction a with
  | zero => intro b i; simp [cn]
  | succ a ih =>
    intro b i
    rw [show a + 1 + b = (a + b) + 1 from by omega]
    simp only [cn, ih b (i + 1)]
    rw [show i + 1 + a = i + (a + 1) from by omega]
    omega
theorem fo_add (C : Nat → Bool) : ∀ a b i, fo C (a + b) i = (fo C a i).or (fo C b (i + a)) := by
  intro a
  induction a with
  | zero => intro b i; simp [fo]
  | succ a ih =>
    intro b i
    rw [show a + 1 + b = (a + b) + 1 from by omega]
    simp only [fo, ih b (i + 1)]
    rw [show i + 1 + a = i + (a + 1) from by omega]
    split <;> rfl
theorem cn_0 {C : Nat → Bool} : ∀ {m i}, (∀ j, i ≤ j → j < i + m → C j = false) → cn C m i = 0 := by
  intro m
  induction m with
  | zero => intro i _; rfl
  | succ m ih =>
    intro i h
    have e := ih (i := i + 1) (fun j h1 h2 => h j (by omega) (by omega))
    simp only [cn, h i (by omega) (by omega), e, Bool.false_eq_true, if_false, Nat.add_zero]
theorem fo_0 {C : Nat → Bool} : ∀ {m i}, (∀ j, i ≤ j → j < i + m → C j = false) → fo C m i = none := by
  intro m
  induction m with
  | zero => intro i _; rfl
  | succ m ih =>
    intro i h
    have e := ih (i := i + 1) (fun j h1 h2 => h j (by omega) (by omega))
    simp only [fo, h i (by omega) (by omega), e, Bool.false_eq_true, if_false, Nat.add_zero]
def sbC (A : Nat → Int32) (w e f g x y h : Nat) : Bool := decide (mtA A x y w e h = 3) || (f.testBit h && decide (mtA A x y w e h ≠ 1)) || (g.testBit h && decide (mtA A x y w e h ≠ 0))
def sbM (A : Nat → Int32) (w e f g x y h : Nat) : Bool := (f.testBit h && decide (tcA A x y w e h ≠ 1)) || (g.testBit h && decide (tcA A x y w e h ≠ 0))
def siB (A : Nat → Int32) (w e f g p : Nat) : Bool := decide (p % 8 + w ≤ 8 ∧ p / 8 + e ≤ 8) && !anyB (sbC A w e f g (p % 8) (p / 8)) (hn A) 0
def siR (s n : Nat) (o : Option Nat) : Int32 := if s = 0 then nI n else match o with
  | none => -nI 1
  | some p => if s = 1 then nI (p % 8) else nI (p / 8)
set_option maxHeartbeats 2000000 in
theorem s_su {d : Nat} {Q : Option Value → gS → Prop} {B x y w e f g : Nat} {σ : gS} {A : Nat → Int32} (hv : IvS B σ) (wh : Wh A) (gh : Th (B + 1) σ A) (hx : x < 1000) (hy : y < 1000) (hw : w < 1000) (he : e < 1000) (hf : f < 4096) (hg : g < 4096) : ∀ m i : Nat, i + m = hn A → ∀ x8 x9 x10 : Option Value, (wp (d + 2) pr_110 Q 3 [some (.ref (B + 1)), some (.int (nI x)), some (.int (nI y)), some (.int (nI w)), some (.int (nI e)), some (.int (nI f)), some (.int (nI g)), some (.int (nI i)), x8, x9, x10] [] σ ↔ Q (some (.int (bI (anyB (sbC A w e f g x y) m i = false)))) σ) := by
  have h12 := hn_le wh
  intro m
  induction m with
  | zero =>
    intro i hi x8 x9 x10
    have z : hn A ≤ i := by omega
    simp (disch := omega) only [e_110_3, e_110_5, e_110_6, e_110_9, e_110_96, e_110_97, n10, n01, Nat.lt_irrefl, Nat.not_lt_zero, ne_eq, Nat.add_zero, Nat.one_ne_zero, Nat.zero_ne_one, Nat.reduceEqDiff, bI_T, bI_F, bI_0, bI_1, bI_01, not_and_self, true_and, and_true, not_true_eq_false, not_false_eq_true, false_imp_iff, true_imp_iff, imp_self, gPv_n, gPv_i, gPv_r, gPv_0, Option.toList_some, Option.toList_none, List.singleton_append, List.cons_append, List.nil_append, List.length_nil, List.length_cons, Nat.zero_le, Nat.reduceAdd, Nat.reduceLeDiff, or_true, true_or, false_or, or_false, and_self, and_false, false_and, implies_true, Option.some.injEq, exists_eq_left', nL, nI_add, nI_mul, nI_clamp, nI_ltI, nI_leI, nI_eq, nI_pos, nI_pos', Nat.reduceAdd, Nat.reduceMul, Nat.reducePow, sk_1 hv, sr_1_0 hv, sr_1_1 hv, sr_1_2 hv, sr_1_3 hv, sr_1_4 hv, sr_1_7 hv, sr_1_9 hv, sr_1_14 hv, sr_1_15 hv, sr_1_16 hv, gh.1, hn_eq wh, z, anyB]
  | succ m ih =>
    intro i hi x8 x9 x10
    have z : ¬ hn A ≤ i := by omega
    have z3 : mtA A x y w e i < 2147483648 := Nat.lt_of_le_of_lt mt_le (by omega)
    rw [e_110_3]
    simp (disch := omega) only [e_110_5, e_110_6, e_110_9, e_110_12, e_110_13, e_110_14, e_110_15, e_110_16, e_110_18, e_110_20, e_110_23, e_110_25, e_110_27, e_110_29, e_110_32, e_110_33, e_110_36, e_110_38, e_110_39, e_110_42, e_110_43, e_110_46, e_110_47, e_110_49, e_110_51, e_110_53, e_110_56, e_110_57, e_110_60, e_110_62, e_110_65, e_110_66, e_110_69, e_110_70, e_110_72, e_110_74, e_110_75, e_110_78, e_110_80, e_110_83, e_110_85, e_110_88, e_110_89, e_110_90, e_110_93, n10, n01, Nat.lt_irrefl, Nat.not_lt_zero, ne_eq, Nat.add_zero, Nat.one_ne_zero, Nat.zero_ne_one, Nat.reduceEqDiff, bI_T, bI_F, bI_0, bI_1, bI_01, not_and_self, true_and, and_true, not_true_eq_false, not_false_eq_true, false_imp_iff, true_imp_iff, imp_self, gPv_n, gPv_i, gPv_r, gPv_0, Option.toList_some, Option.toList_none, List.singleton_append, List.cons_append, List.nil_append, List.length_nil, List.length_cons, Nat.zero_le, Nat.reduceAdd, Nat.reduceLeDiff, or_true, true_or, false_or, or_false, and_self, and_false, false_and, implies_true, Option.some.injEq, exists_eq_left', nL, nI_add, nI_mul, nI_clamp, nI_ltI, nI_leI, nI_eq, nI_pos, nI_pos', Nat.reduceAdd, Nat.reduceMul, Nat.reducePow, sk_1 hv, sr_1_0 hv, sr_1_1 hv, sr_1_2 hv, sr_1_3 hv, sr_1_4 hv, sr_1_7 hv, sr_1_9 hv, sr_1_14 hv, sr_1_15 hv, sr_1_16 hv, gh.1, hn_eq wh, z, s_meeting hv wh gh (show i < hn A by omega), s_bitOf, nI_bit]
    have ih := ih (i + 1) (by omega)
    by_cases c3 : mtA A x y w e i = 3
    · have c1 : ¬ mtA A x y w e i = 1 := by omega
      have c0 : ¬ mtA A x y w e i = 0 := by omega
      by_cases b1 : f.testBit i = true <;> by_cases b2 : g.testBit i = true <;> simp only [anyB, sbC, c3, c1, c0, b1, b2, n10, n01, Nat.lt_irrefl, Nat.not_lt_zero, ne_eq, Nat.add_zero, Nat.one_ne_zero, Nat.zero_ne_one, Nat.reduceEqDiff, bI_T, bI_F, bI_0, bI_1, bI_01, not_and_self, true_and, and_true, not_true_eq_false, not_false_eq_true, false_imp_iff, true_imp_iff, imp_self, gPv_n, gPv_i, gPv_r, gPv_0, Option.toList_some, Option.toList_none, List.singleton_append, List.cons_append, List.nil_append, List.length_nil, List.length_cons, Nat.zero_le, Nat.reduceAdd, Nat.reduceLeDiff, or_true, true_or, false_or, or_false, and_self, and_false, false_and, implies_true, Option.some.injEq, exists_eq_left', decide_true, Bool.true_or, Bool.true_eq_false, Bool.false_eq_true, Nat.reduceEqDiff]
    · by_cases c1 : mtA A x y w e i = 1
      · have c0 : ¬ mtA A x y w e i = 0 := by omega
        by_cases b1 : f.testBit i = true <;> by_cases b2 : g.testBit i = true <;> simp only [anyB, sbC, c3, c1, c0, b1, b2, n10, n01, Nat.lt_irrefl, Nat.not_lt_zero, ne_eq, Nat.add_zero, Nat.one_ne_zero, Nat.zero_ne_one, Nat.reduceEqDiff, bI_T, bI_F, bI_0, bI_1, bI_01, not_and_self, true_and, and_true, not_true_eq_false, not_false_eq_true, false_imp_iff, true_imp_iff, imp_self, gPv_n, gPv_i, gPv_r, gPv_0, Option.toList_some, Option.toList_none, List.singleton_append, List.cons_append, List.nil_append, List.length_nil, List.length_cons, Nat.zero_le, Nat.reduceAdd, Nat.reduceLeDiff, or_true, true_or, false_or, or_false, and_self, and_false, false_and, implies_true, Option.some.injEq, exists_eq_left', decide_true, decide_false, Bool.true_or, Bool.false_or, Bool.or_true, Bool.and_true, Bool.and_false, Bool.true_and, Bool.false_and, Bool.or_false, Bool.not_true, Bool.true_eq_false, Bool.false_eq_true, Nat.reduceEqDiff, ih]
      · by_cases c0 : mtA A x y w e i = 0
        · by_cases b1 : f.testBit i = true <;> by_cases b2 : g.testBit i = true <;> simp only [anyB, sbC, c3, c1, c0, b1, b2, n10, n01, Nat.lt_irrefl, Nat.not_lt_zero, ne_eq, Nat.add_zero, Nat.one_ne_zero, Nat.zero_ne_one, Nat.reduceEqDiff, bI_T, bI_F, bI_0, bI_1, bI_01, not_and_self, true_and, and_true, not_true_eq_false, not_false_eq_true, false_imp_iff, true_imp_iff, imp_self, gPv_n, gPv_i, gPv_r, gPv_0, Option.toList_some, Option.toList_none, List.singleton_append, List.cons_append, List.nil_append, List.length_nil, List.length_cons, Nat.zero_le, Nat.reduceAdd, Nat.reduceLeDiff, or_true, true_or, false_or, or_false, and_self, and_false, false_and, implies_true, Option.some.injEq, exists_eq_left', decide_true, decide_false, Bool.true_or, Bool.false_or, Bool.or_true, Bool.and_true, Bool.and_false, Bool.true_and, Bool.false_and, Bool.or_false, Bool.not_true, Bool.true_eq_false, Bool.false_eq_true, Nat.reduceEqDiff, ih]
        · by_cases b1 : f.testBit i = true <;> by_cases b2 : g.testBit i = true <;> simp only [anyB, sbC, c3, c1, c0, b1, b2, n10, n01, Nat.lt_irrefl, Nat.not_lt_zero, ne_eq, Nat.add_zero, Nat.one_ne_zero, Nat.zero_ne_one, Nat.reduceEqDiff, bI_T, bI_F, bI_0, bI_1, bI_01, not_and_self, true_and, and_true, not_true_eq_false, not_false_eq_true, false_imp_iff, true_imp_iff, imp_self, gPv_n, gPv_i, gPv_r, gPv_0, Option.toList_some, Option.toList_none, List.singleton_append, List.cons_append, List.nil_append, List.length_nil, List.length_cons, Nat.zero_le, Nat.reduceAdd, Nat.reduceLeDiff, or_true, true_or, false_or, or_false, and_self, and_false, false_and, implies_true, Option.some.injEq, exists_eq_left', decide_true, decide_false, Bool.true_or, Bool.false_or, Bool.or_true, Bool.and_true, Bool.and_false, Bool.true_and, Bool.false_and, Bool.or_false, Bool.not_true, Bool.true_eq_false, Bool.false_eq_true, ih]
theorem s_suits {d : Nat} {Q : Option Value → gS → Prop} {B x y w e f g : Nat} {σ : gS} {A : Nat → Int32} (hv : IvS B σ) (wh : Wh A) (gh : Th (B + 1) σ A) (hx : x < 1000) (hy : y < 1000) (hw : w < 1000) (he : e < 1000) (hf : f < 4096) (hg : g < 4096) : wc (d + 3) 110 [.ref (B + 1), .int (nI x), .int (nI y), .int (nI w), .int (nI e), .int (nI f), .int (nI g)] σ Q ↔ Q (some (.int (bI (anyB (sbC A w e f g x y) (hn A) 0 = false)))) σ := by
  simp only [c_110, e_110_0, e_110_1, n10, n01, Nat.lt_irrefl, Nat.not_lt_zero, ne_eq, Nat.add_zero, Nat.one_ne_zero, Nat.zero_ne_one, Nat.reduceEqDiff, bI_T, bI_F, bI_0, bI_1, bI_01, not_and_self, true_and, and_true, not_true_eq_false, not_false_eq_true, false_imp_iff, true_imp_iff, imp_self, gPv_n, gPv_i, gPv_r, gPv_0, Option.toList_some, Option.toList_none, List.singleton_append, List.cons_append, List.nil_append, List.length_nil, List.length_cons, Nat.zero_le, Nat.reduceAdd, Nat.reduceLeDiff, or_true, true_or, false_or, or_false, and_self, and_false, false_and, implies_true, Option.some.injEq, exists_eq_left', nL]
  exact s_su hv wh gh hx hy hw he hf hg (hn A) 0 (by omega) _ _ _
theorem s_si1 {d : Nat} {Q : Option Value → gS → Prop} {B y w e f g s N : Nat} {O : Option Nat} {σ : gS} {A : Nat → Int32} (hv : IvS B σ) (wh : Wh A) (gh : Th (B + 1) σ A) (hy : y + e ≤ 8) (hw1 : 1 ≤ w) (hw : w ≤ 3) (he : e ≤ 3) (hf : f < 4096) (hg : g < 4096) (hs : s ≤ 2)
    (hK : ∀ (fd : Nat) (x8 : Option Value), wp (d + 3) pr_148 Q 123 [some (.ref B), some (.int (nI w)), some (.int (nI e)), some (.int (nI f)), some (.int (nI g)), some (.int (nI s)), some (.int (nI fd)), some (.int (nI y)), x8] [] σ ↔ Q (some (.int (siR s (fd + N) O))) σ) :
    ∀ m x fd : Nat, x + m = 9 - w → (wp (d + 3) pr_148 Q 67 [some (.ref B), some (.int (nI w)), some (.int (nI e)), some (.int (nI f)), some (.int (nI g)), some (.int (nI s)), some (.int (nI fd)), some (.int (nI y)), some (.int (nI x))] [] σ ↔ Q (some (.int (siR s (fd + cn (siB A w e f g) m (8 * y + x) + N) ((fo (siB A w e f g) m (8 * y + x)).or O)))) σ) := by
  intro m
  induction m with
  | zero =>
    intro x fd hx
    have z : 8 < x + w := by omega
    simp (disch := omega) only [e_148_67, e_148_69, e_148_70, e_148_71, e_148_73, n10, n01, Nat.lt_irrefl, Nat.not_lt_zero, ne_eq, Nat.add_zero, Nat.one_ne_zero, Nat.zero_ne_one, Nat.reduceEqDiff, bI_T, bI_F, bI_0, bI_1, bI_01, not_and_self, true_and, and_true, not_true_eq_false, not_false_eq_true, false_imp_iff, true_imp_iff, imp_self, gPv_n, gPv_i, gPv_r, gPv_0, Option.toList_some, Option.toList_none, List.singleton_append, List.cons_append, List.nil_append, List.length_nil, List.length_cons, Nat.zero_le, Nat.reduceAdd, Nat.reduceLeDiff, or_true, true_or, false_or, or_false, and_self, and_false, false_and, implies_true, Option.some.injEq, exists_eq_left', nL, nI_add, nI_mul, nI_clamp, nI_ltI, nI_leI, nI_eq, nI_pos, nI_pos', Nat.reduceAdd, Nat.reduceMul, Nat.reducePow, z, cn, fo, Option.none_or]
    exact hK fd _
  | succ m ih =>
    intro x fd hx
    have z : ¬ 8 < x + w := by omega
    have z8 : (8 * y + x) % 8 = x := by omega
    have z9 : (8 * y + x) / 8 = y := by omega
    have z7 : x + w ≤ 8 ∧ y + e ≤ 8 := by omega
    rw [e_148_67]
    simp (disch := omega) only [e_148_69, e_148_70, e_148_71, e_148_73, e_148_76, e_148_77, e_148_80, e_148_82, e_148_84, e_148_85, e_148_86, e_148_87, e_148_89, e_148_92, e_148_95, e_148_97, e_148_100, e_148_102, e_148_103, e_148_106, e_148_108, e_148_111, e_148_113, e_148_114, e_148_117, e_148_120, n10, n01, Nat.lt_irrefl, Nat.not_lt_zero, ne_eq, Nat.add_zero, Nat.one_ne_zero, Nat.zero_ne_one, Nat.reduceEqDiff, bI_T, bI_F, bI_0, bI_1, bI_01, not_and_self, true_and, and_true, not_true_eq_false, not_false_eq_true, false_imp_iff, true_imp_iff, imp_self, gPv_n, gPv_i, gPv_r, gPv_0, Option.toList_some, Option.toList_none, List.singleton_append, List.cons_append, List.nil_append, List.length_nil, List.length_cons, Nat.zero_le, Nat.reduceAdd, Nat.reduceLeDiff, or_true, true_or, false_or, or_false, and_self, and_false, false_and, implies_true, Option.some.injEq, exists_eq_left', nL, nI_add, nI_mul, nI_clamp, nI_ltI, nI_leI, nI_eq, nI_pos, nI_pos', Nat.reduceAdd, Nat.reduceMul, Nat.reducePow, sk_0 hv, sr_0_0 hv, sr_0_1 hv, sr_0_2 hv, sr_0_4 hv, sr_0_7 hv, sr_0_9 hv, sr_0_10 hv, sr_0_11 hv, sr_0_12 hv, sr_0_13 hv, sr_0_14 hv, sk_1 hv, sr_1_0 hv, sr_1_1 hv, sr_1_2 hv, sr_1_3 hv, sr_1_4 hv, sr_1_7 hv, sr_1_9 hv, sr_1_14 hv, sr_1_15 hv, sr_1_16 hv, z, s_suits hv wh gh]
    have ih := fun fd => ih (x + 1) fd (by omega)
    rw [show 8 * y + (x + 1) = 8 * y + x + 1 from by omega] at ih
    by_cases c : anyB (sbC A w e f g x y) (hn A) 0 = false
    · have c' : siB A w e f g (8 * y + x) = true := by simp only [siB, z8, z9, c, z7, and_self, decide_true, Bool.not_false, Bool.and_self]
      have hs' : s = 0 ∨ s = 1 ∨ s = 2 := by omega
      rcases hs' with rfl | rfl | rfl
      · simp (disch := omega) only [c, c', n10, n01, Nat.lt_irrefl, Nat.not_lt_zero, ne_eq, Nat.add_zero, Nat.one_ne_zero, Nat.zero_ne_one, Nat.reduceEqDiff, bI_T, bI_F, bI_0, bI_1, bI_01, not_and_self, true_and, and_true, not_true_eq_false, not_false_eq_true, false_imp_iff, true_imp_iff, imp_self, gPv_n, gPv_i, gPv_r, gPv_0, Option.toList_some, Option.toList_none, List.singleton_append, List.cons_append, List.nil_append, List.length_nil, List.length_cons, Nat.zero_le, Nat.reduceAdd, Nat.reduceLeDiff, or_true, true_or, false_or, or_false, and_self, and_false, false_and, implies_true, Option.some.injEq, exists_eq_left', nL, nI_add, nI_mul, nI_clamp, nI_ltI, nI_leI, nI_eq, nI_pos, nI_pos', Nat.reduceAdd, Nat.reduceMul, Nat.reducePow, cn, fo, if_true, ih]
        simp only [siR, if_true]
        rw [show fd + 1 + cn (siB A w e f g) m (8 * y + x + 1) + N = fd + (1 + cn (siB A w e f g) m (8 * y + x + 1)) + N from by omega]
      · simp (disch := omega) only [c, c', n10, n01, Nat.lt_irrefl, Nat.not_lt_zero, ne_eq, Nat.add_zero, Nat.one_ne_zero, Nat.zero_ne_one, Nat.reduceEqDiff, bI_T, bI_F, bI_0, bI_1, bI_01, not_and_self, true_and, and_true, not_true_eq_false, not_false_eq_true, false_imp_iff, true_imp_iff, imp_self, gPv_n, gPv_i, gPv_r, gPv_0, Option.toList_some, Option.toList_none, List.singleton_append, List.cons_append, List.nil_append, List.length_nil, List.length_cons, Nat.zero_le, Nat.reduceAdd, Nat.reduceLeDiff, or_true, true_or, false_or, or_false, and_self, and_false, false_and, implies_true, Option.some.injEq, exists_eq_left', nL, nI_add, nI_mul, nI_clamp, nI_ltI, nI_leI, nI_eq, nI_pos, nI_pos', Nat.reduceAdd, Nat.reduceMul, Nat.reducePow, cn, fo, if_true, Option.some_or, siR, if_false, z8]
      · simp (disch := omega) only [c, c', n10, n01, Nat.lt_irrefl, Nat.not_lt_zero, ne_eq, Nat.add_zero, Nat.one_ne_zero, Nat.zero_ne_one, Nat.reduceEqDiff, bI_T, bI_F, bI_0, bI_1, bI_01, not_and_self, true_and, and_true, not_true_eq_false, not_false_eq_true, false_imp_iff, true_imp_iff, imp_self, gPv_n, gPv_i, gPv_r, gPv_0, Option.toList_some, Option.toList_none, List.singleton_append, List.cons_append, List.nil_append, List.length_nil, List.length_cons, Nat.zero_le, Nat.reduceAdd, Nat.reduceLeDiff, or_true, true_or, false_or, or_false, and_self, and_false, false_and, implies_true, Option.some.injEq, exists_eq_left', nL, nI_add, nI_mul, nI_clamp, nI_ltI, nI_leI, nI_eq, nI_pos, nI_pos', Nat.reduceAdd, Nat.reduceMul, Nat.reducePow, cn, fo, if_true, Option.some_or, siR, if_false, z9]
    · have c : anyB (sbC A w e f g x y) (hn A) 0 = true := by simpa using c
      have c' : siB A w e f g (8 * y + x) = false := by simp only [siB, z8, z9, c, Bool.not_true, Bool.and_false]
      simp (disch := omega) only [c, c', n10, n01, Nat.lt_irrefl, Nat.not_lt_zero, ne_eq, Nat.add_zero, Nat.one_ne_zero, Nat.zero_ne_one, Nat.reduceEqDiff, bI_T, bI_F, bI_0, bI_1, bI_01, not_and_self, true_and, and_true, not_true_eq_false, not_false_eq_true, false_imp_iff, true_imp_iff, imp_self, gPv_n, gPv_i, gPv_r, gPv_0, Option.toList_some, Option.toList_none, List.singleton_append, List.cons_append, List.nil_append, List.length_nil, List.length_cons, Nat.zero_le, Nat.reduceAdd, Nat.reduceLeDiff, or_true, true_or, false_or, or_false, and_self, and_false, false_and, implies_true, Option.some.injEq, exists_eq_left', nL, nI_add, nI_mul, nI_clamp, nI_ltI, nI_leI, nI_eq, nI_pos, nI_pos', Nat.reduceAdd, Nat.reduceMul, Nat.reducePow, cn, fo, if_false, Bool.true_eq_false, Bool.false_eq_true, ih, Nat.zero_add]
theorem s_si2 {d : Nat} {Q : Option Value → gS → Prop} {B w e f g s : Nat} {σ : gS} {A : Nat → Int32} (hv : IvS B σ) (wh : Wh A) (gh : Th (B + 1) σ A) (hw1 : 1 ≤ w) (hw : w ≤ 3) (he1 : 1 ≤ e) (he : e ≤ 3) (hf : f < 4096) (hg : g < 4096) (hs : s ≤ 2) :
    ∀ k y fd : Nat, y + k = 9 - e → ∀ x8 : Option Value, (wp (d + 3) pr_148 Q 55 [some (.ref B), some (.int (nI w)), some (.int (nI e)), some (.int (nI f)), some (.int (nI g)), some (.int (nI s)), some (.int (nI fd)), some (.int (nI y)), x8] [] σ ↔ Q (some (.int (siR s (fd + cn (siB A w e f g) (8 * k) (8 * y)) (fo (siB A w e f g) (8 * k) (8 * y))))) σ) := by
  intro k
  induction k with
  | zero =>
    intro y fd hy x8
    have z : 8 < y + e := by omega
    have hs' : s = 0 ∨ s = 1 ∨ s = 2 := by omega
    rcases hs' with rfl | rfl | rfl
    · simp (disch := omega) only [e_148_55, e_148_57, e_148_58, e_148_59, e_148_61, e_148_129, e_148_131, e_148_134, e_148_136, e_148_139, e_148_140, n10, n01, Nat.lt_irrefl, Nat.not_lt_zero, ne_eq, Nat.add_zero, Nat.one_ne_zero, Nat.zero_ne_one, Nat.reduceEqDiff, bI_T, bI_F, bI_0, bI_1, bI_01, not_and_self, true_and, and_true, not_true_eq_false, not_false_eq_true, false_imp_iff, true_imp_iff, imp_self, gPv_n, gPv_i, gPv_r, gPv_0, Option.toList_some, Option.toList_none, List.singleton_append, List.cons_append, List.nil_append, List.length_nil, List.length_cons, Nat.zero_le, Nat.reduceAdd, Nat.reduceLeDiff, or_true, true_or, false_or, or_false, and_self, and_false, false_and, implies_true, Option.some.injEq, exists_eq_left', nL, nI_add, nI_mul, nI_clamp, nI_ltI, nI_leI, nI_eq, nI_pos, nI_pos', Nat.reduceAdd, Nat.reduceMul, Nat.reducePow, z, cn, fo, siR, if_true]
    · simp (disch := omega) only [e_148_55, e_148_57, e_148_58, e_148_59, e_148_61, e_148_129, e_148_131, e_148_134, e_148_136, e_148_139, e_148_140, n10, n01, Nat.lt_irrefl, Nat.not_lt_zero, ne_eq, Nat.add_zero, Nat.one_ne_zero, Nat.zero_ne_one, Nat.reduceEqDiff, bI_T, bI_F, bI_0, bI_1, bI_01, not_and_self, true_and, and_true, not_true_eq_false, not_false_eq_true, false_imp_iff, true_imp_iff, imp_self, gPv_n, gPv_i, gPv_r, gPv_0, Option.toList_some, Option.toList_none, List.singleton_append, List.cons_append, List.nil_append, List.length_nil, List.length_cons, Nat.zero_le, Nat.reduceAdd, Nat.reduceLeDiff, or_true, true_or, false_or, or_false, and_self, and_false, false_and, implies_true, Option.some.injEq, exists_eq_left', nL, nI_add, nI_mul, nI_clamp, nI_ltI, nI_leI, nI_eq, nI_pos, nI_pos', Nat.reduceAdd, Nat.reduceMul, Nat.reducePow, z, cn, fo, siR, if_false]
    · simp (disch := omega) only [e_148_55, e_148_57, e_148_58, e_148_59, e_148_61, e_148_129, e_148_131, e_148_134, e_148_136, e_148_139, e_148_140, n10, n01, Nat.lt_irrefl, Nat.not_lt_zero, ne_eq, Nat.add_zero, Nat.one_ne_zero, Nat.zero_ne_one, Nat.reduceEqDiff, bI_T, bI_F, bI_0, bI_1, bI_01, not_and_self, true_and, and_true, not_true_eq_false, not_false_eq_true, false_imp_iff, true_imp_iff, imp_self, gPv_n, gPv_i, gPv_r, gPv_0, Option.toList_some, Option.toList_none, List.singleton_append, List.cons_append, List.nil_append, List.length_nil, List.length_cons, Nat.zero_le, Nat.reduceAdd, Nat.reduceLeDiff, or_true, true_or, false_or, or_false, and_self, and_false, false_and, implies_true, Option.some.injEq, exists_eq_left', nL, nI_add, nI_mul, nI_clamp, nI_ltI, nI_leI, nI_eq, nI_pos, nI_pos', Nat.reduceAdd, Nat.reduceMul, Nat.reducePow, z, cn, fo, siR, if_false]
  | succ k ih =>
    intro y fd hy x8
    have z : ¬ 8 < y + e := by omega
    rw [e_148_55]
    simp (disch := omega) only [e_148_57, e_148_58, e_148_59, e_148_61, e_148_64, e_148_65, n10, n01, Nat.lt_irrefl, Nat.not_lt_zero, ne_eq, Nat.add_zero, Nat.one_ne_zero, Nat.zero_ne_one, Nat.reduceEqDiff, bI_T, bI_F, bI_0, bI_1, bI_01, not_and_self, true_and, and_true, not_true_eq_false, not_false_eq_true, false_imp_iff, true_imp_iff, imp_self, gPv_n, gPv_i, gPv_r, gPv_0, Option.toList_some, Option.toList_none, List.singleton_append, List.cons_append, List.nil_append, List.length_nil, List.length_cons, Nat.zero_le, Nat.reduceAdd, Nat.reduceLeDiff, or_true, true_or, false_or, or_false, and_self, and_false, false_and, implies_true, Option.some.injEq, exists_eq_left', nL, nI_add, nI_mul, nI_clamp, nI_ltI, nI_leI, nI_eq, nI_pos, nI_pos', Nat.reduceAdd, Nat.reduceMul, Nat.reducePow, z]
    have hK : ∀ (fd : Nat) (x8 : Option Value), wp (d + 3) pr_148 Q 123 [some (.ref B), some (.int (nI w)), some (.int (nI e)), some (.int (nI f)), some (.int (nI g)), some (.int (nI s)), some (.int (nI fd)), some (.int (nI y)), x8] [] σ ↔ Q (some (.int (siR s (fd + cn (siB A w e f g) (8 * k) (8 * (y + 1))) (fo (siB A w e f g) (8 * k) (8 * (y + 1)))))) σ := by
      intro fd x8
      simp (disch := omega) only [e_148_123, e_148_126, n10, n01, Nat.lt_irrefl, Nat.not_lt_zero, ne_eq, Nat.add_zero, Nat.one_ne_zero, Nat.zero_ne_one, Nat.reduceEqDiff, bI_T, bI_F, bI_0, bI_1, bI_01, not_and_self, true_and, and_true, not_true_eq_false, not_false_eq_true, false_imp_iff, true_imp_iff, imp_self, gPv_n, gPv_i, gPv_r, gPv_0, Option.toList_some, Option.toList_none, List.singleton_append, List.cons_append, List.nil_append, List.length_nil, List.length_cons, Nat.zero_le, Nat.reduceAdd, Nat.reduceLeDiff, or_true, true_or, false_or, or_false, and_self, and_false, false_and, implies_true, Option.some.injEq, exists_eq_left', nL, nI_add, nI_mul, nI_clamp, nI_ltI, nI_leI, nI_eq, nI_pos, nI_pos', Nat.reduceAdd, Nat.reduceMul, Nat.reducePow]
      exact ih (y + 1) fd (by omega) x8
    have r := s_si1 hv wh gh (by omega) hw1 hw he hf hg hs hK (9 - w) 0 fd (by omega)
    simp only [Nat.add_zero] at r
    rw [r]
    have q0 : ∀ j, 8 * y + (9 - w) ≤ j → j < 8 * y + (9 - w) + (w - 1) → siB A w e f g j = false := by
      intro j h1 h2
      have : ¬ (j % 8 + w ≤ 8) := by omega
      simp only [siB, this, false_and, decide_false, Bool.false_and]
    have e1 : cn (siB A w e f g) (8 * (k + 1)) (8 * y) = cn (siB A w e f g) (9 - w) (8 * y) + cn (siB A w e f g) (8 * k) (8 * (y + 1)) := by
      rw [show 8 * (k + 1) = (9 - w) + (w - 1) + 8 * k from by omega, cn_add, cn_add, cn_0 q0, show 8 * y + (9 - w + (w - 1)) = 8 * (y + 1) from by omega]
      omega
    have e2 : fo (siB A w e f g) (8 * (k + 1)) (8 * y) = (fo (siB A w e f g) (9 - w) (8 * y)).or (fo (siB A w e f g) (8 * k) (8 * (y + 1))) := by
      rw [show 8 * (k + 1) = (9 - w) + (w - 1) + 8 * k from by omega, fo_add, fo_add, fo_0 q0, show 8 * y + (9 - w + (w - 1)) = 8 * (y + 1) from by omega, Option.or_none]
    rw [e1, e2, Nat.add_assoc]
