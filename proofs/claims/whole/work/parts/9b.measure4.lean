/-! the class's measure: what it starts from -/
theorem zClp_r (o : Option Int64) : ∃ n : Nat, 1 ≤ n ∧ n ≤ 99 ∧ zClp o = nI n := by
  cases o with
  | none => exact ⟨1, by omega, by omega, rfl⟩
  | some v =>
    simp only [zClp]
    by_cases c1 : v < 1
    · exact ⟨1, by omega, by omega, by rw [if_pos c1]; rfl⟩
    · rw [if_neg c1]
      by_cases c2 : 99 < v
      · exact ⟨99, by omega, by omega, by rw [if_pos c2]; rfl⟩
      · rw [if_neg c2]
        have h1 := Int64.not_lt.mp c1
        have h2 := Int64.not_lt.mp c2
        rw [Int64.le_iff_toInt_le] at h1 h2
        have e1 : (1 : Int64).toInt = 1 := by decide
        have e2 : (99 : Int64).toInt = 99 := by decide
        rw [e1] at h1
        rw [e2] at h2
        refine ⟨v.toInt.toNat, by omega, by omega, Int32.toInt_inj.mp ?_⟩
        rw [Int64.toInt_toInt32, nI_toInt (by omega), Int.bmod_eq_of_le (by omega) (by omega)]
        omega
theorem zTak_r (L : List zC) (W : Nat → Int32) : ∃ n : Nat, 1 ≤ n ∧ n ≤ 99 ∧ zTak L W = nI n := by
  have : ∀ (L : List zC) (x : Int32), (∃ n : Nat, 1 ≤ n ∧ n ≤ 99 ∧ x = nI n) → ∃ n : Nat, 1 ≤ n ∧ n ≤ 99 ∧ L.foldl (zTkF W) x = nI n := by
    intro L
    induction L with
    | nil => intro x h; exact h
    | cons c L ih =>
      intro x h
      rw [List.foldl_cons]
      refine ih _ ?_
      simp only [zTkF]
      by_cases z : (c.1 && zHo c W) = true
      · rw [if_pos z]; exact zClp_r _
      · rw [if_neg z]; exact h
  exact this L 1 ⟨1, by omega, by omega, rfl⟩
def wM (A : Nat → Int32) (a b : Nat) : Nat := (tks A a b (A (72 + 12 * a + b)) (A 249)).toNatClampNeg
theorem wM_r {A : Nat → Int32} {a b : Nat} : tks A a b (A (72 + 12 * a + b)) (A 249) = nI (wM A a b) ∧ 1 ≤ wM A a b ∧ wM A a b ≤ 99 := by
  obtain ⟨n, h1, h2, h3⟩ := zTak_r (lawL A) (wdF A a b (A (72 + 12 * a + b)) (A 249))
  have h3 : tks A a b (A (72 + 12 * a + b)) (A 249) = nI n := h3
  have e : wM A a b = n := by rw [wM, h3]; exact nI_clamp (by omega)
  rw [e]
  exact ⟨h3, h1, h2⟩
def eM (A : Nat → Int32) (a b : Nat) : Bool := (opn A (A 249) a).testBit b
def sM (A : Nat → Int32) (a : Nat) : Bool := (mkN (St A) (hn A)).testBit a
def m0 (A : Nat → Int32) (a b : Nat) : Nat := if eM A a b = true then 64 * wM A a b + 1 else 16777216
def mM (A : Nat → Int32) (a b : Nat) : Nat := if a = b ∧ sM A a = true then 0 else m0 A a b
theorem eM_h {A : Nat → Int32} {a b : Nat} (h : eM A a b = true) : a < hn A ∧ b < hn A ∧ a ≠ b ∧ sM A a = true ∧ sM A b = true := by
  have h' := h
  rw [eM, opn, tb_mk] at h'
  simp only [opB, Bool.and_eq_true, decide_eq_true_eq] at h'
  refine ⟨h'.2.1.1.1.1, h'.1, h'.2.1.1.1.2, ?_, ?_⟩
  · rw [sM, tb_mk, Bool.and_eq_true, decide_eq_true_eq]; exact ⟨h'.2.1.1.1.1, h'.2.1.1.2.1⟩
  · rw [sM, tb_mk, Bool.and_eq_true, decide_eq_true_eq]; exact ⟨h'.1, h'.2.1.1.2.2⟩
theorem m0_le {A : Nat → Int32} {a b : Nat} : m0 A a b ≤ 16777216 := by
  have := (wM_r (A := A) (a := a) (b := b)).2.2
  rw [m0]
  split <;> omega
theorem mM_le {A : Nat → Int32} (a b : Nat) : mM A a b ≤ 16777216 := by
  have := m0_le (A := A) (a := a) (b := b)
  rw [mM]
  split <;> omega
section
variable {CV : Nat → (Nat → Int32) → (Nat → Nat → Int32) → Prop} {B : Nat} {own : Nat → Nat} {σ : gS} {A : Nat → Int32} {d cc : Nat} {Q : Option Value → gS → Prop}
abbrev mP (B a : Nat) : Prop := Rk B a ∨ a = B + 31
def MsI (B : Nat) (A : Nat → Int32) (i j : Nat) (τ : gS) : Prop := ∀ a b, a < 12 → b < 12 → (a < i → gI τ (B + 31) (12 * a + b) = nI (mM A a b)) ∧ (a = i → b < j → gI τ (B + 31) (12 * a + b) = nI (m0 A a b))
theorem Ctx_m {τ : gS} (h : Ctx B own σ A) (hS : Sm (mP B) σ τ) : Ctx B own τ A := Ctx_S h (Sm_mono hS (fun a ha => by rcases ha with ha | ha <;> constructor <;> omega))
theorem MsI_n {τ : gS} {i j : Nat} {x : Int32} (hi : i < 12) (hj : j < 12) (h : MsI B A i j τ) (e : x = nI (m0 A i j)) : MsI B A i (j + 1) (sI τ (B + 31) (12 * i + j) x) := by
  intro a b ha hb
  refine ⟨?_, ?_⟩
  · intro h1
    rw [rI_nk (by omega)]
    exact (h a b ha hb).1 h1
  · intro h1 h2
    by_cases c : b = j
    · rw [h1, c, rI_eq, e]
    · rw [rI_nk (by omega)]
      exact (h a b ha hb).2 h1 (by omega)
theorem s_m1 {i : Nat} (h : Ctx B own σ A) (hr : ∀ j, j < 12 → gI σ (B + 29) j = nI (opn A (A 249) j)) (hi : i < 12) (K : ∀ τ' x3 x4, Sm (mP B) σ τ' → MsI B A i 12 τ' → wp (d + 4) pr_91 Q 104 [some (.ref (B + 25)), some (.ref (B + 29)), some (.int (nI i)), x3, x4] [] τ') : ∀ m j τ (x4 : Option Value), j + m = 12 → Sm (mP B) σ τ → MsI B A i j τ → wp (d + 4) pr_91 Q 42 [some (.ref (B + 25)), some (.ref (B + 29)), some (.int (nI i)), some (.int (nI j)), x4] [] τ := by
  have w1 : Wh A := h.2.1.1.1
  have h12 := hn_le w1
  intro m
  induction m with
  | zero =>
    intro j τ x4 hj hS hM
    have e : j = 12 := by omega
    subst e
    simp (disch := omega) only [e_91_42, e_91_43, e_91_45, n10, n01, Nat.lt_irrefl, Nat.not_lt_zero, ne_eq, Nat.add_zero, Nat.one_ne_zero, Nat.zero_ne_one, Nat.reduceEqDiff, bI_T, bI_F, bI_0, bI_1, bI_01, not_and_self, true_and, and_true, not_true_eq_false, not_false_eq_true, false_imp_iff, true_imp_iff, imp_self, gPv_n, gPv_i, gPv_r, gPv_0, Option.toList_some, Option.toList_none, List.singleton_append, List.cons_append, List.nil_append, List.length_nil, List.length_cons, Nat.zero_le, Nat.reduceAdd, Nat.reduceLeDiff, or_true, true_or, false_or, or_false, and_self, and_false, false_and, implies_true, Option.some.injEq, exists_eq_left', nL, nI_add, nI_mul, nI_clamp, nI_ltI, nI_leI, nI_eq, nI_pos, nI_pos', Nat.reduceAdd, Nat.reduceMul, Nat.reducePow, Nat.le_refl]
    exact K τ _ _ hS hM
  | succ m ih =>
    intro j τ x4 hj hS hM
    have hc := Ctx_m h hS
    have hv := hc.1
    have z : ¬ 12 ≤ j := by omega
    have z1 : 12 * i + j < 144 := by omega
    have z1' : i * 12 + j = 12 * i + j := by omega
    have e29 : gI τ (B + 29) i = nI (opn A (A 249) i) := by rw [hS.2.2.2.2.2.2.1 _ (by simp only [mP, Rk]; omega)]; exact hr i hi
    have ol : opn A (A 249) i < 4096 := opn_lt w1
    rw [e_91_42]
    cases c : eM A i j
    · have c' : (opn A (A 249) i).testBit j = false := c
      simp (disch := omega) only [e_91_43, e_91_45, e_91_48, e_91_48n, e_91_49, e_91_50, e_91_51, e_91_52, e_91_55, e_91_56, e_91_59, e_91_60, e_91_63, e_91_64, e_91_66, e_91_67, e_91_70, e_91_71, e_91_73, e_91_74, e_91_75, e_91_76, e_91_78, e_91_81, e_91_82, e_91_83, e_91_84, e_91_87, e_91_89, e_91_90, e_91_91, e_91_92, e_91_95, e_91_97, e_91_98, e_91_101, n10, n01, Nat.lt_irrefl, Nat.not_lt_zero, ne_eq, Nat.add_zero, Nat.one_ne_zero, Nat.zero_ne_one, Nat.reduceEqDiff, bI_T, bI_F, bI_0, bI_1, bI_01, not_and_self, true_and, and_true, not_true_eq_false, not_false_eq_true, false_imp_iff, true_imp_iff, imp_self, gPv_n, gPv_i, gPv_r, gPv_0, Option.toList_some, Option.toList_none, List.singleton_append, List.cons_append, List.nil_append, List.length_nil, List.length_cons, Nat.zero_le, Nat.reduceAdd, Nat.reduceLeDiff, or_true, true_or, false_or, or_false, and_self, and_false, false_and, implies_true, Option.some.injEq, exists_eq_left', nL, nI_add, nI_mul, nI_clamp, nI_ltI, nI_leI, nI_eq, nI_pos, nI_pos', Nat.reduceAdd, Nat.reduceMul, Nat.reducePow, sk_25 hv, sr_25_0 hv, sr_25_1 hv, sr_25_2 hv, sr_25_3 hv, sr_25_4 hv, sr_25_5 hv, sk_29 hv, sn_29 hv, sk_31 hv, sn_31 hv, s_bitOf, e29, nI_bit, c', hi, z, z1, z1', Bool.false_eq_true]
      refine ih (j + 1) _ _ (by omega) (Sm_I hS (Or.inr rfl)) (MsI_n hi (by omega) hM ?_)
      rw [m0, c]; rfl
    · have c' : (opn A (A 249) i).testBit j = true := c
      obtain ⟨hin, hjn, _⟩ := eM_h c
      simp (disch := omega) only [e_91_43, e_91_45, e_91_48, e_91_48n, e_91_49, e_91_50, e_91_51, e_91_52, e_91_55, e_91_56, e_91_59, e_91_60, e_91_63, e_91_64, e_91_66, e_91_67, e_91_70, e_91_71, e_91_73, e_91_74, e_91_75, e_91_76, e_91_78, e_91_81, e_91_82, e_91_83, e_91_84, n10, n01, Nat.lt_irrefl, Nat.not_lt_zero, ne_eq, Nat.add_zero, Nat.one_ne_zero, Nat.zero_ne_one, Nat.reduceEqDiff, bI_T, bI_F, bI_0, bI_1, bI_01, not_and_self, true_and, and_true, not_true_eq_false, not_false_eq_true, false_imp_iff, true_imp_iff, imp_self, gPv_n, gPv_i, gPv_r, gPv_0, Option.toList_some, Option.toList_none, List.singleton_append, List.cons_append, List.nil_append, List.length_nil, List.length_cons, Nat.zero_le, Nat.reduceAdd, Nat.reduceLeDiff, or_true, true_or, false_or, or_false, and_self, and_false, false_and, implies_true, Option.some.injEq, exists_eq_left', nL, nI_add, nI_mul, nI_clamp, nI_ltI, nI_leI, nI_eq, nI_pos, nI_pos', Nat.reduceAdd, Nat.reduceMul, Nat.reducePow, sk_25 hv, sr_25_0 hv, sr_25_1 hv, sr_25_2 hv, sr_25_3 hv, sr_25_4 hv, sr_25_5 hv, sk_29 hv, sn_29 hv, sk_31 hv, sn_31 hv, s_bitOf, e29, nI_bit, c', hi, z, z1']
      refine s_timeOf hc hin hjn ?_
      intro τ' hS'
      have hS2 : Sm (mP B) σ τ' := Sm_trans hS (Sm_mono hS' (fun a ha => Or.inl ha))
      have hv2 := (Ctx_m h hS2).1
      obtain ⟨t1, t2, t3⟩ := wM_r (A := A) (a := i) (b := j)
      simp (disch := omega) only [e_91_87, e_91_89, e_91_90, e_91_91, e_91_92, e_91_95, e_91_97, e_91_98, e_91_101, n10, n01, Nat.lt_irrefl, Nat.not_lt_zero, ne_eq, Nat.add_zero, Nat.one_ne_zero, Nat.zero_ne_one, Nat.reduceEqDiff, bI_T, bI_F, bI_0, bI_1, bI_01, not_and_self, true_and, and_true, not_true_eq_false, not_false_eq_true, false_imp_iff, true_imp_iff, imp_self, gPv_n, gPv_i, gPv_r, gPv_0, Option.toList_some, Option.toList_none, List.singleton_append, List.cons_append, List.nil_append, List.length_nil, List.length_cons, Nat.zero_le, Nat.reduceAdd, Nat.reduceLeDiff, or_true, true_or, false_or, or_false, and_self, and_false, false_and, implies_true, Option.some.injEq, exists_eq_left', nL, nI_add, nI_mul, nI_clamp, nI_ltI, nI_leI, nI_eq, nI_pos, nI_pos', Nat.reduceAdd, Nat.reduceMul, Nat.reducePow, sk_31 hv2, sn_31 hv2, t1, z1]
      refine ih (j + 1) _ _ (by omega) (Sm_I hS2 (Or.inr rfl)) (MsI_n hi (by omega) ?_ ?_)
      · intro a b ha hb
        rw [hS'.2.2.2.2.2.2.1 _ (by omega)]
        exact hM a b ha hb
      · rw [m0, c, Nat.mul_comm]; rfl
theorem s_m2 (h : Ctx B own σ A) (hr : ∀ j, j < 12 → gI σ (B + 29) j = nI (opn A (A 249) j)) (K : ∀ τ', Sm (fun a => mP B a ∨ a = B + 32) σ τ' → (∀ a b, a < 12 → b < 12 → gI τ' (B + 31) (12 * a + b) = nI (mM A a b) ∧ gI τ' (B + 32) (12 * a + b) = nI (fl (mM A) 12 a b)) → Q none τ') : ∀ m i τ (x3 x4 : Option Value), i + m = 12 → Sm (mP B) σ τ → MsI B A i 0 τ → wp (d + 4) pr_91 Q 28 [some (.ref (B + 25)), some (.ref (B + 29)), some (.int (nI i)), x3, x4] [] τ := by
  have w1 : Wh A := h.2.1.1.1
  have h12 := hn_le w1
  intro m
  induction m with
  | zero =>
    intro i τ x3 x4 hi hS hM
    have e : i = 12 := by omega
    subst e
    have hv := (Ctx_m h hS).1
    have k31 := sk_31 hv
    have k32 := sk_32 hv
    have n1 : (144 : Nat) ≤ 144 := by omega
    simp (disch := omega) only [e_91_28, e_91_29, e_91_31, e_91_137, e_91_138, e_91_141, e_91_142, e_91_143, e_91_146, e_91_147, e_91_150, e_91_153, e_91_154, n10, n01, Nat.lt_irrefl, Nat.not_lt_zero, ne_eq, Nat.add_zero, Nat.one_ne_zero, Nat.zero_ne_one, Nat.reduceEqDiff, bI_T, bI_F, bI_0, bI_1, bI_01, not_and_self, true_and, and_true, not_true_eq_false, not_false_eq_true, false_imp_iff, true_imp_iff, imp_self, gPv_n, gPv_i, gPv_r, gPv_0, Option.toList_some, Option.toList_none, List.singleton_append, List.cons_append, List.nil_append, List.length_nil, List.length_cons, Nat.zero_le, Nat.reduceAdd, Nat.reduceLeDiff, or_true, true_or, false_or, or_false, and_self, and_false, false_and, implies_true, Option.some.injEq, exists_eq_left', nL, nI_add, nI_mul, nI_clamp, nI_ltI, nI_leI, nI_eq, nI_pos, nI_pos', Nat.reduceAdd, Nat.reduceMul, Nat.reducePow, sk_25 hv, sr_25_0 hv, sr_25_1 hv, sr_25_2 hv, sr_25_3 hv, sr_25_4 hv, sr_25_5 hv, sk_31 hv, sn_31 hv, sk_32 hv, sn_32 hv, nI_of_len, Nat.le_refl, n1]
    refine s_ms (d := d + 2) (σ := sIr τ (B + 32) (va_cpy (gI τ (B + 31)) (gI τ (B + 32)) 0 0 144)) (M := mM A) (by simp only [IvS_r]; exact hv) mM_le ?_ 12 0 _ (by omega) (Sm_refl _ _) ?_
    · intro τ' hS' hf
      refine K τ' (Sm_trans (Sm_r (Sm_mono hS (fun a ha => Or.inl ha)) (Or.inr rfl)) (Sm_mono hS' (fun a ha => Or.inr ha))) ?_
      intro a b ha hb
      refine ⟨?_, hf a b ha hb⟩
      rw [hS'.2.2.2.2.2.2.1 _ (by omega), rr_ne (by omega)]
      exact (hM a b ha hb).1 ha
    · intro a b ha hb
      have z : 0 ≤ 12 * a + b ∧ 12 * a + b < 0 + 144 := by omega
      rw [rr_eq, va_cpy, if_pos z, Nat.sub_zero, Nat.zero_add]
      exact (hM a b ha hb).1 ha
  | succ m ih =>
    intro i τ x3 x4 hi hS hM
    have hv := (Ctx_m h hS).1
    have k29 := sk_29 hv
    have z : ¬ 12 ≤ i := by omega
    have i12 : i < 12 := by omega
    have z1 : 12 * i + i < 144 := by omega
    have z1' : i * 12 + i = 12 * i + i := by omega
    rw [e_91_28]
    simp (disch := omega) only [e_91_29, e_91_31, e_91_34, e_91_35, e_91_35n, e_91_36, e_91_37, e_91_40, e_91_41, n10, n01, Nat.lt_irrefl, Nat.not_lt_zero, ne_eq, Nat.add_zero, Nat.one_ne_zero, Nat.zero_ne_one, Nat.reduceEqDiff, bI_T, bI_F, bI_0, bI_1, bI_01, not_and_self, true_and, and_true, not_true_eq_false, not_false_eq_true, false_imp_iff, true_imp_iff, imp_self, gPv_n, gPv_i, gPv_r, gPv_0, Option.toList_some, Option.toList_none, List.singleton_append, List.cons_append, List.nil_append, List.length_nil, List.length_cons, Nat.zero_le, Nat.reduceAdd, Nat.reduceLeDiff, or_true, true_or, false_or, or_false, and_self, and_false, false_and, implies_true, Option.some.injEq, exists_eq_left', nL, nI_add, nI_mul, nI_clamp, nI_ltI, nI_leI, nI_eq, nI_pos, nI_pos', Nat.reduceAdd, Nat.reduceMul, Nat.reducePow, sk_29 hv, sn_29 hv, nI_of_len, z]
    refine s_m1 h hr i12 ?_ 12 0 τ _ (by omega) hS hM
    intro τ' x3 x4 hS' hM'
    have hc2 := Ctx_m h hS'
    have hv2 := hc2.1
    have s6 : gI τ' (B + 1) 6 = nI (mkN (St A) (hn A)) := hc2.2.1.2.1.1.2.1
    have m0' : mkN (St A) (hn A) < 4096 := mk_lt12 h12
    cases c : sM A i
    · have c' : (mkN (St A) (hn A)).testBit i = false := c
      simp (disch := omega) only [e_91_104, e_91_105, e_91_108, e_91_111, e_91_112, e_91_115, e_91_116, e_91_119, e_91_120, e_91_123, e_91_124, e_91_126, e_91_127, e_91_128, e_91_129, e_91_130, e_91_131, e_91_134, n10, n01, Nat.lt_irrefl, Nat.not_lt_zero, ne_eq, Nat.add_zero, Nat.one_ne_zero, Nat.zero_ne_one, Nat.reduceEqDiff, bI_T, bI_F, bI_0, bI_1, bI_01, not_and_self, true_and, and_true, not_true_eq_false, not_false_eq_true, false_imp_iff, true_imp_iff, imp_self, gPv_n, gPv_i, gPv_r, gPv_0, Option.toList_some, Option.toList_none, List.singleton_append, List.cons_append, List.nil_append, List.length_nil, List.length_cons, Nat.zero_le, Nat.reduceAdd, Nat.reduceLeDiff, or_true, true_or, false_or, or_false, and_self, and_false, false_and, implies_true, Option.some.injEq, exists_eq_left', nL, nI_add, nI_mul, nI_clamp, nI_ltI, nI_leI, nI_eq, nI_pos, nI_pos', Nat.reduceAdd, Nat.reduceMul, Nat.reducePow, sk_1 hv2, sr_1_0 hv2, sr_1_1 hv2, sr_1_2 hv2, sr_1_3 hv2, sr_1_4 hv2, sr_1_7 hv2, sr_1_9 hv2, sr_1_14 hv2, sr_1_15 hv2, sr_1_16 hv2, sk_25 hv2, sr_25_0 hv2, sr_25_1 hv2, sr_25_2 hv2, sr_25_3 hv2, sr_25_4 hv2, sr_25_5 hv2, s_bitOf, s6, nI_bit, c', Bool.false_eq_true]
      refine ih (i + 1) τ' _ _ (by omega) hS' ?_
      intro a b ha hb
      refine ⟨?_, fun _ q => absurd q (by omega)⟩
      intro h1
      by_cases q : a = i
      · rw [(hM' a b ha hb).2 q hb, mM, q, c, if_neg (by simp)]
      · exact (hM' a b ha hb).1 (by omega)
    · have c' : (mkN (St A) (hn A)).testBit i = true := c
      simp (disch := omega) only [e_91_104, e_91_105, e_91_108, e_91_111, e_91_112, e_91_115, e_91_116, e_91_119, e_91_120, e_91_123, e_91_124, e_91_126, e_91_127, e_91_128, e_91_129, e_91_130, e_91_131, e_91_134, n10, n01, Nat.lt_irrefl, Nat.not_lt_zero, ne_eq, Nat.add_zero, Nat.one_ne_zero, Nat.zero_ne_one, Nat.reduceEqDiff, bI_T, bI_F, bI_0, bI_1, bI_01, not_and_self, true_and, and_true, not_true_eq_false, not_false_eq_true, false_imp_iff, true_imp_iff, imp_self, gPv_n, gPv_i, gPv_r, gPv_0, Option.toList_some, Option.toList_none, List.singleton_append, List.cons_append, List.nil_append, List.length_nil, List.length_cons, Nat.zero_le, Nat.reduceAdd, Nat.reduceLeDiff, or_true, true_or, false_or, or_false, and_self, and_false, false_and, implies_true, Option.some.injEq, exists_eq_left', nL, nI_add, nI_mul, nI_clamp, nI_ltI, nI_leI, nI_eq, nI_pos, nI_pos', Nat.reduceAdd, Nat.reduceMul, Nat.reducePow, sk_1 hv2, sr_1_0 hv2, sr_1_1 hv2, sr_1_2 hv2, sr_1_3 hv2, sr_1_4 hv2, sr_1_7 hv2, sr_1_9 hv2, sr_1_14 hv2, sr_1_15 hv2, sr_1_16 hv2, sk_25 hv2, sr_25_0 hv2, sr_25_1 hv2, sr_25_2 hv2, sr_25_3 hv2, sr_25_4 hv2, sr_25_5 hv2, sk_31 hv2, sn_31 hv2, s_bitOf, s6, nI_bit, c', z1, z1']
      refine ih (i + 1) _ _ _ (by omega) (Sm_I hS' (Or.inr rfl)) ?_
      intro a b ha hb
      refine ⟨?_, fun _ q => absurd q (by omega)⟩
      intro h1
      by_cases q : a = i
      · subst q
        by_cases q2 : a = b
        · subst q2
          rw [rI_eq, mM, c, if_pos ⟨rfl, rfl⟩]
        · rw [rI_nk (by omega), (hM' a b ha hb).2 rfl hb, mM, if_neg (fun z => q2 z.1)]
      · rw [rI_nk (by omega)]
        exact (hM' a b ha hb).1 (by omega)
def MsO (B : Nat) (A : Nat → Int32) (τ : gS) : Prop := ∀ a b, a < 12 → b < 12 → gI τ (B + 31) (12 * a + b) = nI (mM A a b) ∧ gI τ (B + 32) (12 * a + b) = nI (fl (mM A) 12 a b)
theorem s_measure (hl : CVl CV) (h2 : ∀ A W, CV 2 A W ↔ ∀ a b, a < 12 → b < 12 → W 6 (12 * a + b) = nI (mM A a b) ∧ W 7 (12 * a + b) = nI (fl (mM A) 12 a b)) (hc : Ctx B own σ A) (ha : Ca CV B A σ cc) (hr : ∀ j, j < 12 → gI σ (B + 29) j = nI (opn A (A 249) j)) (K : ∀ τ, Sm (fun a => B + 25 ≤ a ∧ a ≤ B + 28 ∨ a = B + 31 ∨ a = B + 32) σ τ → Ctx B own τ A → Ca CV B A τ cc → MsO B A τ → Q none τ) : wc (d + 5) 91 [.ref (B + 25), .ref (B + 29)] σ Q := by
  have hv := hc.1
  have e17 := ha.1
  have cc1 := ha.2.1
  by_cases c : gI σ (B + 25) 8 = nI cc
  · have := (ha.2.2 2 (by omega)).2 c
    rw [h2, cw_r (by omega), cw_r (by omega)] at this
    simp (disch := omega) only [c_91, e_91_0, e_91_1, e_91_4, e_91_5, e_91_8, e_91_11, e_91_14, n10, n01, Nat.lt_irrefl, Nat.not_lt_zero, ne_eq, Nat.add_zero, Nat.one_ne_zero, Nat.zero_ne_one, Nat.reduceEqDiff, bI_T, bI_F, bI_0, bI_1, bI_01, not_and_self, true_and, and_true, not_true_eq_false, not_false_eq_true, false_imp_iff, true_imp_iff, imp_self, gPv_n, gPv_i, gPv_r, gPv_0, Option.toList_some, Option.toList_none, List.singleton_append, List.cons_append, List.nil_append, List.length_nil, List.length_cons, Nat.zero_le, Nat.reduceAdd, Nat.reduceLeDiff, or_true, true_or, false_or, or_false, and_self, and_false, false_and, implies_true, Option.some.injEq, exists_eq_left', nL, sk_1 hv, sr_1_0 hv, sr_1_1 hv, sr_1_2 hv, sr_1_3 hv, sr_1_4 hv, sr_1_7 hv, sr_1_9 hv, sr_1_14 hv, sr_1_15 hv, sr_1_16 hv, sk_25 hv, sr_25_0 hv, sr_25_1 hv, sr_25_2 hv, sr_25_3 hv, sr_25_4 hv, sr_25_5 hv, e17, c]
    exact K σ (Sm_refl _ _) hc ha this
  · simp (disch := omega) only [c_91, e_91_0, e_91_1, e_91_4, e_91_5, e_91_8, e_91_11, e_91_14, e_91_15, e_91_16, e_91_17, e_91_20, e_91_23, e_91_26, e_91_27, n10, n01, Nat.lt_irrefl, Nat.not_lt_zero, ne_eq, Nat.add_zero, Nat.one_ne_zero, Nat.zero_ne_one, Nat.reduceEqDiff, bI_T, bI_F, bI_0, bI_1, bI_01, not_and_self, true_and, and_true, not_true_eq_false, not_false_eq_true, false_imp_iff, true_imp_iff, imp_self, gPv_n, gPv_i, gPv_r, gPv_0, Option.toList_some, Option.toList_none, List.singleton_append, List.cons_append, List.nil_append, List.length_nil, List.length_cons, Nat.zero_le, Nat.reduceAdd, Nat.reduceLeDiff, or_true, true_or, false_or, or_false, and_self, and_false, false_and, implies_true, Option.some.injEq, exists_eq_left', nL, sk_1 hv, sr_1_0 hv, sr_1_1 hv, sr_1_2 hv, sr_1_3 hv, sr_1_4 hv, sr_1_7 hv, sr_1_9 hv, sr_1_14 hv, sr_1_15 hv, sr_1_16 hv, sk_25 hv, sr_25_0 hv, sr_25_1 hv, sr_25_2 hv, sr_25_3 hv, sr_25_4 hv, sr_25_5 hv, n_K_I, n_K_J, n_K_R, n_K_r, n_N_I, n_N_J, n_N_R, n_N_r, n_R_I, n_R_J, n_R_r, n_J_I, n_J_R, n_J_r, n_I_J, n_I_R, n_n_I, n_n_J, n_n_R, n_n_r, n_w_I, n_w_J, n_w_R, n_w_r, n_T_I, n_T_J, n_T_R, n_T_r, rI_ne, rI_nk, rI_eq, rr_ne, rr_eq, n_J_J, n_R_R, Nat.add_left_cancel_iff, Nat.add_right_cancel_iff, Nat.add_eq_left, Nat.left_eq_add, Nat.reduceEqDiff, Nat.reduceAdd, Nat.zero_ne_one, Nat.one_ne_zero, false_and, and_false, true_and, and_true, and_self, if_false, if_true, ↓reduceIte, e17, c]
    have hS0 : Sm (fun a => B + 25 ≤ a ∧ a ≤ B + 28 ∨ a = B + 31 ∨ a = B + 32) σ (sI σ (B + 25) 8 (nI cc)) := Sm_I (Sm_refl _ _) (Or.inl ⟨by omega, by omega⟩)
    have hpm : ∀ a, (B + 25 ≤ a ∧ a ≤ B + 28 ∨ a = B + 31 ∨ a = B + 32) → B + 25 ≤ a ∧ a < B + 54 := by intro a ha; omega
    refine s_m2 (Ctx_S hc (Sm_mono hS0 hpm)) ?_ ?_ 12 0 _ _ _ (by omega) (Sm_refl _ _) ?_
    · intro j hj
      rw [rI_ne (by omega)]
      exact hr j hj
    · intro τ hS hM
      have hS2 : Sm (fun a => B + 25 ≤ a ∧ a ≤ B + 28 ∨ a = B + 31 ∨ a = B + 32) σ τ := Sm_trans hS0 (Sm_mono hS (fun a ha => by simp only [mP, Rk] at ha; omega))
      refine K _ hS2 (Ctx_S hc (Sm_mono hS2 hpm)) ?_ hM
      refine Ca_G hl ha ?_ ?_
      · rw [hS2.2.2.2.2.2.2.1 (B + 1) (by omega)]
      · have eo : ∀ a, B + 29 ≤ a → a ≠ B + 31 → a ≠ B + 32 → gI τ a = gI σ a := fun a h1 h2 h3 => hS2.2.2.2.2.2.2.1 a (by omega)
        have e25 : gI τ (B + 25) = gI (sI σ (B + 25) 8 (nI cc)) (B + 25) := hS.2.2.2.2.2.2.1 (B + 25) (by simp only [mP, Rk]; omega)
        intro i hi
        rcases i6 hi with rfl | rfl | rfl | rfl | rfl | rfl
        case inr.inr.inl =>
          refine Or.inr ⟨?_, ?_⟩
          · simp only [cO_v]
            rw [e25, rI_eq]
          · rw [h2, cw_r (by omega), cw_r (by omega)]
            exact hM
        all_goals
          refine Or.inl ⟨?_, ?_⟩
          · simp only [cO_v]
            first | rw [e25, rI_nk (by omega)] | rw [eo _ (by omega) (by omega) (by omega)]
          · intro o ho
            simp only [cR, List.getD_cons_zero, List.getD_cons_succ, List.mem_cons, List.not_mem_nil, or_false] at ho
            exact eo _ (by omega) (by omega) (by omega)
    · intro a b ha hb
      exact ⟨fun q => absurd q (by omega), fun _ q => absurd q (by omega)⟩
end
