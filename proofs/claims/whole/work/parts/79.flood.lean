/-! floods: the draws; the class -/
abbrev nJ (n : Nat) : Int64 := Int64.ofNat n
theorem nJ_mul (a b : Nat) : nJ a * nJ b = nJ (a * b) := (Int64.ofNat_mul a b).symm
theorem nJ_add (a b : Nat) : nJ a + nJ b = nJ (a + b) := (Int64.ofNat_add a b).symm
theorem nJ_sub {a b : Nat} (h : b ≤ a) : nJ a - nJ b = nJ (a - b) := (Int64.ofNat_sub a b h).symm
theorem nJ_div {a b : Nat} (ha : a < 9223372036854775808) (hb : b < 9223372036854775808) : nJ a / nJ b = nJ (a / b) := (Int64.ofNat_div ha hb).symm
theorem nJ_toInt {a : Nat} (h : a < 9223372036854775808) : (nJ a).toInt = a := Int64.toInt_ofNat_of_lt h
theorem nJ_eq {a b : Nat} (ha : a < 9223372036854775808) (hb : b < 9223372036854775808) : nJ a = nJ b ↔ a = b := by
  rw [← Int64.toInt_inj, nJ_toInt ha, nJ_toInt hb]
  omega
theorem nJ_i2l {a : Nat} (h : a < 2147483648) : (nI a).toInt64 = nJ a := by
  rw [← Int64.toInt_inj, Int32.toInt_toInt64, nI_toInt h, nJ_toInt (by omega)]
theorem nJ_l2i {a : Nat} : (nJ a).toInt32 = nI a := Int64.toInt32_ofNat
theorem nJ_rem {k w : Nat} : nJ k - nJ (k / w * w) = nJ (k % w) := by
  rw [nJ_sub (Nat.div_mul_le_self k w)]
  congr 1
  have := Nat.div_add_mod k w
  rw [Nat.mul_comm] at this
  omega
def nxD (s : Nat) : Nat := (1103 * s + 12345) % 1000003
theorem nxD_lt (s : Nat) : nxD s < 1000003 := Nat.mod_lt _ (by decide)
def dw (C : Nat → Bool) : Nat → Nat → Nat → Nat → Nat × Nat
  | 0, _, s, b => (s, b)
  | m + 1, h, s, b => if C h = true then dw C m (h + 1) (nxD s) (if nxD s % 4 = 0 then b ||| 2 ^ h else b) else dw C m (h + 1) s b
theorem dw_lt {C : Nat → Bool} : ∀ m h s b, s ≤ 1000003 → b < 4096 → h + m ≤ 12 → (dw C m h s b).1 ≤ 1000003 ∧ (dw C m h s b).2 < 4096 := by
  intro m
  induction m with
  | zero => intro h s b hs hb _; exact ⟨hs, hb⟩
  | succ m ih =>
    intro h s b hs hb hh
    have p2 : 2 ^ h < 2 ^ 12 := Nat.pow_lt_pow_right (by decide) (by omega)
    simp only [dw]
    split
    · refine ih (h + 1) _ _ (Nat.le_of_lt (nxD_lt s)) ?_ (by omega)
      split
      · exact Nat.or_lt_two_pow (n := 12) hb p2
      · exact hb
    · exact ih (h + 1) s b hs hb (by omega)
theorem sJ_id {σ : gS} {a k : Nat} {v : Int64} (h : gJ σ a k = v) : sJ σ a k v = σ := by
  have : gU (gJ σ) a k v = gJ σ := by
    funext b j
    simp only [gU]
    split
    · next z => rw [z.1, z.2, h]
    · rfl
  simp only [sJ, this]
  rfl
theorem sJ_sJ {σ : gS} {a k : Nat} {u v : Int64} : sJ (sJ σ a k u) a k v = sJ σ a k v := by
  have : gU (gU (gJ σ) a k u) a k v = gU (gJ σ) a k v := by
    funext b j
    simp only [gU]
    split <;> rfl
  show (gK σ, gN σ, gI σ, gU (gU (gJ σ) a k u) a k v, gR σ, gn σ, gw σ, gT σ) = _
  rw [this]
  rfl
theorem rJ_eq {σ : gS} {a k : Nat} {v : Int64} : gJ (sJ σ a k v) a k = v := by rw [n_J_J, if_pos ⟨rfl, rfl⟩]
section
variable {B : Nat} {own : Nat → Nat} {σ : gS} {A : Nat → Int32} {d : Nat} {Q : Option Value → gS → Prop}
theorem s_dw (h : Ctx B own σ A) : ∀ m i s b, i + m = hn A → s ≤ 1000003 → b < 4096 → (wp (d + 1) pr_23 Q 4 [some (.ref (B + 50)), some (.int (nI b)), some (.int (nI i))] [] (sJ σ (B + 50) 7 (nJ s)) ↔ Q (some (.int (nI (dw (St A) m i s b).2))) (sJ σ (B + 50) 7 (nJ (dw (St A) m i s b).1))) := by
  have hv0 := h.1
  have hv := fun s => (IvS_J (B := B) (a := B + 50) (k := 7) (σ := σ) (v := nJ s)).mpr hv0
  obtain ⟨⟨wh, w2, w3, w4, w5⟩, ⟨t1, t2, t3, t4, t5⟩, lw⟩ := h.2.1
  have h12 := hn_le wh
  have hn2 := hn_eq wh
  have e5 : gI σ (B + 1) 5 = A 250 := t1.1
  have e6 : gI σ (B + 1) 6 = nI (mkN (St A) (hn A)) := t1.2.1
  have ml : mkN (St A) (hn A) < 4096 := mk_lt12 h12
  have l0 : ¬ nJ 1000003 = 0 := by decide
  have l4 : ¬ nJ 4 = 0 := by decide
  have q0 : (0 : Int64) = nJ 0 := rfl
  have q1 : (1103 : Int64) = nJ 1103 := rfl
  have q2 : (12345 : Int64) = nJ 12345 := rfl
  have q3 : (1000003 : Int64) = nJ 1000003 := rfl
  have q4 : (4 : Int64) = nJ 4 := rfl
  have z0 : ¬ nJ 1000003 = nJ 0 := by decide
  have z4 : ¬ nJ 4 = nJ 0 := by decide
  intro m
  induction m with
  | zero =>
    intro i s b hi hs hb
    have e : i = hn A := by omega
    subst e
    simp (disch := omega) only [e_23_4, e_23_5, e_23_6, e_23_9, e_23_12, e_23_75, e_23_76, n10, n01, Nat.lt_irrefl, Nat.not_lt_zero, ne_eq, Nat.add_zero, Nat.one_ne_zero, Nat.zero_ne_one, Nat.reduceEqDiff, bI_T, bI_F, bI_0, bI_1, bI_01, not_and_self, true_and, and_true, not_true_eq_false, not_false_eq_true, false_imp_iff, true_imp_iff, imp_self, gPv_n, gPv_i, gPv_r, gPv_0, Option.toList_some, Option.toList_none, List.singleton_append, List.cons_append, List.nil_append, List.length_nil, List.length_cons, Nat.zero_le, Nat.reduceAdd, Nat.reduceLeDiff, or_true, true_or, false_or, or_false, and_self, and_false, false_and, implies_true, Option.some.injEq, exists_eq_left', nL, nI_add, nI_mul, nI_clamp, nI_ltI, nI_leI, nI_eq, nI_pos, nI_pos', Nat.reduceAdd, Nat.reduceMul, Nat.reducePow, sk_1 (hv _), sr_1_0 (hv _), sr_1_1 (hv _), sr_1_2 (hv _), sr_1_3 (hv _), sr_1_4 (hv _), sr_1_7 (hv _), sr_1_9 (hv _), sr_1_14 (hv _), sr_1_15 (hv _), sr_1_16 (hv _), sk_50 (hv _), sr_50_0 (hv _), sr_50_1 (hv _), sr_50_2 (hv _), sr_50_3 (hv _), sr_50_4 (hv _), sr_50_5 (hv _), n_I_J, e5, hn2, Nat.le_refl, dw]
  | succ m ih =>
    intro i s b hi hs hb
    have z : ¬ hn A ≤ i := by omega
    have ihn : i < hn A := by omega
    have eb : (mkN (St A) (hn A)).testBit i = St A i := by rw [tb_mk]; simp [ihn]
    rw [e_23_4]
    by_cases c : St A i = true
    · have en : nJ (s * 1103 + 12345) - nJ (s * 1103 + 12345) / nJ 1000003 * nJ 1000003 = nJ (nxD s) := by
        rw [nJ_div (by omega) (by omega), nJ_mul, nJ_rem, Nat.mul_comm s 1103, nxD]
      have em : nJ (nxD s) - nJ (nxD s) / nJ 4 * nJ 4 = nJ (nxD s % 4) := by
        have := nxD_lt s
        rw [nJ_div (by omega) (by omega), nJ_mul, nJ_rem]
      have ml4 : nxD s % 4 < 4 := Nat.mod_lt _ (by decide)
      have nl := nxD_lt s
      by_cases c4 : nxD s % 4 = 0
      · simp (disch := omega) only [e_23_5, e_23_6, e_23_9, e_23_12, e_23_15, e_23_16, e_23_19, e_23_22, e_23_23, e_23_26, e_23_27, e_23_30, e_23_31, e_23_32, e_23_35, e_23_38, e_23_39, e_23_42, e_23_43, e_23_46, e_23_47, e_23_50, e_23_51, e_23_54, e_23_57, e_23_58, e_23_59, e_23_60, e_23_63, e_23_64, e_23_65, e_23_66, e_23_67, e_23_68, e_23_69, e_23_72, n10, n01, Nat.lt_irrefl, Nat.not_lt_zero, ne_eq, Nat.add_zero, Nat.one_ne_zero, Nat.zero_ne_one, Nat.reduceEqDiff, bI_T, bI_F, bI_0, bI_1, bI_01, not_and_self, true_and, and_true, not_true_eq_false, not_false_eq_true, false_imp_iff, true_imp_iff, imp_self, gPv_n, gPv_i, gPv_r, gPv_0, Option.toList_some, Option.toList_none, List.singleton_append, List.cons_append, List.nil_append, List.length_nil, List.length_cons, Nat.zero_le, Nat.reduceAdd, Nat.reduceLeDiff, or_true, true_or, false_or, or_false, and_self, and_false, false_and, implies_true, Option.some.injEq, exists_eq_left', nL, nI_add, nI_mul, nI_clamp, nI_ltI, nI_leI, nI_eq, nI_pos, nI_pos', Nat.reduceAdd, Nat.reduceMul, Nat.reducePow, sk_1 (hv _), sr_1_0 (hv _), sr_1_1 (hv _), sr_1_2 (hv _), sr_1_3 (hv _), sr_1_4 (hv _), sr_1_7 (hv _), sr_1_9 (hv _), sr_1_14 (hv _), sr_1_15 (hv _), sr_1_16 (hv _), sk_50 (hv _), sr_50_0 (hv _), sr_50_1 (hv _), sr_50_2 (hv _), sr_50_3 (hv _), sr_50_4 (hv _), sr_50_5 (hv _), sk_1 hv0, sr_1_0 hv0, sr_1_1 hv0, sr_1_2 hv0, sr_1_3 hv0, sr_1_4 hv0, sr_1_7 hv0, sr_1_9 hv0, sr_1_14 hv0, sr_1_15 hv0, sr_1_16 hv0, sk_50 hv0, sr_50_0 hv0, sr_50_1 hv0, sr_50_2 hv0, sr_50_3 hv0, sr_50_4 hv0, sr_50_5 hv0, n_I_J, e5, e6, hn2, z, s_bitOf, nI_bit, eb, c, q0, q1, q2, q3, q4, nJ_mul, nJ_add, rJ_eq, z0, z4, en, em, n_K_J, sJ_sJ, lgc_eq, nJ_eq, c4, nI_shl, Nat.one_mul, nI_or]
        have p2 : 2 ^ i < 2 ^ 12 := Nat.pow_lt_pow_right (by decide) (by omega)
        rw [ih (i + 1) (nxD s) (b ||| 2 ^ i) (by omega) (by omega) (Nat.or_lt_two_pow (n := 12) hb p2)]
        simp only [dw, c, c4, if_true]
      · simp (disch := omega) only [e_23_5, e_23_6, e_23_9, e_23_12, e_23_15, e_23_16, e_23_19, e_23_22, e_23_23, e_23_26, e_23_27, e_23_30, e_23_31, e_23_32, e_23_35, e_23_38, e_23_39, e_23_42, e_23_43, e_23_46, e_23_47, e_23_50, e_23_51, e_23_54, e_23_57, e_23_58, e_23_59, e_23_60, e_23_63, e_23_64, e_23_65, e_23_66, e_23_67, e_23_68, e_23_69, e_23_72, n10, n01, Nat.lt_irrefl, Nat.not_lt_zero, ne_eq, Nat.add_zero, Nat.one_ne_zero, Nat.zero_ne_one, Nat.reduceEqDiff, bI_T, bI_F, bI_0, bI_1, bI_01, not_and_self, true_and, and_true, not_true_eq_false, not_false_eq_true, false_imp_iff, true_imp_iff, imp_self, gPv_n, gPv_i, gPv_r, gPv_0, Option.toList_some, Option.toList_none, List.singleton_append, List.cons_append, List.nil_append, List.length_nil, List.length_cons, Nat.zero_le, Nat.reduceAdd, Nat.reduceLeDiff, or_true, true_or, false_or, or_false, and_self, and_false, false_and, implies_true, Option.some.injEq, exists_eq_left', nL, nI_add, nI_mul, nI_clamp, nI_ltI, nI_leI, nI_eq, nI_pos, nI_pos', Nat.reduceAdd, Nat.reduceMul, Nat.reducePow, sk_1 (hv _), sr_1_0 (hv _), sr_1_1 (hv _), sr_1_2 (hv _), sr_1_3 (hv _), sr_1_4 (hv _), sr_1_7 (hv _), sr_1_9 (hv _), sr_1_14 (hv _), sr_1_15 (hv _), sr_1_16 (hv _), sk_50 (hv _), sr_50_0 (hv _), sr_50_1 (hv _), sr_50_2 (hv _), sr_50_3 (hv _), sr_50_4 (hv _), sr_50_5 (hv _), sk_1 hv0, sr_1_0 hv0, sr_1_1 hv0, sr_1_2 hv0, sr_1_3 hv0, sr_1_4 hv0, sr_1_7 hv0, sr_1_9 hv0, sr_1_14 hv0, sr_1_15 hv0, sr_1_16 hv0, sk_50 hv0, sr_50_0 hv0, sr_50_1 hv0, sr_50_2 hv0, sr_50_3 hv0, sr_50_4 hv0, sr_50_5 hv0, n_I_J, e5, e6, hn2, z, s_bitOf, nI_bit, eb, c, q0, q1, q2, q3, q4, nJ_mul, nJ_add, rJ_eq, z0, z4, en, em, n_K_J, sJ_sJ, lgc_eq, nJ_eq, c4]
        rw [ih (i + 1) (nxD s) b (by omega) (by omega) hb]
        simp only [dw, c, c4, if_true, if_false]
    · have c' : St A i = false := by simpa using c
      simp (disch := omega) only [e_23_5, e_23_6, e_23_9, e_23_12, e_23_15, e_23_16, e_23_19, e_23_22, e_23_23, e_23_26, e_23_27, e_23_69, e_23_72, n10, n01, Nat.lt_irrefl, Nat.not_lt_zero, ne_eq, Nat.add_zero, Nat.one_ne_zero, Nat.zero_ne_one, Nat.reduceEqDiff, bI_T, bI_F, bI_0, bI_1, bI_01, not_and_self, true_and, and_true, not_true_eq_false, not_false_eq_true, false_imp_iff, true_imp_iff, imp_self, gPv_n, gPv_i, gPv_r, gPv_0, Option.toList_some, Option.toList_none, List.singleton_append, List.cons_append, List.nil_append, List.length_nil, List.length_cons, Nat.zero_le, Nat.reduceAdd, Nat.reduceLeDiff, or_true, true_or, false_or, or_false, and_self, and_false, false_and, implies_true, Option.some.injEq, exists_eq_left', nL, nI_add, nI_mul, nI_clamp, nI_ltI, nI_leI, nI_eq, nI_pos, nI_pos', Nat.reduceAdd, Nat.reduceMul, Nat.reducePow, sk_1 (hv _), sr_1_0 (hv _), sr_1_1 (hv _), sr_1_2 (hv _), sr_1_3 (hv _), sr_1_4 (hv _), sr_1_7 (hv _), sr_1_9 (hv _), sr_1_14 (hv _), sr_1_15 (hv _), sr_1_16 (hv _), sk_50 (hv _), sr_50_0 (hv _), sr_50_1 (hv _), sr_50_2 (hv _), sr_50_3 (hv _), sr_50_4 (hv _), sr_50_5 (hv _), n_I_J, e5, e6, hn2, z, s_bitOf, nI_bit, eb, c', Bool.false_eq_true]
      rw [ih (i + 1) s b (by omega) hs hb]
      simp only [dw, c', Bool.false_eq_true, if_false]
abbrev dwA (A : Nat → Int32) (s : Nat) : Nat × Nat := dw (St A) (hn A) 0 s 0
theorem s_draw {s : Nat} (h : Ctx B own σ A) (hs : s ≤ 1000003) (hJ : gJ σ (B + 50) 7 = nJ s) : wc (d + 2) 23 [.ref (B + 50)] σ Q ↔ Q (some (.int (nI (dwA A s).2))) (sJ σ (B + 50) 7 (nJ (dwA A s).1)) := by
  simp (disch := omega) only [c_23, e_23_0, e_23_1, e_23_2, e_23_3, n10, n01, Nat.lt_irrefl, Nat.not_lt_zero, ne_eq, Nat.add_zero, Nat.one_ne_zero, Nat.zero_ne_one, Nat.reduceEqDiff, bI_T, bI_F, bI_0, bI_1, bI_01, not_and_self, true_and, and_true, not_true_eq_false, not_false_eq_true, false_imp_iff, true_imp_iff, imp_self, gPv_n, gPv_i, gPv_r, gPv_0, Option.toList_some, Option.toList_none, List.singleton_append, List.cons_append, List.nil_append, List.length_nil, List.length_cons, Nat.zero_le, Nat.reduceAdd, Nat.reduceLeDiff, or_true, true_or, false_or, or_false, and_self, and_false, false_and, implies_true, Option.some.injEq, exists_eq_left', nL]
  have := s_dw (d := d) (Q := Q) h (hn A) 0 s 0 (by omega) hs (by omega)
  rw [sJ_id hJ] at this
  exact this
/-- the draws' number ahead of a day; who is under water then; in how many parts the others are; the most -/
def flS (A : Nat → Int32) (seed : Nat) : Nat → Nat
  | 0 => seed
  | i + 1 => (dwA A (flS A seed i)).1
def flW (A : Nat → Int32) (seed i : Nat) : Nat := (dwA A (flS A seed i)).2
def flP (A : Nat → Int32) (seed i : Nat) : Nat := (ptL (opn A (nI (an A 249 + i))) (ad (mkN (St A) (hn A)) (flW A seed i))).length
def flM (A : Nat → Int32) (seed : Nat) : Nat → Nat
  | 0 => 0
  | i + 1 => max (flM A seed i) (flP A seed i)
theorem flS_le {seed : Nat} (h12 : hn A ≤ 12) (hs : seed ≤ 1000003) : ∀ i, flS A seed i ≤ 1000003 := by
  intro i
  induction i with
  | zero => exact hs
  | succ i ih => exact (dw_lt _ _ _ _ ih (by omega) (by omega)).1
theorem flW_lt {seed : Nat} (h12 : hn A ≤ 12) (hs : seed ≤ 1000003) (i : Nat) : flW A seed i < 4096 := (dw_lt _ _ _ _ (flS_le h12 hs i) (by omega) (by omega)).2
theorem flP_le {seed i : Nat} : flP A seed i ≤ 12 := prt_len _ _ _
theorem flM_le {seed : Nat} : ∀ i, flM A seed i ≤ 12 := by
  intro i
  induction i with
  | zero => exact Nat.zero_le _
  | succ i ih =>
    have := flP_le (A := A) (seed := seed) (i := i)
    simp only [flM]
    omega
/-- a law that asks not for the day -/
theorem opn_dy {L : List zC} (hL : lawL A = L) (hd : ∀ cl ∈ L, dyI cl) (x y : Int32) (h : Nat) : opn A x h = opn A y h := by
  have hb : ∀ a b dr, brd A a b dr x = brd A a b dr y := by
    intro a b dr
    simp only [brd, hL, zBar]
    rw [Bool.eq_iff_iff, List.any_eq_true, List.any_eq_true]
    have key : ∀ cl ∈ L, zHo cl (wdF A a b dr x) = zHo cl (wdF A a b dr y) := by
      intro cl hcl
      have e : ∀ j, j ≠ 8 → wdF A a b dr x j = wdF A a b dr y j := by
        intro j hj
        by_cases h9 : j < 9
        · rcases lt9 h9 with rfl | rfl | rfl | rfl | rfl | rfl | rfl | rfl | rfl
          all_goals first | rfl | exact absurd rfl hj
        · simp only [wdF]
          rw [List.getD_eq_getElem?_getD, List.getD_eq_getElem?_getD, List.getElem?_eq_none (by simp; omega), List.getElem?_eq_none (by simp; omega)]
      obtain ⟨e1, e2⟩ := hd cl hcl _ _ e
      simp only [zHo, e1, e2]
    constructor
    · rintro ⟨cl, h1, h2⟩
      exact ⟨cl, h1, by rw [← key cl h1]; exact h2⟩
    · rintro ⟨cl, h1, h2⟩
      exact ⟨cl, h1, by rw [key cl h1]; exact h2⟩
  simp only [opn]
  refine mk_c (fun j _ => ?_)
  simp only [opB, hb]
end
