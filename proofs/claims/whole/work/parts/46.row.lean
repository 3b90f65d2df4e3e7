/-! rows of houses -/
theorem sI_id {σ : gS} {a k : Nat} {v : Int32} (h : gI σ a k = v) : sI σ a k v = σ := by
  have : gU (gI σ) a k v = gI σ := by
    funext b j
    simp only [gU]
    split
    · next z => rw [z.1, z.2, h]
    · rfl
  simp only [sI, this]
  rfl
theorem sI_sI {σ : gS} {a k : Nat} {u v : Int32} : sI (sI σ a k u) a k v = sI σ a k v := by
  have : gU (gU (gI σ) a k u) a k v = gU (gI σ) a k v := by
    funext b j
    simp only [gU]
    split <;> rfl
  show (gK σ, gN σ, gU (gU (gI σ) a k u) a k v, gJ σ, gR σ, gn σ, gw σ, gT σ) = _
  rw [this]
  rfl
theorem sIr_I_r {σ : gS} {a b k : Nat} {v : Int32} {f g : Nat → Int32} (h : b ≠ a) : sIr (sI (sIr σ a f) b k v) a g = sI (sIr σ a g) b k v := by
  have : gUr (gU (gUr (gI σ) a f) b k v) a g = gU (gUr (gI σ) a g) b k v := by
    funext c j
    simp only [gU, gUr]
    by_cases h1 : c = a
    · subst h1
      have : ¬ (c = b ∧ j = k) := fun z => h z.1.symm
      simp only [this, if_true, if_false]
    · simp only [h1, if_false]
  show (gK σ, gN σ, gUr (gU (gUr (gI σ) a f) b k v) a g, gJ σ, gR σ, gn σ, gw σ, gT σ) = _
  rw [this]
  rfl
theorem sb_lt {b : Nat} (h : b < 128) : sb b = nI b := if_pos h
theorem sb_neg {b : Nat} (h : b < 256) (h2 : ¬ b < 128) : (sb b).toInt < 0 := by
  rw [sb, if_neg h2, sub_toInt (by omega) (by omega)]
  omega
theorem sb_ge {b : Nat} (h : b < 256) (h2 : nI 0 ≤ sb b ∨ nI 1 ≤ sb b) : b < 128 := by
  by_cases h3 : b < 128
  · exact h3
  · exfalso
    have := sb_neg h h3
    rw [Int32.le_iff_toInt_le, Int32.le_iff_toInt_le, nI_toInt (by omega), nI_toInt (by omega)] at h2
    omega
theorem okH_b {a b c e f : Nat} (ha : a < 256) (hb : b < 256) (hc : c < 256) (he : e < 256) (hf : f < 256) (h : okH (nI a) (nI b) (nI c) (nI e) (nI f)) : 1 ≤ c ∧ c ≤ 3 ∧ 1 ≤ e ∧ e ≤ 3 ∧ a + c ≤ 8 ∧ b + e ≤ 8 ∧ f ≤ 9 := by
  obtain ⟨l, t, w, d, r, h1, h2, h3, h4, h5, h6⟩ := okH_n h
  rw [nI_eq (by omega) (by omega)] at h1 h2 h3 h4 h5
  subst h1 h2 h3 h4 h5
  exact h6
theorem okH_sb {a b c e f : Nat} (ha : a < 256) (hb : b < 256) (hc : c < 256) (he : e < 256) (hf : f < 256) : okH (sb a) (sb b) (sb c) (sb e) (sb f) ↔ okH (nI a) (nI b) (nI c) (nI e) (nI f) := by
  constructor
  · intro h
    obtain ⟨⟨h1, h2⟩, h3, h4, h5⟩ := h
    have a1 := sb_lt (sb_ge ha (Or.inl h4.1))
    have a2 := sb_lt (sb_ge hb (Or.inl h5.1))
    have a3 := sb_lt (sb_ge hc (Or.inr h1.1))
    have a4 := sb_lt (sb_ge he (Or.inr h2.1))
    have a5 := sb_lt (sb_ge hf (Or.inl h3.1))
    rw [a1, a3] at h4
    rw [a2, a4] at h5
    rw [a3] at h1
    rw [a4] at h2
    rw [a5] at h3
    exact ⟨⟨h1, h2⟩, h3, h4, h5⟩
  · intro h
    obtain ⟨q1, q2, q3, q4, q5, q6, q7⟩ := okH_b ha hb hc he hf h
    rw [sb_lt (by omega), sb_lt (by omega), sb_lt (by omega), sb_lt (by omega), sb_lt (by omega)]
    exact h
/-- a house can be made of the five bytes at p -/
def canR (A : Nat → Int32) (T : Nat → Nat) (p : Nat) : Bool := decide (okH (nI (T p)) (nI (T (p + 1))) (nI (T (p + 2))) (nI (T (p + 3))) (nI (T (p + 4)))) && (!anyB (ovB A (T p) (T (p + 1)) (T (p + 2)) (T (p + 3))) (hn A) 0 && decide (hn A < 12))
theorem canR_1 {A : Nat → Int32} {T : Nat → Nat} {p : Nat} (ok : okH (nI (T p)) (nI (T (p + 1))) (nI (T (p + 2))) (nI (T (p + 3))) (nI (T (p + 4)))) (ov : anyB (ovB A (T p) (T (p + 1)) (T (p + 2)) (T (p + 3))) (hn A) 0 = false) (h : hn A < 12) : canR A T p = true := by
  rw [canR, decide_eq_true ok, ov, decide_eq_true h]
  rfl
theorem canR_0 {A : Nat → Int32} {T : Nat → Nat} {p : Nat} (ok : ¬ okH (nI (T p)) (nI (T (p + 1))) (nI (T (p + 2))) (nI (T (p + 3))) (nI (T (p + 4)))) : canR A T p = false := by
  rw [canR, decide_eq_false ok]
  rfl
def adR (A : Nat → Int32) (T : Nat → Nat) (p : Nat) : Nat → Int32 := if canR A T p = true then addH A (T p) (T (p + 1)) (T (p + 2)) (T (p + 3)) (T (p + 4)) else A
def rwA (T : Nat → Nat) : Nat → Nat → (Nat → Int32) → Nat → Int32
  | 0, _, A => A
  | n + 1, p, A => rwA T n (p + 5) (adR A T p)
def rwC (T : Nat → Nat) : Nat → Nat → (Nat → Int32) → Nat
  | 0, _, _ => 0
  | n + 1, p, A => (if canR A T p = true then 1 else 0) + rwC T n (p + 5) (adR A T p)
theorem rwC_le (T : Nat → Nat) : ∀ n p A, rwC T n p A ≤ n := by
  intro n
  induction n with
  | zero => intro p A; exact Nat.le_refl 0
  | succ n ih =>
    intro p A
    have := ih (p + 5) (adR A T p)
    simp only [rwC]
    split <;> omega
theorem rwA_0 (T : Nat → Nat) : ∀ n p A, rwC T n p A = 0 → rwA T n p A = A := by
  intro n
  induction n with
  | zero => intro p A _; rfl
  | succ n ih =>
    intro p A h
    simp only [rwC] at h
    by_cases c : canR A T p = true
    · rw [if_pos c] at h; omega
    · rw [if_neg c, Nat.zero_add] at h
      have e : adR A T p = A := if_neg c
      rw [e] at h
      simp only [rwA, e]
      exact ih _ _ h
theorem canR_t {A : Nat → Int32} {T : Nat → Nat} {p : Nat} (hT : ∀ j, T j < 256) (h : canR A T p = true) : okH (nI (T p)) (nI (T (p + 1))) (nI (T (p + 2))) (nI (T (p + 3))) (nI (T (p + 4))) ∧ (1 ≤ T (p + 2) ∧ T (p + 2) ≤ 3 ∧ 1 ≤ T (p + 3) ∧ T (p + 3) ≤ 3 ∧ T p + T (p + 2) ≤ 8 ∧ T (p + 1) + T (p + 3) ≤ 8 ∧ T (p + 4) ≤ 9) ∧ anyB (ovB A (T p) (T (p + 1)) (T (p + 2)) (T (p + 3))) (hn A) 0 = false ∧ hn A < 12 := by
  simp only [canR, Bool.and_eq_true, decide_eq_true_eq, Bool.not_eq_true'] at h
  exact ⟨h.1, okH_b (hT _) (hT _) (hT _) (hT _) (hT _) h.1, h.2.1, h.2.2⟩
/-- what the row so far has made of the town -/
def RI (B : Nat) (σ τ : gS) (A0 A : Nat → Int32) (cc : Nat) : Prop := Sm (fun a => B + 1 ≤ a ∧ a ≤ B + 7) σ τ ∧ (Wh A ∧ Wd A ∧ Th (B + 1) τ A ∧ Td (B + 1) τ A) ∧ (∀ j, j = 10 ∨ j = 11 ∨ j = 12 ∨ j = 13 → gI τ (B + 1) j = gI σ (B + 1) j) ∧ gI τ (B + 1) 17 = gI σ (B + 1) 17 + nI cc ∧ (cc = 0 → τ = σ ∧ A = A0) ∧ (∀ j, 216 ≤ j → j ≠ 250 → A j = A0 j) ∧ hn A0 ≤ hn A
theorem RI_add {B : Nat} {σ τ : gS} {A0 A : Nat → Int32} {cc : Nat} {T : Nat → Nat} {p : Nat} (hT : ∀ j, T j < 256) (h : RI B σ τ A0 A cc) (c : canR A T p = true) : RI B σ (bld τ B (hn A) (T p) (T (p + 1)) (T (p + 2)) (T (p + 3)) (T (p + 4)) (mkN (St A) (hn A) ||| 2 ^ hn A)) A0 (adR A T p) (cc + 1) := by
  obtain ⟨h1, ⟨h2, h3, h4, h5⟩, h6, h7, h8, h9, h10⟩ := h
  obtain ⟨c1, ⟨q1, q2, q3, q4, q5, q6, q7⟩, c3, c4⟩ := canR_t hT c
  have e : adR A T p = addH A (T p) (T (p + 1)) (T (p + 2)) (T (p + 3)) (T (p + 4)) := if_pos c
  rw [e]
  refine ⟨?_, ⟨add_Wh h2 c4 q1 q2 q3 q4 q5 q6 q7 c3, add_Wd h3 c4, add_Th h2 h4 c4, add_Td h3 h5 c4⟩, ?_, ?_, ?_, ?_, ?_⟩
  · unfold bld
    exact Sm_I (Sm_I (Sm_I (Sm_I (Sm_I (Sm_I (Sm_I (Sm_I (Sm_I h1 ⟨by omega, by omega⟩) ⟨by omega, by omega⟩) ⟨by omega, by omega⟩) ⟨by omega, by omega⟩) ⟨by omega, by omega⟩) ⟨by omega, by omega⟩) ⟨by omega, by omega⟩) ⟨by omega, by omega⟩) ⟨by omega, by omega⟩
  · intro j hj
    rw [← h6 j hj]
    simp (disch := omega) only [bld, rI_ne, rI_nk]
  · simp (disch := omega) only [bld, rI_eq]
    rw [h7, Int32.add_assoc, nI_add]
  · intro z; omega
  · intro j j1 j2
    rw [ad_o (by omega) j2]
    exact h9 j j1 j2
  · rw [ad_hn c4]; omega
theorem s_bf1 {d : Nat} {Q : Option Value → gS → Prop} {B q p : Nat} {τ : gS} {A : Nat → Int32} {T : Nat → Nat} (hv : IvS B τ) (wh : Wh A) (g : Th (B + 1) τ A) (hT : ∀ j, T j < 256) (ht : ∀ j, j < q → gI τ (B + 19) j = nI (T j)) (hp : p + 5 ≤ q) (hq : q ≤ 400) (c : canR A T p = true) : wc (d + 4) 158 [.ref B, .int (nI p)] τ Q ↔ Q (some (.int (nI 1))) (bld τ B (hn A) (T p) (T (p + 1)) (T (p + 2)) (T (p + 3)) (T (p + 4)) (mkN (St A) (hn A) ||| 2 ^ hn A)) := by
  obtain ⟨c1, ⟨q1, q2, q3, q4, q5, q6, q7⟩, c3, c4⟩ := canR_t hT c
  have z0 : p ≤ 395 := by omega
  have y0 : p < 400 := by omega
  have y1 : p + 1 < 400 := by omega
  have y2 : p + 2 < 400 := by omega
  have y3 : p + 3 < 400 := by omega
  have y4 : p + 4 < 400 := by omega
  simp (disch := omega) only [c_158, e_158_0, e_158_1, e_158_2, e_158_5, e_158_8, e_158_11, e_158_12, e_158_13, e_158_14, e_158_17, e_158_18, e_158_19, e_158_20, e_158_21, e_158_24, e_158_25, e_158_26, e_158_27, e_158_28, e_158_29, e_158_30, e_158_33, e_158_34, e_158_35, e_158_36, e_158_37, e_158_39, e_158_40, e_158_43, e_158_44, e_158_45, e_158_46, e_158_47, e_158_49, e_158_50, e_158_53, e_158_54, e_158_55, e_158_56, e_158_57, e_158_59, e_158_60, e_158_63, e_158_64, e_158_65, e_158_67, e_158_69, e_158_71, e_158_74, e_158_77, e_158_78, e_158_79, e_158_80, e_158_83, e_158_84, e_158_85, e_158_87, e_158_89, e_158_91, e_158_94, e_158_94n, e_158_95, e_158_96, n10, n01, Nat.lt_irrefl, Nat.not_lt_zero, ne_eq, Nat.add_zero, Nat.one_ne_zero, Nat.zero_ne_one, Nat.reduceEqDiff, bI_T, bI_F, bI_0, bI_1, bI_01, not_and_self, true_and, and_true, not_true_eq_false, not_false_eq_true, false_imp_iff, true_imp_iff, imp_self, gPv_n, gPv_i, gPv_r, gPv_0, Option.toList_some, Option.toList_none, List.singleton_append, List.cons_append, List.nil_append, List.length_nil, List.length_cons, Nat.zero_le, Nat.reduceAdd, Nat.reduceLeDiff, or_true, true_or, false_or, or_false, and_self, and_false, false_and, implies_true, Option.some.injEq, exists_eq_left', nL, nI_add, nI_mul, nI_clamp, nI_ltI, nI_leI, nI_eq, nI_pos, nI_pos', Nat.reduceAdd, Nat.reduceMul, Nat.reducePow, sk_0 hv, sr_0_0 hv, sr_0_1 hv, sr_0_2 hv, sr_0_4 hv, sr_0_7 hv, sr_0_9 hv, sr_0_10 hv, sr_0_11 hv, sr_0_12 hv, sr_0_13 hv, sr_0_14 hv, sk_1 hv, sr_1_0 hv, sr_1_1 hv, sr_1_2 hv, sr_1_3 hv, sr_1_4 hv, sr_1_7 hv, sr_1_9 hv, sr_1_14 hv, sr_1_15 hv, sr_1_16 hv, sk_19 hv, sn_19 hv, s_within, z0, y0, y1, y2, y3, y4, ht, s_why hv wh g q1 q2 q3 q4 q5 q6 q7, s_build hv wh g c4, c3, c4, Bool.false_eq_true, if_true, if_false]
theorem s_bf0 {d : Nat} {Q : Option Value → gS → Prop} {B q p : Nat} {τ : gS} {A : Nat → Int32} {T : Nat → Nat} (hv : IvS B τ) (wh : Wh A) (g : Th (B + 1) τ A) (hT : ∀ j, T j < 256) (ht : ∀ j, j < q → gI τ (B + 19) j = nI (T j)) (hp : p + 5 ≤ q) (hq : q ≤ 400) (c : canR A T p = false) : wc (d + 4) 158 [.ref B, .int (nI p)] τ Q ↔ Q (some (.int (nI 0))) τ := by
  have z0 : p ≤ 395 := by omega
  have y0 : p < 400 := by omega
  have y1 : p + 1 < 400 := by omega
  have y2 : p + 2 < 400 := by omega
  have y3 : p + 3 < 400 := by omega
  have y4 : p + 4 < 400 := by omega
  have m1 : ¬ (-nI 1 = nI 0) := by decide
  have m3 : ¬ (-nI 3 = nI 0) := by decide
  have m5 : ¬ (-nI 5 = nI 0) := by decide
  by_cases ok : okH (nI (T p)) (nI (T (p + 1))) (nI (T (p + 2))) (nI (T (p + 3))) (nI (T (p + 4)))
  · obtain ⟨q1, q2, q3, q4, q5, q6, q7⟩ := okH_b (hT _) (hT _) (hT _) (hT _) (hT _) ok
    by_cases ov : anyB (ovB A (T p) (T (p + 1)) (T (p + 2)) (T (p + 3))) (hn A) 0 = true
    · simp (disch := omega) only [c_158, e_158_0, e_158_1, e_158_2, e_158_5, e_158_8, e_158_11, e_158_12, e_158_13, e_158_14, e_158_17, e_158_18, e_158_19, e_158_20, e_158_21, e_158_24, e_158_25, e_158_26, e_158_27, e_158_28, e_158_29, e_158_30, e_158_33, e_158_34, e_158_35, e_158_36, e_158_37, e_158_39, e_158_40, e_158_43, e_158_44, e_158_45, e_158_46, e_158_47, e_158_49, e_158_50, e_158_53, e_158_54, e_158_55, e_158_56, e_158_57, e_158_59, e_158_60, e_158_63, e_158_64, e_158_65, e_158_67, e_158_69, e_158_71, e_158_74, e_158_77, e_158_78, n10, n01, Nat.lt_irrefl, Nat.not_lt_zero, ne_eq, Nat.add_zero, Nat.one_ne_zero, Nat.zero_ne_one, Nat.reduceEqDiff, bI_T, bI_F, bI_0, bI_1, bI_01, not_and_self, true_and, and_true, not_true_eq_false, not_false_eq_true, false_imp_iff, true_imp_iff, imp_self, gPv_n, gPv_i, gPv_r, gPv_0, Option.toList_some, Option.toList_none, List.singleton_append, List.cons_append, List.nil_append, List.length_nil, List.length_cons, Nat.zero_le, Nat.reduceAdd, Nat.reduceLeDiff, or_true, true_or, false_or, or_false, and_self, and_false, false_and, implies_true, Option.some.injEq, exists_eq_left', nL, nI_add, nI_mul, nI_clamp, nI_ltI, nI_leI, nI_eq, nI_pos, nI_pos', Nat.reduceAdd, Nat.reduceMul, Nat.reducePow, sk_0 hv, sr_0_0 hv, sr_0_1 hv, sr_0_2 hv, sr_0_4 hv, sr_0_7 hv, sr_0_9 hv, sr_0_10 hv, sr_0_11 hv, sr_0_12 hv, sr_0_13 hv, sr_0_14 hv, sk_1 hv, sr_1_0 hv, sr_1_1 hv, sr_1_2 hv, sr_1_3 hv, sr_1_4 hv, sr_1_7 hv, sr_1_9 hv, sr_1_14 hv, sr_1_15 hv, sr_1_16 hv, sk_19 hv, sn_19 hv, s_within, z0, y0, y1, y2, y3, y4, ht, s_why hv wh g q1 q2 q3 q4 q5 q6 q7, ov, if_true, m3]
    · have ov : anyB (ovB A (T p) (T (p + 1)) (T (p + 2)) (T (p + 3))) (hn A) 0 = false := by simpa using ov
      have c4 : ¬ hn A < 12 := by
        intro z
        rw [canR_1 ok ov z] at c
        exact Bool.false_ne_true c.symm
      simp (disch := omega) only [c_158, e_158_0, e_158_1, e_158_2, e_158_5, e_158_8, e_158_11, e_158_12, e_158_13, e_158_14, e_158_17, e_158_18, e_158_19, e_158_20, e_158_21, e_158_24, e_158_25, e_158_26, e_158_27, e_158_28, e_158_29, e_158_30, e_158_33, e_158_34, e_158_35, e_158_36, e_158_37, e_158_39, e_158_40, e_158_43, e_158_44, e_158_45, e_158_46, e_158_47, e_158_49, e_158_50, e_158_53, e_158_54, e_158_55, e_158_56, e_158_57, e_158_59, e_158_60, e_158_63, e_158_64, e_158_65, e_158_67, e_158_69, e_158_71, e_158_74, e_158_77, e_158_78, n10, n01, Nat.lt_irrefl, Nat.not_lt_zero, ne_eq, Nat.add_zero, Nat.one_ne_zero, Nat.zero_ne_one, Nat.reduceEqDiff, bI_T, bI_F, bI_0, bI_1, bI_01, not_and_self, true_and, and_true, not_true_eq_false, not_false_eq_true, false_imp_iff, true_imp_iff, imp_self, gPv_n, gPv_i, gPv_r, gPv_0, Option.toList_some, Option.toList_none, List.singleton_append, List.cons_append, List.nil_append, List.length_nil, List.length_cons, Nat.zero_le, Nat.reduceAdd, Nat.reduceLeDiff, or_true, true_or, false_or, or_false, and_self, and_false, false_and, implies_true, Option.some.injEq, exists_eq_left', nL, nI_add, nI_mul, nI_clamp, nI_ltI, nI_leI, nI_eq, nI_pos, nI_pos', Nat.reduceAdd, Nat.reduceMul, Nat.reducePow, sk_0 hv, sr_0_0 hv, sr_0_1 hv, sr_0_2 hv, sr_0_4 hv, sr_0_7 hv, sr_0_9 hv, sr_0_10 hv, sr_0_11 hv, sr_0_12 hv, sr_0_13 hv, sr_0_14 hv, sk_1 hv, sr_1_0 hv, sr_1_1 hv, sr_1_2 hv, sr_1_3 hv, sr_1_4 hv, sr_1_7 hv, sr_1_9 hv, sr_1_14 hv, sr_1_15 hv, sr_1_16 hv, sk_19 hv, sn_19 hv, s_within, z0, y0, y1, y2, y3, y4, ht, s_why hv wh g q1 q2 q3 q4 q5 q6 q7, ov, c4, Bool.false_eq_true, if_false, m5]
  · simp (disch := omega) only [c_158, e_158_0, e_158_1, e_158_2, e_158_5, e_158_8, e_158_11, e_158_12, e_158_13, e_158_14, e_158_17, e_158_18, e_158_19, e_158_20, e_158_21, e_158_24, e_158_25, e_158_26, e_158_27, e_158_28, e_158_29, e_158_30, e_158_33, e_158_34, e_158_35, e_158_36, e_158_37, e_158_39, e_158_40, e_158_43, e_158_44, e_158_45, e_158_46, e_158_47, e_158_49, e_158_50, e_158_53, e_158_54, e_158_55, e_158_56, e_158_57, e_158_59, e_158_60, e_158_63, e_158_64, e_158_65, e_158_67, e_158_69, e_158_71, e_158_74, e_158_77, e_158_78, n10, n01, Nat.lt_irrefl, Nat.not_lt_zero, ne_eq, Nat.add_zero, Nat.one_ne_zero, Nat.zero_ne_one, Nat.reduceEqDiff, bI_T, bI_F, bI_0, bI_1, bI_01, not_and_self, true_and, and_true, not_true_eq_false, not_false_eq_true, false_imp_iff, true_imp_iff, imp_self, gPv_n, gPv_i, gPv_r, gPv_0, Option.toList_some, Option.toList_none, List.singleton_append, List.cons_append, List.nil_append, List.length_nil, List.length_cons, Nat.zero_le, Nat.reduceAdd, Nat.reduceLeDiff, or_true, true_or, false_or, or_false, and_self, and_false, false_and, implies_true, Option.some.injEq, exists_eq_left', nL, nI_add, nI_mul, nI_clamp, nI_ltI, nI_leI, nI_eq, nI_pos, nI_pos', Nat.reduceAdd, Nat.reduceMul, Nat.reducePow, sk_0 hv, sr_0_0 hv, sr_0_1 hv, sr_0_2 hv, sr_0_4 hv, sr_0_7 hv, sr_0_9 hv, sr_0_10 hv, sr_0_11 hv, sr_0_12 hv, sr_0_13 hv, sr_0_14 hv, sk_1 hv, sr_1_0 hv, sr_1_1 hv, sr_1_2 hv, sr_1_3 hv, sr_1_4 hv, sr_1_7 hv, sr_1_9 hv, sr_1_14 hv, sr_1_15 hv, sr_1_16 hv, sk_19 hv, sn_19 hv, s_within, z0, y0, y1, y2, y3, y4, ht, s_whyB ok, m1]
theorem RI_v {B : Nat} {σ τ : gS} {A0 A : Nat → Int32} {cc : Nat} (hv : IvS B σ) (h : RI B σ τ A0 A cc) : IvS B τ := fr_IvS h.1.1 h.1.2.1 h.1.2.2.1 hv
theorem s_rowL {d : Nat} {Q : Option Value → gS → Prop} {B q m : Nat} {σ : gS} {A0 : Nat → Int32} {T : Nat → Nat} (hv : IvS B σ) (hT : ∀ j, T j < 256) (ht : ∀ j, j < q → gI σ (B + 19) j = nI (T j)) (hq : q ≤ 400) (hm : m < 5) : ∀ n p cm rn cc τ A, p + 5 * n + m = q → rn + n ≤ 100 → cm + n ≤ 100 → RI B σ τ A0 A cc →
    (∀ τ' x4, RI B σ τ' A0 (rwA T n p A) (cc + rwC T n p A) → wp (d + 4) pr_124 Q 69 [some (.ref B), some (.int (nI q)), some (.int (nI (cm + rwC T n p A))), some (.int (nI (rn + (n - rwC T n p A) + (if m = 0 then 0 else 1)))), x4] [] τ') → wp (d + 4) pr_124 Q 31 [some (.ref B), some (.int (nI q)), some (.int (nI cm)), some (.int (nI rn)), some (.int (nI p))] [] τ := by
  intro n
  induction n with
  | zero =>
    intro p cm rn cc τ A hp h1 h2 hR hK
    have hK := hK τ (some (.int (nI (p + if m = 0 then 0 else 5)))) hR
    by_cases hm0 : m = 0
    · have z : q ≤ p := by omega
      simp (disch := omega) only [e_124_31, e_124_33, e_124_34, n10, n01, Nat.lt_irrefl, Nat.not_lt_zero, ne_eq, Nat.add_zero, Nat.one_ne_zero, Nat.zero_ne_one, Nat.reduceEqDiff, bI_T, bI_F, bI_0, bI_1, bI_01, not_and_self, true_and, and_true, not_true_eq_false, not_false_eq_true, false_imp_iff, true_imp_iff, imp_self, gPv_n, gPv_i, gPv_r, gPv_0, Option.toList_some, Option.toList_none, List.singleton_append, List.cons_append, List.nil_append, List.length_nil, List.length_cons, Nat.zero_le, Nat.reduceAdd, Nat.reduceLeDiff, or_true, true_or, false_or, or_false, and_self, and_false, false_and, implies_true, Option.some.injEq, exists_eq_left', nL, nI_add, nI_mul, nI_clamp, nI_ltI, nI_leI, nI_eq, nI_pos, nI_pos', Nat.reduceAdd, Nat.reduceMul, Nat.reducePow, z]
      simpa only [hm0, if_true, rwC, Nat.add_zero, Nat.sub_zero] using hK
    · have z : ¬ q ≤ p := by omega
      have z2 : q < p + 5 := by omega
      have z3 : q ≤ p + 5 := by omega
      rw [e_124_31]
      simp (disch := omega) only [e_124_33, e_124_34, e_124_37, e_124_39, e_124_40, e_124_41, e_124_42, e_124_60, e_124_63, e_124_66, n10, n01, Nat.lt_irrefl, Nat.not_lt_zero, ne_eq, Nat.add_zero, Nat.one_ne_zero, Nat.zero_ne_one, Nat.reduceEqDiff, bI_T, bI_F, bI_0, bI_1, bI_01, not_and_self, true_and, and_true, not_true_eq_false, not_false_eq_true, false_imp_iff, true_imp_iff, imp_self, gPv_n, gPv_i, gPv_r, gPv_0, Option.toList_some, Option.toList_none, List.singleton_append, List.cons_append, List.nil_append, List.length_nil, List.length_cons, Nat.zero_le, Nat.reduceAdd, Nat.reduceLeDiff, or_true, true_or, false_or, or_false, and_self, and_false, false_and, implies_true, Option.some.injEq, exists_eq_left', nL, nI_add, nI_mul, nI_clamp, nI_ltI, nI_leI, nI_eq, nI_pos, nI_pos', Nat.reduceAdd, Nat.reduceMul, Nat.reducePow, z, z2]
      simp (disch := omega) only [e_124_31, e_124_33, e_124_34, n10, n01, Nat.lt_irrefl, Nat.not_lt_zero, ne_eq, Nat.add_zero, Nat.one_ne_zero, Nat.zero_ne_one, Nat.reduceEqDiff, bI_T, bI_F, bI_0, bI_1, bI_01, not_and_self, true_and, and_true, not_true_eq_false, not_false_eq_true, false_imp_iff, true_imp_iff, imp_self, gPv_n, gPv_i, gPv_r, gPv_0, Option.toList_some, Option.toList_none, List.singleton_append, List.cons_append, List.nil_append, List.length_nil, List.length_cons, Nat.zero_le, Nat.reduceAdd, Nat.reduceLeDiff, or_true, true_or, false_or, or_false, and_self, and_false, false_and, implies_true, Option.some.injEq, exists_eq_left', nL, nI_add, nI_mul, nI_clamp, nI_ltI, nI_leI, nI_eq, nI_pos, nI_pos', Nat.reduceAdd, Nat.reduceMul, Nat.reducePow, z3]
      simpa only [hm0, if_false, rwC, Nat.add_zero, Nat.sub_zero] using hK
  | succ n ih =>
    intro p cm rn cc τ A hp h1 h2 hR hK
    have z : ¬ q ≤ p := by omega
    have z2 : ¬ q < p + 5 := by omega
    have hvt := RI_v hv hR
    have ht' : ∀ j, j < q → gI τ (B + 19) j = nI (T j) := by
      intro j hj
      rw [hR.1.2.2.2.2.2.2.1 (B + 19) (by omega)]
      exact ht j hj
    have hc := rwC_le T n (p + 5) (adR A T p)
    rw [e_124_31]
    by_cases c : canR A T p = true
    · simp (disch := omega) only [e_124_33, e_124_34, e_124_37, e_124_39, e_124_40, e_124_41, e_124_42, e_124_45, e_124_46, e_124_48, e_124_51, e_124_54, e_124_57, e_124_60, e_124_63, e_124_66, n10, n01, Nat.lt_irrefl, Nat.not_lt_zero, ne_eq, Nat.add_zero, Nat.one_ne_zero, Nat.zero_ne_one, Nat.reduceEqDiff, bI_T, bI_F, bI_0, bI_1, bI_01, not_and_self, true_and, and_true, not_true_eq_false, not_false_eq_true, false_imp_iff, true_imp_iff, imp_self, gPv_n, gPv_i, gPv_r, gPv_0, Option.toList_some, Option.toList_none, List.singleton_append, List.cons_append, List.nil_append, List.length_nil, List.length_cons, Nat.zero_le, Nat.reduceAdd, Nat.reduceLeDiff, or_true, true_or, false_or, or_false, and_self, and_false, false_and, implies_true, Option.some.injEq, exists_eq_left', nL, nI_add, nI_mul, nI_clamp, nI_ltI, nI_leI, nI_eq, nI_pos, nI_pos', Nat.reduceAdd, Nat.reduceMul, Nat.reducePow, sk_0 hvt, sr_0_0 hvt, sr_0_1 hvt, sr_0_2 hvt, sr_0_4 hvt, sr_0_7 hvt, sr_0_9 hvt, sr_0_10 hvt, sr_0_11 hvt, sr_0_12 hvt, sr_0_13 hvt, sr_0_14 hvt, z, z2, s_bf1 hvt hR.2.1.1 hR.2.1.2.2.1 hT ht' (show p + 5 ≤ q by omega) hq c]
      refine ih (p + 5) (cm + 1) rn (cc + 1) _ (adR A T p) (by omega) (by omega) (by omega) (RI_add hT hR c) ?_
      intro τ' x4 hR'
      have hK := hK τ' x4 (by
        simp only [rwA, rwC]
        rw [if_pos c, show cc + (1 + rwC T n (p + 5) (adR A T p)) = cc + 1 + rwC T n (p + 5) (adR A T p) from by omega]
        exact hR')
      simp only [rwC] at hK
      rw [if_pos c, show cm + (1 + rwC T n (p + 5) (adR A T p)) = cm + 1 + rwC T n (p + 5) (adR A T p) from by omega, show n + 1 - (1 + rwC T n (p + 5) (adR A T p)) = n - rwC T n (p + 5) (adR A T p) from by omega] at hK
      exact hK
    · have c' : canR A T p = false := by simpa using c
      have e : adR A T p = A := if_neg c
      simp (disch := omega) only [e_124_33, e_124_34, e_124_37, e_124_39, e_124_40, e_124_41, e_124_42, e_124_45, e_124_46, e_124_48, e_124_51, e_124_54, e_124_57, e_124_60, e_124_63, e_124_66, n10, n01, Nat.lt_irrefl, Nat.not_lt_zero, ne_eq, Nat.add_zero, Nat.one_ne_zero, Nat.zero_ne_one, Nat.reduceEqDiff, bI_T, bI_F, bI_0, bI_1, bI_01, not_and_self, true_and, and_true, not_true_eq_false, not_false_eq_true, false_imp_iff, true_imp_iff, imp_self, gPv_n, gPv_i, gPv_r, gPv_0, Option.toList_some, Option.toList_none, List.singleton_append, List.cons_append, List.nil_append, List.length_nil, List.length_cons, Nat.zero_le, Nat.reduceAdd, Nat.reduceLeDiff, or_true, true_or, false_or, or_false, and_self, and_false, false_and, implies_true, Option.some.injEq, exists_eq_left', nL, nI_add, nI_mul, nI_clamp, nI_ltI, nI_leI, nI_eq, nI_pos, nI_pos', Nat.reduceAdd, Nat.reduceMul, Nat.reducePow, sk_0 hvt, sr_0_0 hvt, sr_0_1 hvt, sr_0_2 hvt, sr_0_4 hvt, sr_0_7 hvt, sr_0_9 hvt, sr_0_10 hvt, sr_0_11 hvt, sr_0_12 hvt, sr_0_13 hvt, sr_0_14 hvt, z, z2, s_bf0 hvt hR.2.1.1 hR.2.1.2.2.1 hT ht' (show p + 5 ≤ q by omega) hq c']
      refine ih (p + 5) cm (rn + 1) cc τ A (by omega) (by omega) (by omega) hR ?_
      intro τ' x4 hR'
      rw [e] at hc
      have hK := hK τ' x4 (by
        simp only [rwA, rwC]
        rw [if_neg c, e, Nat.zero_add]
        exact hR')
      simp only [rwC] at hK
      rw [if_neg c, e, Nat.zero_add, show rn + (n + 1 - rwC T n (p + 5) A) = rn + 1 + (n - rwC T n (p + 5) A) from by omega] at hK
      exact hK
