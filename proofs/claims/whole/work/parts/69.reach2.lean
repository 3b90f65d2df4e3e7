/-! who comes to whom: the model -/
/-- what the model's nexts answers -/
def NX (B : Nat) (τ : gS) (n : Nat) (E : Nat → Nat) : Prop := ∀ h, h < n → ∀ (d : Nat) (Q : Option Value → gS → Prop), wc (d + 2) 237 [.ref (B + 54), .int (nI h)] τ Q ↔ Q (some (.int (nI (E h)))) τ
theorem nI_adP (a b : Nat) : nI a &&& (nI b ^^^ -nI 1) = nI (ad a b) := nI_ad a b
theorem ad_lt {a b : Nat} (h : a < 4096) : ad a b < 4096 := by
  refine Nat.lt_pow_two_of_testBit (n := 12) _ ?_
  intro i hi
  rw [tb_ad, tb_lt (n := 12) h hi]
  rfl
section
variable {B : Nat} {σ : gS} {A : Nat → Int32} {d : Nat} {Q : Option Value → gS → Prop} {E : Nat → Nat}
theorem orU_c {F F' : Nat → Nat} : ∀ {n : Nat}, (∀ h, h < n → F h = F' h) → orU F n = orU F' n := by
  intro n
  induction n with
  | zero => intro _; rfl
  | succ n ih =>
    intro h
    simp only [orU, h n (by omega), ih (fun j hj => h j (by omega))]
theorem t_rc1 {wo S S0 : Nat} (X : MX B σ A) (hN : NX B σ (hn A) E) (hE : ∀ h, E h < 4096) (hS : S < 4096) : ∀ m h, h + m = hn A → (wp (d + 3) pr_239 Q 21 [some (.ref (B + 54)), some (.int (nI S0)), some (.int (nI wo)), some (.int (nI (S ||| orU (fun h => if S.testBit h = true then ad (E h) wo else 0) h))), some (.int (nI S)), some (.int (nI h))] [] σ ↔ wp (d + 3) pr_239 Q 9 [some (.ref (B + 54)), some (.int (nI S0)), some (.int (nI wo)), some (.int (nI (sp1 (fun h => ad (E h) wo) (hn A) S))), some (.int (nI S)), some (.int (nI (hn A)))] [] σ) := by
  obtain ⟨hv, hA, wh, wd, wl⟩ := X
  have h12 := hn_le wh
  have hn2 := hn_eq wh
  intro m
  induction m with
  | zero =>
    intro h hh
    have z : hn A ≤ h := by omega
    have eh : h = hn A := by omega
    subst eh
    simp (disch := omega) only [e_239_21, e_239_23, e_239_24, e_239_27, e_239_59, n10, n01, Nat.lt_irrefl, Nat.not_lt_zero, ne_eq, Nat.add_zero, Nat.one_ne_zero, Nat.zero_ne_one, Nat.reduceEqDiff, bI_T, bI_F, bI_0, bI_1, bI_01, not_and_self, true_and, and_true, not_true_eq_false, not_false_eq_true, false_imp_iff, true_imp_iff, imp_self, gPv_n, gPv_i, gPv_r, gPv_0, Option.toList_some, Option.toList_none, List.singleton_append, List.cons_append, List.nil_append, List.length_nil, List.length_cons, Nat.zero_le, Nat.reduceAdd, Nat.reduceLeDiff, or_true, true_or, false_or, or_false, and_self, and_false, false_and, implies_true, Option.some.injEq, exists_eq_left', nL, nI_add, nI_mul, nI_clamp, nI_ltI, nI_leI, nI_eq, nI_pos, nI_pos', Nat.reduceAdd, Nat.reduceMul, Nat.reducePow, sk_54 hv, sr_54_2 hv, sr_54_3 hv, sr_54_4 hv, sr_54_5 hv, sr_54_7 hv, sr_54_8 hv, sr_54_9 hv, sr_54_12 hv, sr_54_13 hv, sr_54_14 hv, sr_54_22 hv, sr_54_25 hv, sr_54_26 hv, sr_54_27 hv, sr_54_34 hv, sr_54_35 hv, sr_54_36 hv, sr_54_37 hv, sr_54_38 hv, sr_54_40 hv, sr_54_43 hv, sr_54_44 hv, sr_54_45 hv, sr_54_46 hv, sr_54_47 hv, t_houses hv, hA, hn2, Nat.le_refl, sp1]
  | succ m ih =>
    intro h hh
    have z : ¬ hn A ≤ h := by omega
    rw [e_239_21]
    by_cases hb : S.testBit h = true
    · simp (disch := omega) only [e_239_23, e_239_24, e_239_27, e_239_30, e_239_32, e_239_34, e_239_37, e_239_40, e_239_41, e_239_42, e_239_44, e_239_47, e_239_48, e_239_49, e_239_50, e_239_51, e_239_52, e_239_53, e_239_56, n10, n01, Nat.lt_irrefl, Nat.not_lt_zero, ne_eq, Nat.add_zero, Nat.one_ne_zero, Nat.zero_ne_one, Nat.reduceEqDiff, bI_T, bI_F, bI_0, bI_1, bI_01, not_and_self, true_and, and_true, not_true_eq_false, not_false_eq_true, false_imp_iff, true_imp_iff, imp_self, gPv_n, gPv_i, gPv_r, gPv_0, Option.toList_some, Option.toList_none, List.singleton_append, List.cons_append, List.nil_append, List.length_nil, List.length_cons, Nat.zero_le, Nat.reduceAdd, Nat.reduceLeDiff, or_true, true_or, false_or, or_false, and_self, and_false, false_and, implies_true, Option.some.injEq, exists_eq_left', nL, nI_add, nI_mul, nI_clamp, nI_ltI, nI_leI, nI_eq, nI_pos, nI_pos', Nat.reduceAdd, Nat.reduceMul, Nat.reducePow, sk_54 hv, sr_54_2 hv, sr_54_3 hv, sr_54_4 hv, sr_54_5 hv, sr_54_7 hv, sr_54_8 hv, sr_54_9 hv, sr_54_12 hv, sr_54_13 hv, sr_54_14 hv, sr_54_22 hv, sr_54_25 hv, sr_54_26 hv, sr_54_27 hv, sr_54_34 hv, sr_54_35 hv, sr_54_36 hv, sr_54_37 hv, sr_54_38 hv, sr_54_40 hv, sr_54_43 hv, sr_54_44 hv, sr_54_45 hv, sr_54_46 hv, sr_54_47 hv, t_houses hv, hA, hn2, z, t_isIn, hb, hN h (by omega), nI_ad, nI_or]
      rw [← ih (h + 1) (by omega)]
      simp only [orU, hb, if_true, Nat.or_assoc]
    · have hb' : S.testBit h = false := by simpa using hb
      simp (disch := omega) only [e_239_23, e_239_24, e_239_27, e_239_30, e_239_32, e_239_34, e_239_37, e_239_40, e_239_41, e_239_42, e_239_44, e_239_47, e_239_48, e_239_49, e_239_50, e_239_51, e_239_52, e_239_53, e_239_56, n10, n01, Nat.lt_irrefl, Nat.not_lt_zero, ne_eq, Nat.add_zero, Nat.one_ne_zero, Nat.zero_ne_one, Nat.reduceEqDiff, bI_T, bI_F, bI_0, bI_1, bI_01, not_and_self, true_and, and_true, not_true_eq_false, not_false_eq_true, false_imp_iff, true_imp_iff, imp_self, gPv_n, gPv_i, gPv_r, gPv_0, Option.toList_some, Option.toList_none, List.singleton_append, List.cons_append, List.nil_append, List.length_nil, List.length_cons, Nat.zero_le, Nat.reduceAdd, Nat.reduceLeDiff, or_true, true_or, false_or, or_false, and_self, and_false, false_and, implies_true, Option.some.injEq, exists_eq_left', nL, nI_add, nI_mul, nI_clamp, nI_ltI, nI_leI, nI_eq, nI_pos, nI_pos', Nat.reduceAdd, Nat.reduceMul, Nat.reducePow, sk_54 hv, sr_54_2 hv, sr_54_3 hv, sr_54_4 hv, sr_54_5 hv, sr_54_7 hv, sr_54_8 hv, sr_54_9 hv, sr_54_12 hv, sr_54_13 hv, sr_54_14 hv, sr_54_22 hv, sr_54_25 hv, sr_54_26 hv, sr_54_27 hv, sr_54_34 hv, sr_54_35 hv, sr_54_36 hv, sr_54_37 hv, sr_54_38 hv, sr_54_40 hv, sr_54_43 hv, sr_54_44 hv, sr_54_45 hv, sr_54_46 hv, sr_54_47 hv, t_houses hv, hA, hn2, z, t_isIn, hb', Bool.false_eq_true]
      rw [← ih (h + 1) (by omega)]
      simp only [orU, hb', Bool.false_eq_true, if_false, Nat.or_zero]
theorem t_rc2 {wo S0 : Nat} (X : MX B σ A) (hN : NX B σ (hn A) E) (hE : ∀ h, E h < 4096) : ∀ k S was (x5 : Option Value), S < 4096 → was < 4096 → 4096 ≤ S + k → (was = S → sp1 (fun h => ad (E h) wo) (hn A) S = S) → (was ≠ S ∨ k ≠ 0) →
    (wp (d + 3) pr_239 Q 9 [some (.ref (B + 54)), some (.int (nI S0)), some (.int (nI wo)), some (.int (nI S)), some (.int (nI was)), x5] [] σ ↔ Q (some (.int (nI (mr (fun h => ad (E h) wo) (hn A) k S)))) σ) := by
  have hF : ∀ h, ad (E h) wo < 4096 := fun h => ad_lt (hE h)
  intro k
  induction k with
  | zero =>
    intro S was x5 hS hw h1
    exact absurd h1 (by omega)
  | succ k ih =>
    intro S was x5 hS hw h1 h2 h3
    by_cases e : was = S
    · have e2 := h2 e
      subst e
      simp (disch := omega) only [e_239_9, e_239_10, e_239_12, e_239_62, e_239_63, n10, n01, Nat.lt_irrefl, Nat.not_lt_zero, ne_eq, Nat.add_zero, Nat.one_ne_zero, Nat.zero_ne_one, Nat.reduceEqDiff, bI_T, bI_F, bI_0, bI_1, bI_01, not_and_self, true_and, and_true, not_true_eq_false, not_false_eq_true, false_imp_iff, true_imp_iff, imp_self, gPv_n, gPv_i, gPv_r, gPv_0, Option.toList_some, Option.toList_none, List.singleton_append, List.cons_append, List.nil_append, List.length_nil, List.length_cons, Nat.zero_le, Nat.reduceAdd, Nat.reduceLeDiff, or_true, true_or, false_or, or_false, and_self, and_false, false_and, implies_true, Option.some.injEq, exists_eq_left', nL, nI_add, nI_mul, nI_clamp, nI_ltI, nI_leI, nI_eq, nI_pos, nI_pos', Nat.reduceAdd, Nat.reduceMul, Nat.reducePow, mr, e2, if_true]
    · have e' : ¬ S = was := fun z => e z.symm
      rw [e_239_9]
      simp (disch := omega) only [e_239_10, e_239_12, e_239_15, e_239_16, e_239_18, e_239_19, n10, n01, Nat.lt_irrefl, Nat.not_lt_zero, ne_eq, Nat.add_zero, Nat.one_ne_zero, Nat.zero_ne_one, Nat.reduceEqDiff, bI_T, bI_F, bI_0, bI_1, bI_01, not_and_self, true_and, and_true, not_true_eq_false, not_false_eq_true, false_imp_iff, true_imp_iff, imp_self, gPv_n, gPv_i, gPv_r, gPv_0, Option.toList_some, Option.toList_none, List.singleton_append, List.cons_append, List.nil_append, List.length_nil, List.length_cons, Nat.zero_le, Nat.reduceAdd, Nat.reduceLeDiff, or_true, true_or, false_or, or_false, and_self, and_false, false_and, implies_true, Option.some.injEq, exists_eq_left', nL, nI_add, nI_mul, nI_clamp, nI_ltI, nI_leI, nI_eq, nI_pos, nI_pos', Nat.reduceAdd, Nat.reduceMul, Nat.reducePow, e']
      have r := t_rc1 (d := d) (Q := Q) (wo := wo) (S := S) (S0 := S0) X hN hE hS (hn A) 0 (by omega)
      simp only [orU, Nat.or_zero] at r
      rw [r]
      by_cases f : sp1 (fun h => ad (E h) wo) (hn A) S = S
      · rw [f]
        simp (disch := omega) only [e_239_9, e_239_10, e_239_12, e_239_62, e_239_63, n10, n01, Nat.lt_irrefl, Nat.not_lt_zero, ne_eq, Nat.add_zero, Nat.one_ne_zero, Nat.zero_ne_one, Nat.reduceEqDiff, bI_T, bI_F, bI_0, bI_1, bI_01, not_and_self, true_and, and_true, not_true_eq_false, not_false_eq_true, false_imp_iff, true_imp_iff, imp_self, gPv_n, gPv_i, gPv_r, gPv_0, Option.toList_some, Option.toList_none, List.singleton_append, List.cons_append, List.nil_append, List.length_nil, List.length_cons, Nat.zero_le, Nat.reduceAdd, Nat.reduceLeDiff, or_true, true_or, false_or, or_false, and_self, and_false, false_and, implies_true, Option.some.injEq, exists_eq_left', nL, nI_add, nI_mul, nI_clamp, nI_ltI, nI_leI, nI_eq, nI_pos, nI_pos', Nat.reduceAdd, Nat.reduceMul, Nat.reducePow, mr, f, if_true]
      · have hle := sp1_le (F := fun h => ad (E h) wo) (n := hn A) (S := S)
        rw [ih (sp1 (fun h => ad (E h) wo) (hn A) S) S _ (sp1_lt hF hS) hS (by omega) (fun z => absurd z.symm f) (Or.inl (fun z => f z.symm))]
        simp only [mr, f, if_false]
theorem t_reach {wo S : Nat} (X : MX B σ A) (hN : NX B σ (hn A) E) (hE : ∀ h, E h < 4096) (hS : S < 4096) : wc (d + 4) 239 [.ref (B + 54), .int (nI S), .int (nI wo)] σ Q ↔ Q (some (.int (nI (rc (fun h => ad (E h) wo) (hn A) (ad S wo))))) σ := by
  have hF : ∀ h, ad (E h) wo < 4096 := fun h => ad_lt (hE h)
  have h0 : (0 : Nat) = ad S wo → sp1 (fun h => ad (E h) wo) (hn A) (ad S wo) = ad S wo := by
    intro z
    rw [← z]
    refine Nat.eq_of_testBit_eq ?_
    intro j
    rw [Bool.eq_iff_iff, tb_sp1]
    simp
  simp (disch := omega) only [c_239, e_239_0, e_239_1, e_239_2, e_239_3, e_239_4, e_239_5, e_239_6, e_239_7, n10, n01, Nat.lt_irrefl, Nat.not_lt_zero, ne_eq, Nat.add_zero, Nat.one_ne_zero, Nat.zero_ne_one, Nat.reduceEqDiff, bI_T, bI_F, bI_0, bI_1, bI_01, not_and_self, true_and, and_true, not_true_eq_false, not_false_eq_true, false_imp_iff, true_imp_iff, imp_self, gPv_n, gPv_i, gPv_r, gPv_0, Option.toList_some, Option.toList_none, List.singleton_append, List.cons_append, List.nil_append, List.length_nil, List.length_cons, Nat.zero_le, Nat.reduceAdd, Nat.reduceLeDiff, or_true, true_or, false_or, or_false, and_self, and_false, false_and, implies_true, Option.some.injEq, exists_eq_left', nL, nI_ad]
  exact t_rc2 X hN hE 4096 (ad S wo) 0 _ (ad_lt hS) (by omega) (by omega) h0 (Or.inr (by omega))
theorem NX_0 {v : Nat} {τ : gS} (X : MX B σ A) (hq : QM B A v σ τ) : NX B τ (hn A) (opn A (A 249)) := by
  have X2 := QM_X X hq
  have hv := X2.1
  have h12 := hn_le X.2.2.1
  obtain ⟨_, _, ⟨q30, q32⟩, _, _, q66, _⟩ := hq
  intro h hh d Q
  have e := q66 h hh
  have z : h < 12 := by omega
  simp (disch := omega) only [c_237, e_237_0, e_237_1, e_237_4, e_237_5, e_237_6, e_237_7, e_237_8, e_237_11, e_237_12, e_237_49, e_237_50, e_237_53, e_237_54, e_237_91, e_237_92, n10, n01, Nat.lt_irrefl, Nat.not_lt_zero, ne_eq, Nat.add_zero, Nat.one_ne_zero, Nat.zero_ne_one, Nat.reduceEqDiff, bI_T, bI_F, bI_0, bI_1, bI_01, not_and_self, true_and, and_true, not_true_eq_false, not_false_eq_true, false_imp_iff, true_imp_iff, imp_self, gPv_n, gPv_i, gPv_r, gPv_0, Option.toList_some, Option.toList_none, List.singleton_append, List.cons_append, List.nil_append, List.length_nil, List.length_cons, Nat.zero_le, Nat.reduceAdd, Nat.reduceLeDiff, or_true, true_or, false_or, or_false, and_self, and_false, false_and, implies_true, Option.some.injEq, exists_eq_left', nL, nI_add, nI_mul, nI_clamp, nI_ltI, nI_leI, nI_eq, nI_pos, nI_pos', Nat.reduceAdd, Nat.reduceMul, Nat.reducePow, sk_54 hv, sr_54_2 hv, sr_54_3 hv, sr_54_4 hv, sr_54_5 hv, sr_54_7 hv, sr_54_8 hv, sr_54_9 hv, sr_54_12 hv, sr_54_13 hv, sr_54_14 hv, sr_54_22 hv, sr_54_25 hv, sr_54_26 hv, sr_54_27 hv, sr_54_34 hv, sr_54_35 hv, sr_54_36 hv, sr_54_37 hv, sr_54_38 hv, sr_54_40 hv, sr_54_43 hv, sr_54_44 hv, sr_54_45 hv, sr_54_46 hv, sr_54_47 hv, sk_66 hv, sn_66 hv, e, z, q30, q32]
theorem opn_lt {dy : Int32} {h : Nat} (wh : Wh A) : opn A dy h < 4096 := mk_lt12 (hn_le wh)
theorem t_come {f t wo : Nat} (X : MX B σ A) (hN : NX B σ (hn A) E) (hE : ∀ h, E h < 4096) (hf : f < 12) (ht : t < 12) : wc (d + 5) 240 [.ref (B + 54), .int (nI f), .int (nI t), .int (nI wo)] σ Q ↔ Q (some (.int (bI ((St A f && (rc (fun h => ad (E h) wo) (hn A) (ad (2 ^ f) wo)).testBit t) = true)))) σ := by
  obtain ⟨hv, hA, wh, wd, wl⟩ := id X
  have h2 : 2 ^ f < 4096 := Nat.pow_lt_pow_right (by decide) hf
  have hr : rc (fun h => ad (E h) wo) (hn A) (ad (2 ^ f) wo) < 4096 := rc_lt (fun h => ad_lt (hE h)) (ad_lt h2)
  cases hs : St A f
  · simp (disch := omega) only [c_240, e_240_0, e_240_1, e_240_2, e_240_5, e_240_8, e_240_9, e_240_10, e_240_11, e_240_12, e_240_13, e_240_16, e_240_17, e_240_20, e_240_23, e_240_24, e_240_27, e_240_28, n10, n01, Nat.lt_irrefl, Nat.not_lt_zero, ne_eq, Nat.add_zero, Nat.one_ne_zero, Nat.zero_ne_one, Nat.reduceEqDiff, bI_T, bI_F, bI_0, bI_1, bI_01, not_and_self, true_and, and_true, not_true_eq_false, not_false_eq_true, false_imp_iff, true_imp_iff, imp_self, gPv_n, gPv_i, gPv_r, gPv_0, Option.toList_some, Option.toList_none, List.singleton_append, List.cons_append, List.nil_append, List.length_nil, List.length_cons, Nat.zero_le, Nat.reduceAdd, Nat.reduceLeDiff, or_true, true_or, false_or, or_false, and_self, and_false, false_and, implies_true, Option.some.injEq, exists_eq_left', nL, nI_add, nI_mul, nI_clamp, nI_ltI, nI_leI, nI_eq, nI_pos, nI_pos', Nat.reduceAdd, Nat.reduceMul, Nat.reducePow, sk_54 hv, sr_54_2 hv, sr_54_3 hv, sr_54_4 hv, sr_54_5 hv, sr_54_7 hv, sr_54_8 hv, sr_54_9 hv, sr_54_12 hv, sr_54_13 hv, sr_54_14 hv, sr_54_22 hv, sr_54_25 hv, sr_54_26 hv, sr_54_27 hv, sr_54_34 hv, sr_54_35 hv, sr_54_36 hv, sr_54_37 hv, sr_54_38 hv, sr_54_40 hv, sr_54_43 hv, sr_54_44 hv, sr_54_45 hv, sr_54_46 hv, sr_54_47 hv, t_stands hv, hA, hs, Bool.false_eq_true, Bool.false_and]
  · cases hb : (rc (fun h => ad (E h) wo) (hn A) (ad (2 ^ f) wo)).testBit t
    · simp (disch := omega) only [c_240, e_240_0, e_240_1, e_240_2, e_240_5, e_240_8, e_240_9, e_240_10, e_240_11, e_240_12, e_240_13, e_240_16, e_240_17, e_240_20, e_240_23, e_240_24, e_240_27, e_240_28, n10, n01, Nat.lt_irrefl, Nat.not_lt_zero, ne_eq, Nat.add_zero, Nat.one_ne_zero, Nat.zero_ne_one, Nat.reduceEqDiff, bI_T, bI_F, bI_0, bI_1, bI_01, not_and_self, true_and, and_true, not_true_eq_false, not_false_eq_true, false_imp_iff, true_imp_iff, imp_self, gPv_n, gPv_i, gPv_r, gPv_0, Option.toList_some, Option.toList_none, List.singleton_append, List.cons_append, List.nil_append, List.length_nil, List.length_cons, Nat.zero_le, Nat.reduceAdd, Nat.reduceLeDiff, or_true, true_or, false_or, or_false, and_self, and_false, false_and, implies_true, Option.some.injEq, exists_eq_left', nL, nI_add, nI_mul, nI_clamp, nI_ltI, nI_leI, nI_eq, nI_pos, nI_pos', Nat.reduceAdd, Nat.reduceMul, Nat.reducePow, sk_54 hv, sr_54_2 hv, sr_54_3 hv, sr_54_4 hv, sr_54_5 hv, sr_54_7 hv, sr_54_8 hv, sr_54_9 hv, sr_54_12 hv, sr_54_13 hv, sr_54_14 hv, sr_54_22 hv, sr_54_25 hv, sr_54_26 hv, sr_54_27 hv, sr_54_34 hv, sr_54_35 hv, sr_54_36 hv, sr_54_37 hv, sr_54_38 hv, sr_54_40 hv, sr_54_43 hv, sr_54_44 hv, sr_54_45 hv, sr_54_46 hv, sr_54_47 hv, t_stands hv, hA, hs, nI_shl, Nat.one_mul, t_reach X hN hE h2, t_isIn, hb, Bool.false_eq_true, Bool.true_and]
    · simp (disch := omega) only [c_240, e_240_0, e_240_1, e_240_2, e_240_5, e_240_8, e_240_9, e_240_10, e_240_11, e_240_12, e_240_13, e_240_16, e_240_17, e_240_20, e_240_23, e_240_24, e_240_27, e_240_28, n10, n01, Nat.lt_irrefl, Nat.not_lt_zero, ne_eq, Nat.add_zero, Nat.one_ne_zero, Nat.zero_ne_one, Nat.reduceEqDiff, bI_T, bI_F, bI_0, bI_1, bI_01, not_and_self, true_and, and_true, not_true_eq_false, not_false_eq_true, false_imp_iff, true_imp_iff, imp_self, gPv_n, gPv_i, gPv_r, gPv_0, Option.toList_some, Option.toList_none, List.singleton_append, List.cons_append, List.nil_append, List.length_nil, List.length_cons, Nat.zero_le, Nat.reduceAdd, Nat.reduceLeDiff, or_true, true_or, false_or, or_false, and_self, and_false, false_and, implies_true, Option.some.injEq, exists_eq_left', nL, nI_add, nI_mul, nI_clamp, nI_ltI, nI_leI, nI_eq, nI_pos, nI_pos', Nat.reduceAdd, Nat.reduceMul, Nat.reducePow, sk_54 hv, sr_54_2 hv, sr_54_3 hv, sr_54_4 hv, sr_54_5 hv, sr_54_7 hv, sr_54_8 hv, sr_54_9 hv, sr_54_12 hv, sr_54_13 hv, sr_54_14 hv, sr_54_22 hv, sr_54_25 hv, sr_54_26 hv, sr_54_27 hv, sr_54_34 hv, sr_54_35 hv, sr_54_36 hv, sr_54_37 hv, sr_54_38 hv, sr_54_40 hv, sr_54_43 hv, sr_54_44 hv, sr_54_45 hv, sr_54_46 hv, sr_54_47 hv, t_stands hv, hA, hs, nI_shl, Nat.one_mul, t_reach X hN hE h2, t_isIn, hb, Bool.true_and]
end
/-- class and model mean the same -/
theorem rc_cm {A : Nat → Int32} {E : Nat → Nat} {f wo : Nat} (wh : Wh A) (hE : ∀ h, E h < 4096) (h0 : ∀ h, hn A ≤ h → E h = 0) (hs : ∀ h j, (E h).testBit j = true → (mkN (St A) (hn A)).testBit j = true) (hf : f < hn A) (hst : St A f = true) : rc (fun h => E h &&& ad (mkN (St A) (hn A)) wo) 12 (2 ^ f &&& ad (mkN (St A) (hn A)) wo) = rc (fun h => ad (E h) wo) (hn A) (ad (2 ^ f) wo) := by
  have h12 := hn_le wh
  have h2 : 2 ^ f < 2 ^ 12 := Nat.pow_lt_pow_right (by decide) (by omega)
  have e1 : ∀ h, E h &&& ad (mkN (St A) (hn A)) wo = ad (E h) wo := by
    intro h
    refine Nat.eq_of_testBit_eq ?_
    intro j
    rw [Nat.testBit_and, tb_ad, tb_ad]
    cases hj : (E h).testBit j
    · rfl
    · rw [hs h j hj]; rfl
  have e2 : 2 ^ f &&& ad (mkN (St A) (hn A)) wo = ad (2 ^ f) wo := by
    refine Nat.eq_of_testBit_eq ?_
    intro j
    rw [Nat.testBit_and, tb_ad, tb_ad, Nat.testBit_two_pow]
    by_cases hj : f = j
    · subst hj
      rw [tb_mk, hst]
      simp [hf]
    · simp [hj]
  rw [e2]
  have e3 : (fun h => E h &&& ad (mkN (St A) (hn A)) wo) = fun h => ad (E h) wo := funext e1
  rw [e3]
  refine rc_c (fun h => ad_lt (hE h)) (fun h => ad_lt (hE h)) (ad_lt h2) h12 (fun _ _ => rfl) ?_
  intro h h1 _
  rw [h0 h h1]
  refine Nat.eq_of_testBit_eq ?_
  intro j
  rw [tb_ad]
  simp
theorem opn_0 {A : Nat → Int32} {dy : Int32} {h : Nat} (hh : hn A ≤ h) : opn A dy h = 0 := mk_0 (fun j _ => by
  have : ¬ h < hn A := by omega
  simp [opB, this])
theorem opn_s {A : Nat → Int32} {dy : Int32} {h j : Nat} (hj : (opn A dy h).testBit j = true) : (mkN (St A) (hn A)).testBit j = true := by
  rw [opn, tb_mk] at hj
  rw [tb_mk]
  simp only [opB, Bool.and_eq_true] at hj ⊢
  exact ⟨hj.1, hj.2.1.1.2.2⟩
