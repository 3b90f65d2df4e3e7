/-! is all as it is wished? -/
/-- the first n pairs at o are as v says -/
def wsL (A : Nat → Int32) (E : Nat → Nat) (o : Nat) (v : Bool) : Nat → Bool
  | 0 => true
  | n + 1 => wsL A E o v n && (cmB A E (an A (o + 2 * n)) (an A (o + 1 + 2 * n)) 0 == v)
def wsB (A : Nat → Int32) (E : Nat → Nat) : Bool := wsL A E 216 true (an A 251) && wsL A E 224 false (an A 252)
theorem wsL_f {A : Nat → Int32} {E : Nat → Nat} {o : Nat} {v : Bool} {n m : Nat} (h : wsL A E o v n = false) : wsL A E o v (n + m) = false := by
  induction m with
  | zero => exact h
  | succ m ih =>
    rw [← Nat.add_assoc, wsL, ih, Bool.false_and]
theorem pr_n {A : Nat → Int32} (wp' : Wp A) : (an A 251 ≤ 4 ∧ A 251 = nI (an A 251) ∧ ∀ k, k < an A 251 → an A (216 + 2 * k) < hn A ∧ A (216 + 2 * k) = nI (an A (216 + 2 * k)) ∧ an A (217 + 2 * k) < hn A ∧ A (217 + 2 * k) = nI (an A (217 + 2 * k))) ∧ (an A 252 ≤ 4 ∧ A 252 = nI (an A 252) ∧ ∀ k, k < an A 252 → an A (224 + 2 * k) < hn A ∧ A (224 + 2 * k) = nI (an A (224 + 2 * k)) ∧ an A (225 + 2 * k) < hn A ∧ A (225 + 2 * k) = nI (an A (225 + 2 * k))) := by
  have hl : hn A < 2147483648 := by
    simp only [hn, an]
    have := (A 250).toNatClampNeg_lt
    omega
  obtain ⟨w1, w2, w3, w4, w5, w6⟩ := wp'
  obtain ⟨l1, l2⟩ := an_le w1 (by omega)
  obtain ⟨m1, m2⟩ := an_le w2 (by omega)
  have one : ∀ i, (∃ f : Nat, A i = nI f ∧ f < hn A) → an A i < hn A ∧ A i = nI (an A i) := by
    rintro i ⟨f, e, hf⟩
    rw [an_v e (by omega)]
    exact ⟨hf, e⟩
  refine ⟨⟨l1, l2, fun k hk => ?_⟩, m1, m2, fun k hk => ?_⟩
  · obtain ⟨f, t, e1, e2, g1, g2⟩ := w4 k hk
    exact ⟨(one _ ⟨f, e1, g1⟩).1, (one _ ⟨f, e1, g1⟩).2, (one _ ⟨t, e2, g2⟩).1, (one _ ⟨t, e2, g2⟩).2⟩
  · obtain ⟨f, t, e1, e2, g1, g2⟩ := w5 k hk
    exact ⟨(one _ ⟨f, e1, g1⟩).1, (one _ ⟨f, e1, g1⟩).2, (one _ ⟨t, e2, g2⟩).1, (one _ ⟨t, e2, g2⟩).2⟩
section
variable {B : Nat} {own : Nat → Nat} {σ : gS} {A : Nat → Int32} {d v : Nat} {Q : Option Value → gS → Prop} {E : Nat → Nat}
theorem s_alL {q o n : Nat} {vv : Bool} (hc : Ctx B own σ A) (hE : EdG A E) (hR : ∀ j, j < 12 → gI σ (B + 38) j = nI (E j)) (kq : gK σ q = 6) (r0 : gR σ q 0 = some (q + 1)) (r1 : gR σ q 1 = some (q + 2)) (k1 : gK σ (q + 1) = 21) (k2 : gK σ (q + 2) = 21) (n1 : gN σ (q + 1) = 4) (n2 : gN σ (q + 2) = 4) (hn4 : n ≤ 4) (hq : gI σ q 2 = nI n) (hp : ∀ k, k < n → an A (o + 2 * k) < hn A ∧ gI σ (q + 1) k = nI (an A (o + 2 * k)) ∧ an A (o + 1 + 2 * k) < hn A ∧ gI σ (q + 2) k = nI (an A (o + 1 + 2 * k))) : ∀ m i (x4 : Option Value), i + m = n → wsL A E o vv i = true → (wp (d + 3) pr_19 Q 2 [some (.ref (B + 37)), some (.ref q), some (.int (bI (vv = true))), some (.int (nI i)), x4] [] σ ↔ Q (some (.int (bI (wsL A E o vv n = true)))) σ) := by
  have hv := hc.1
  have w1 : Wh A := hc.2.1.1.1
  have h12 := hn_le w1
  have s6 : gI σ (B + 1) 6 = nI (mkN (St A) (hn A)) := hc.2.1.2.1.1.2.1
  have m0 : mkN (St A) (hn A) < 4096 := mk_lt12 h12
  intro m
  induction m with
  | zero =>
    intro i x4 hi hw
    have e : i = n := by omega
    subst e
    rw [hw]
    simp (disch := omega) only [e_19_2, e_19_3, e_19_3n, e_19_4, e_19_7, e_19_60, e_19_61, n10, n01, Nat.lt_irrefl, Nat.not_lt_zero, ne_eq, Nat.add_zero, Nat.one_ne_zero, Nat.zero_ne_one, Nat.reduceEqDiff, bI_T, bI_F, bI_0, bI_1, bI_01, not_and_self, true_and, and_true, not_true_eq_false, not_false_eq_true, false_imp_iff, true_imp_iff, imp_self, gPv_n, gPv_i, gPv_r, gPv_0, Option.toList_some, Option.toList_none, List.singleton_append, List.cons_append, List.nil_append, List.length_nil, List.length_cons, Nat.zero_le, Nat.reduceAdd, Nat.reduceLeDiff, or_true, true_or, false_or, or_false, and_self, and_false, false_and, implies_true, Option.some.injEq, exists_eq_left', nL, nI_add, nI_mul, nI_clamp, nI_ltI, nI_leI, nI_eq, nI_pos, nI_pos', Nat.reduceAdd, Nat.reduceMul, Nat.reducePow, hq, kq, Nat.le_refl]
  | succ m ih =>
    intro i x4 hi hw
    have z : ¬ n ≤ i := by omega
    have z4 : ¬ 4 ≤ i := by omega
    have y4 : i < 4 := by omega
    obtain ⟨p1, p2, p3, p4⟩ := hp i (by omega)
    have e := cm_rc (t := an A (o + 1 + 2 * i)) (wo := 0) w1 hE p1
    rw [ad_z] at e
    have hrl : rc (fun h => E h &&& mkN (St A) (hn A)) 12 (2 ^ an A (o + 2 * i) &&& mkN (St A) (hn A)) < 4096 := rc_lt (fun h => Nat.and_lt_two_pow (n := 12) _ m0) (Nat.and_lt_two_pow (n := 12) _ m0)
    rw [e_19_2]
    cases c : (cmB A E (an A (o + 2 * i)) (an A (o + 1 + 2 * i)) 0 == vv)
    · have w2 : wsL A E o vv (i + 1) = false := by rw [wsL, c, Bool.and_false]
      have w3 : wsL A E o vv n = false := by
        have := wsL_f (m := m) w2
        rw [show i + 1 + m = n from by omega] at this
        exact this
      rw [w3]
      cases c1 : cmB A E (an A (o + 2 * i)) (an A (o + 1 + 2 * i)) 0
      · cases vv
        · rw [c1] at c
          exact absurd c (by decide)
        · rw [c1] at e
          simp (disch := omega) only [e_19_3, e_19_3n, e_19_4, e_19_7, e_19_10, e_19_11, e_19_12, e_19_15, e_19_16, e_19_19, e_19_19n, e_19_20, e_19_23, e_19_24, e_19_25, e_19_26, e_19_29, e_19_32, e_19_35, e_19_37, e_19_39, e_19_39n, e_19_40, e_19_43, e_19_44, e_19_45, e_19_48, e_19_49, e_19_52, e_19_53, n10, n01, Nat.lt_irrefl, Nat.not_lt_zero, ne_eq, Nat.add_zero, Nat.one_ne_zero, Nat.zero_ne_one, Nat.reduceEqDiff, bI_T, bI_F, bI_0, bI_1, bI_01, not_and_self, true_and, and_true, not_true_eq_false, not_false_eq_true, false_imp_iff, true_imp_iff, imp_self, gPv_n, gPv_i, gPv_r, gPv_0, Option.toList_some, Option.toList_none, List.singleton_append, List.cons_append, List.nil_append, List.length_nil, List.length_cons, Nat.zero_le, Nat.reduceAdd, Nat.reduceLeDiff, or_true, true_or, false_or, or_false, and_self, and_false, false_and, implies_true, Option.some.injEq, exists_eq_left', nL, nI_add, nI_mul, nI_clamp, nI_ltI, nI_leI, nI_eq, nI_pos, nI_pos', Nat.reduceAdd, Nat.reduceMul, Nat.reducePow, sk_1 hv, sr_1_0 hv, sr_1_1 hv, sr_1_2 hv, sr_1_3 hv, sr_1_4 hv, sr_1_7 hv, sr_1_9 hv, sr_1_14 hv, sr_1_15 hv, sr_1_16 hv, sk_37 hv, sr_37_0 hv, sr_37_1 hv, sr_37_2 hv, sr_37_3 hv, sr_37_5 hv, sk_38 hv, sn_38 hv, hq, kq, r0, r1, k1, k2, n1, n2, z, z4, y4, p2, p4, s6, s_reach (sk_38 hv) (sn_38 hv) hR hE.1 m0 (show an A (o + 2 * i) < 12 by omega), s_bitOf, nI_bit, e, Bool.false_eq_true]
      · cases vv
        · rw [c1] at e
          simp (disch := omega) only [e_19_3, e_19_3n, e_19_4, e_19_7, e_19_10, e_19_11, e_19_12, e_19_15, e_19_16, e_19_19, e_19_19n, e_19_20, e_19_23, e_19_24, e_19_25, e_19_26, e_19_29, e_19_32, e_19_35, e_19_37, e_19_39, e_19_39n, e_19_40, e_19_43, e_19_44, e_19_45, e_19_48, e_19_49, e_19_52, e_19_53, n10, n01, Nat.lt_irrefl, Nat.not_lt_zero, ne_eq, Nat.add_zero, Nat.one_ne_zero, Nat.zero_ne_one, Nat.reduceEqDiff, bI_T, bI_F, bI_0, bI_1, bI_01, not_and_self, true_and, and_true, not_true_eq_false, not_false_eq_true, false_imp_iff, true_imp_iff, imp_self, gPv_n, gPv_i, gPv_r, gPv_0, Option.toList_some, Option.toList_none, List.singleton_append, List.cons_append, List.nil_append, List.length_nil, List.length_cons, Nat.zero_le, Nat.reduceAdd, Nat.reduceLeDiff, or_true, true_or, false_or, or_false, and_self, and_false, false_and, implies_true, Option.some.injEq, exists_eq_left', nL, nI_add, nI_mul, nI_clamp, nI_ltI, nI_leI, nI_eq, nI_pos, nI_pos', Nat.reduceAdd, Nat.reduceMul, Nat.reducePow, sk_1 hv, sr_1_0 hv, sr_1_1 hv, sr_1_2 hv, sr_1_3 hv, sr_1_4 hv, sr_1_7 hv, sr_1_9 hv, sr_1_14 hv, sr_1_15 hv, sr_1_16 hv, sk_37 hv, sr_37_0 hv, sr_37_1 hv, sr_37_2 hv, sr_37_3 hv, sr_37_5 hv, sk_38 hv, sn_38 hv, hq, kq, r0, r1, k1, k2, n1, n2, z, z4, y4, p2, p4, s6, s_reach (sk_38 hv) (sn_38 hv) hR hE.1 m0 (show an A (o + 2 * i) < 12 by omega), s_bitOf, nI_bit, e, Bool.false_eq_true]
        · rw [c1] at c
          exact absurd c (by decide)
    · have w2 : wsL A E o vv (i + 1) = true := by rw [wsL, c, hw, Bool.and_true]
      rw [← ih (i + 1) (some (.int (nI (rc (fun h => E h &&& mkN (St A) (hn A)) 12 (2 ^ an A (o + 2 * i) &&& mkN (St A) (hn A)))))) (by omega) w2]
      have c1 := eq_of_beq c
      rw [c1] at e
      cases vv
      · simp (disch := omega) only [e_19_3, e_19_3n, e_19_4, e_19_7, e_19_10, e_19_11, e_19_12, e_19_15, e_19_16, e_19_19, e_19_19n, e_19_20, e_19_23, e_19_24, e_19_25, e_19_26, e_19_29, e_19_32, e_19_35, e_19_37, e_19_39, e_19_39n, e_19_40, e_19_43, e_19_44, e_19_45, e_19_48, e_19_49, e_19_52, e_19_53, e_19_54, e_19_57, n10, n01, Nat.lt_irrefl, Nat.not_lt_zero, ne_eq, Nat.add_zero, Nat.one_ne_zero, Nat.zero_ne_one, Nat.reduceEqDiff, bI_T, bI_F, bI_0, bI_1, bI_01, not_and_self, true_and, and_true, not_true_eq_false, not_false_eq_true, false_imp_iff, true_imp_iff, imp_self, gPv_n, gPv_i, gPv_r, gPv_0, Option.toList_some, Option.toList_none, List.singleton_append, List.cons_append, List.nil_append, List.length_nil, List.length_cons, Nat.zero_le, Nat.reduceAdd, Nat.reduceLeDiff, or_true, true_or, false_or, or_false, and_self, and_false, false_and, implies_true, Option.some.injEq, exists_eq_left', nL, nI_add, nI_mul, nI_clamp, nI_ltI, nI_leI, nI_eq, nI_pos, nI_pos', Nat.reduceAdd, Nat.reduceMul, Nat.reducePow, sk_1 hv, sr_1_0 hv, sr_1_1 hv, sr_1_2 hv, sr_1_3 hv, sr_1_4 hv, sr_1_7 hv, sr_1_9 hv, sr_1_14 hv, sr_1_15 hv, sr_1_16 hv, sk_37 hv, sr_37_0 hv, sr_37_1 hv, sr_37_2 hv, sr_37_3 hv, sr_37_5 hv, sk_38 hv, sn_38 hv, hq, kq, r0, r1, k1, k2, n1, n2, z, z4, y4, p2, p4, s6, s_reach (sk_38 hv) (sn_38 hv) hR hE.1 m0 (show an A (o + 2 * i) < 12 by omega), s_bitOf, nI_bit, e, Bool.false_eq_true]
      · simp (disch := omega) only [e_19_3, e_19_3n, e_19_4, e_19_7, e_19_10, e_19_11, e_19_12, e_19_15, e_19_16, e_19_19, e_19_19n, e_19_20, e_19_23, e_19_24, e_19_25, e_19_26, e_19_29, e_19_32, e_19_35, e_19_37, e_19_39, e_19_39n, e_19_40, e_19_43, e_19_44, e_19_45, e_19_48, e_19_49, e_19_52, e_19_53, e_19_54, e_19_57, n10, n01, Nat.lt_irrefl, Nat.not_lt_zero, ne_eq, Nat.add_zero, Nat.one_ne_zero, Nat.zero_ne_one, Nat.reduceEqDiff, bI_T, bI_F, bI_0, bI_1, bI_01, not_and_self, true_and, and_true, not_true_eq_false, not_false_eq_true, false_imp_iff, true_imp_iff, imp_self, gPv_n, gPv_i, gPv_r, gPv_0, Option.toList_some, Option.toList_none, List.singleton_append, List.cons_append, List.nil_append, List.length_nil, List.length_cons, Nat.zero_le, Nat.reduceAdd, Nat.reduceLeDiff, or_true, true_or, false_or, or_false, and_self, and_false, false_and, implies_true, Option.some.injEq, exists_eq_left', nL, nI_add, nI_mul, nI_clamp, nI_ltI, nI_leI, nI_eq, nI_pos, nI_pos', Nat.reduceAdd, Nat.reduceMul, Nat.reducePow, sk_1 hv, sr_1_0 hv, sr_1_1 hv, sr_1_2 hv, sr_1_3 hv, sr_1_4 hv, sr_1_7 hv, sr_1_9 hv, sr_1_14 hv, sr_1_15 hv, sr_1_16 hv, sk_37 hv, sr_37_0 hv, sr_37_1 hv, sr_37_2 hv, sr_37_3 hv, sr_37_5 hv, sk_38 hv, sn_38 hv, hq, kq, r0, r1, k1, k2, n1, n2, z, z4, y4, p2, p4, s6, s_reach (sk_38 hv) (sn_38 hv) hR hE.1 m0 (show an A (o + 2 * i) < 12 by omega), s_bitOf, nI_bit, e]
theorem s_allMeet (hc : Ctx B own σ A) (hE : EdG A E) (hR : ∀ j, j < 12 → gI σ (B + 38) j = nI (E j)) : wc (d + 5) 18 [.ref (B + 37)] σ Q ↔ Q (some (.int (bI (wsB A E = true)))) σ := by
  have hv := hc.1
  obtain ⟨⟨w1, w2, w3, w4, w5⟩, ⟨t1, t2, t3, ⟨⟨t4, t4'⟩, ⟨t6, t6'⟩, _⟩, t5⟩, lw⟩ := hc.2.1
  obtain ⟨⟨a1, a2, a3⟩, b1, b2, b3⟩ := pr_n w4
  have t4 : gI σ (B + 9) 2 = nI (an A 251) := t4.trans a2
  have t6 : gI σ (B + 12) 2 = nI (an A 252) := t6.trans b2
  have p1 : ∀ k, k < an A 251 → an A (216 + 2 * k) < hn A ∧ gI σ (B + 9 + 1) k = nI (an A (216 + 2 * k)) ∧ an A (216 + 1 + 2 * k) < hn A ∧ gI σ (B + 9 + 2) k = nI (an A (216 + 1 + 2 * k)) := fun k hk => by
    obtain ⟨x1, x2, x3, x4⟩ := a3 k hk
    obtain ⟨y1, y2⟩ := t4' k hk
    exact ⟨x1, y1.trans x2, x3, y2.trans x4⟩
  have p2 : ∀ k, k < an A 252 → an A (224 + 2 * k) < hn A ∧ gI σ (B + 12 + 1) k = nI (an A (224 + 2 * k)) ∧ an A (224 + 1 + 2 * k) < hn A ∧ gI σ (B + 12 + 2) k = nI (an A (224 + 1 + 2 * k)) := fun k hk => by
    obtain ⟨x1, x2, x3, x4⟩ := b3 k hk
    obtain ⟨y1, y2⟩ := t6' k hk
    exact ⟨x1, y1.trans x2, x3, y2.trans x4⟩
  have g1 : ∀ Q : Option Value → gS → Prop, wc (d + 4) 19 [.ref (B + 37), .ref (B + 9), .int (nI 1)] σ Q ↔ Q (some (.int (bI (wsL A E 216 true (an A 251) = true)))) σ := fun Q => by
    rw [← s_alL (d := d) (Q := Q) (o := 216) (vv := true) hc hE hR (sk_9 hv) (sr_9_0 hv) (sr_9_1 hv) (sk_10 hv) (sk_11 hv) (sn_10 hv) (sn_11 hv) a1 t4 p1 (an A 251) 0 none (by omega) rfl]
    simp (disch := omega) only [c_19, e_19_0, e_19_1, n10, n01, Nat.lt_irrefl, Nat.not_lt_zero, ne_eq, Nat.add_zero, Nat.one_ne_zero, Nat.zero_ne_one, Nat.reduceEqDiff, bI_T, bI_F, bI_0, bI_1, bI_01, not_and_self, true_and, and_true, not_true_eq_false, not_false_eq_true, false_imp_iff, true_imp_iff, imp_self, gPv_n, gPv_i, gPv_r, gPv_0, Option.toList_some, Option.toList_none, List.singleton_append, List.cons_append, List.nil_append, List.length_nil, List.length_cons, Nat.zero_le, Nat.reduceAdd, Nat.reduceLeDiff, or_true, true_or, false_or, or_false, and_self, and_false, false_and, implies_true, Option.some.injEq, exists_eq_left', nL, bI_T]
  have g2 : ∀ Q : Option Value → gS → Prop, wc (d + 4) 19 [.ref (B + 37), .ref (B + 12), .int (nI 0)] σ Q ↔ Q (some (.int (bI (wsL A E 224 false (an A 252) = true)))) σ := fun Q => by
    rw [← s_alL (d := d) (Q := Q) (o := 224) (vv := false) hc hE hR (sk_12 hv) (sr_12_0 hv) (sr_12_1 hv) (sk_13 hv) (sk_14 hv) (sn_13 hv) (sn_14 hv) b1 t6 p2 (an A 252) 0 none (by omega) rfl]
    simp (disch := omega) only [c_19, e_19_0, e_19_1, n10, n01, Nat.lt_irrefl, Nat.not_lt_zero, ne_eq, Nat.add_zero, Nat.one_ne_zero, Nat.zero_ne_one, Nat.reduceEqDiff, bI_T, bI_F, bI_0, bI_1, bI_01, not_and_self, true_and, and_true, not_true_eq_false, not_false_eq_true, false_imp_iff, true_imp_iff, imp_self, gPv_n, gPv_i, gPv_r, gPv_0, Option.toList_some, Option.toList_none, List.singleton_append, List.cons_append, List.nil_append, List.length_nil, List.length_cons, Nat.zero_le, Nat.reduceAdd, Nat.reduceLeDiff, or_true, true_or, false_or, or_false, and_self, and_false, false_and, implies_true, Option.some.injEq, exists_eq_left', nL, Bool.false_eq_true, bI_F]
  cases x1 : wsL A E 216 true (an A 251)
  · have : wsB A E = false := by rw [wsB, x1, Bool.false_and]
    rw [this]
    simp (disch := omega) only [c_18, e_18_0, e_18_1, e_18_2, e_18_5, e_18_8, e_18_9, e_18_12, e_18_15, e_18_16, e_18_17, e_18_20, e_18_23, e_18_24, e_18_27, e_18_30, e_18_31, e_18_34, e_18_35, n10, n01, Nat.lt_irrefl, Nat.not_lt_zero, ne_eq, Nat.add_zero, Nat.one_ne_zero, Nat.zero_ne_one, Nat.reduceEqDiff, bI_T, bI_F, bI_0, bI_1, bI_01, not_and_self, true_and, and_true, not_true_eq_false, not_false_eq_true, false_imp_iff, true_imp_iff, imp_self, gPv_n, gPv_i, gPv_r, gPv_0, Option.toList_some, Option.toList_none, List.singleton_append, List.cons_append, List.nil_append, List.length_nil, List.length_cons, Nat.zero_le, Nat.reduceAdd, Nat.reduceLeDiff, or_true, true_or, false_or, or_false, and_self, and_false, false_and, implies_true, Option.some.injEq, exists_eq_left', nL, nI_eq, sk_1 hv, sr_1_0 hv, sr_1_1 hv, sr_1_2 hv, sr_1_3 hv, sr_1_4 hv, sr_1_7 hv, sr_1_9 hv, sr_1_14 hv, sr_1_15 hv, sr_1_16 hv, sk_9 hv, sr_9_0 hv, sr_9_1 hv, sk_12 hv, sr_12_0 hv, sr_12_1 hv, sk_37 hv, sr_37_0 hv, sr_37_1 hv, sr_37_2 hv, sr_37_3 hv, sr_37_5 hv, g1, x1, Bool.false_eq_true]
  · cases x2 : wsL A E 224 false (an A 252)
    · have : wsB A E = false := by rw [wsB, x2, Bool.and_false]
      rw [this]
      simp (disch := omega) only [c_18, e_18_0, e_18_1, e_18_2, e_18_5, e_18_8, e_18_9, e_18_12, e_18_15, e_18_16, e_18_17, e_18_20, e_18_23, e_18_24, e_18_27, e_18_30, e_18_31, e_18_34, e_18_35, n10, n01, Nat.lt_irrefl, Nat.not_lt_zero, ne_eq, Nat.add_zero, Nat.one_ne_zero, Nat.zero_ne_one, Nat.reduceEqDiff, bI_T, bI_F, bI_0, bI_1, bI_01, not_and_self, true_and, and_true, not_true_eq_false, not_false_eq_true, false_imp_iff, true_imp_iff, imp_self, gPv_n, gPv_i, gPv_r, gPv_0, Option.toList_some, Option.toList_none, List.singleton_append, List.cons_append, List.nil_append, List.length_nil, List.length_cons, Nat.zero_le, Nat.reduceAdd, Nat.reduceLeDiff, or_true, true_or, false_or, or_false, and_self, and_false, false_and, implies_true, Option.some.injEq, exists_eq_left', nL, nI_eq, sk_1 hv, sr_1_0 hv, sr_1_1 hv, sr_1_2 hv, sr_1_3 hv, sr_1_4 hv, sr_1_7 hv, sr_1_9 hv, sr_1_14 hv, sr_1_15 hv, sr_1_16 hv, sk_9 hv, sr_9_0 hv, sr_9_1 hv, sk_12 hv, sr_12_0 hv, sr_12_1 hv, sk_37 hv, sr_37_0 hv, sr_37_1 hv, sr_37_2 hv, sr_37_3 hv, sr_37_5 hv, g1, g2, x1, x2, Bool.false_eq_true]
    · have : wsB A E = true := by rw [wsB, x1, x2, Bool.true_and]
      rw [this]
      simp (disch := omega) only [c_18, e_18_0, e_18_1, e_18_2, e_18_5, e_18_8, e_18_9, e_18_12, e_18_15, e_18_16, e_18_17, e_18_20, e_18_23, e_18_24, e_18_27, e_18_30, e_18_31, e_18_34, e_18_35, n10, n01, Nat.lt_irrefl, Nat.not_lt_zero, ne_eq, Nat.add_zero, Nat.one_ne_zero, Nat.zero_ne_one, Nat.reduceEqDiff, bI_T, bI_F, bI_0, bI_1, bI_01, not_and_self, true_and, and_true, not_true_eq_false, not_false_eq_true, false_imp_iff, true_imp_iff, imp_self, gPv_n, gPv_i, gPv_r, gPv_0, Option.toList_some, Option.toList_none, List.singleton_append, List.cons_append, List.nil_append, List.length_nil, List.length_cons, Nat.zero_le, Nat.reduceAdd, Nat.reduceLeDiff, or_true, true_or, false_or, or_false, and_self, and_false, false_and, implies_true, Option.some.injEq, exists_eq_left', nL, nI_eq, sk_1 hv, sr_1_0 hv, sr_1_1 hv, sr_1_2 hv, sr_1_3 hv, sr_1_4 hv, sr_1_7 hv, sr_1_9 hv, sr_1_14 hv, sr_1_15 hv, sr_1_16 hv, sk_9 hv, sr_9_0 hv, sr_9_1 hv, sk_12 hv, sr_12_0 hv, sr_12_1 hv, sk_37 hv, sr_37_0 hv, sr_37_1 hv, sr_37_2 hv, sr_37_3 hv, sr_37_5 hv, g1, g2, x1, x2]
theorem t_ws1 (X : MX B σ A) (hp : Wp A) (hN : NX B σ (hn A) E) (hE : EdG A E) : ∀ m i, i + m = an A 251 → wsL A E 216 true i = true → (wp (d + 5) pr_251 Q 2 [some (.ref (B + 54)), some (.int (nI i))] [] σ ↔ if wsL A E 216 true (an A 251) = true then wp (d + 5) pr_251 Q 56 [some (.ref (B + 54)), some (.int (nI (an A 251)))] [] σ else Q (some (.int (nI 0))) σ) := by
  obtain ⟨hv, hA, wh, wd, wl⟩ := id X
  have h12 := hn_le wh
  obtain ⟨⟨a1, a2, a3⟩, b1, b2, b3⟩ := pr_n hp
  have q1 : gI σ (B + 56) 251 = nI (an A 251) := by rw [hA]; exact a2
  intro m
  induction m with
  | zero =>
    intro i hi hw
    have e : i = an A 251 := by omega
    subst e
    rw [if_pos hw]
    simp (disch := omega) only [e_251_2, e_251_3, e_251_4, e_251_7, e_251_10, e_251_11, n10, n01, Nat.lt_irrefl, Nat.not_lt_zero, ne_eq, Nat.add_zero, Nat.one_ne_zero, Nat.zero_ne_one, Nat.reduceEqDiff, bI_T, bI_F, bI_0, bI_1, bI_01, not_and_self, true_and, and_true, not_true_eq_false, not_false_eq_true, false_imp_iff, true_imp_iff, imp_self, gPv_n, gPv_i, gPv_r, gPv_0, Option.toList_some, Option.toList_none, List.singleton_append, List.cons_append, List.nil_append, List.length_nil, List.length_cons, Nat.zero_le, Nat.reduceAdd, Nat.reduceLeDiff, or_true, true_or, false_or, or_false, and_self, and_false, false_and, implies_true, Option.some.injEq, exists_eq_left', nL, nI_add, nI_mul, nI_clamp, nI_ltI, nI_leI, nI_eq, nI_pos, nI_pos', Nat.reduceAdd, Nat.reduceMul, Nat.reducePow, sk_54 hv, sr_54_2 hv, sr_54_3 hv, sr_54_4 hv, sr_54_5 hv, sr_54_7 hv, sr_54_8 hv, sr_54_9 hv, sr_54_12 hv, sr_54_13 hv, sr_54_14 hv, sr_54_22 hv, sr_54_25 hv, sr_54_26 hv, sr_54_27 hv, sr_54_34 hv, sr_54_35 hv, sr_54_36 hv, sr_54_37 hv, sr_54_38 hv, sr_54_40 hv, sr_54_43 hv, sr_54_44 hv, sr_54_45 hv, sr_54_46 hv, sr_54_47 hv, sk_56 hv, sn_56 hv, q1, Nat.le_refl, Nat.reduceLT]
  | succ m ih =>
    intro i hi hw
    have z : ¬ an A 251 ≤ i := by omega
    obtain ⟨p1, p2, p3, p4⟩ := a3 i (by omega)
    have g1 : gI σ (B + 56) (216 + 2 * i) = nI (an A (216 + 2 * i)) := by rw [hA]; exact p2
    have g2 : gI σ (B + 56) (216 + 2 * i + 1) = nI (an A (217 + 2 * i)) := by rw [hA, show 216 + 2 * i + 1 = 217 + 2 * i from by omega]; exact p4
    have y1 : 216 + 2 * i < 5062 := by omega
    have y2 : 216 + 2 * i + 1 < 5062 := by omega
    have tc : ∀ (d : Nat) (Q : Option Value → gS → Prop), wc (d + 5) 240 [.ref (B + 54), .int (nI (an A (216 + 2 * i))), .int (nI (an A (217 + 2 * i))), .int (nI 0)] σ Q ↔ Q (some (.int (bI (cmB A E (an A (216 + 2 * i)) (an A (217 + 2 * i)) 0 = true)))) σ := fun d Q => t_come X hN hE.1 (by omega) (by omega)
    have ws : wsL A E 216 true (i + 1) = cmB A E (an A (216 + 2 * i)) (an A (217 + 2 * i)) 0 := by
      rw [wsL, hw, Bool.true_and]
      simp
    rw [e_251_2]
    cases c : cmB A E (an A (216 + 2 * i)) (an A (217 + 2 * i)) 0
    · rw [c] at ws
      have w3 : wsL A E 216 true (an A 251) = false := by
        have := wsL_f (m := m) ws
        rw [show i + 1 + m = an A 251 from by omega] at this
        exact this
      rw [w3]
      simp (disch := omega) only [e_251_3, e_251_4, e_251_7, e_251_10, e_251_11, e_251_14, e_251_15, e_251_16, e_251_19, e_251_22, e_251_23, e_251_24, e_251_25, e_251_26, e_251_27, e_251_28, e_251_31, e_251_34, e_251_35, e_251_36, e_251_37, e_251_38, e_251_39, e_251_40, e_251_41, e_251_42, e_251_45, e_251_48, e_251_49, n10, n01, Nat.lt_irrefl, Nat.not_lt_zero, ne_eq, Nat.add_zero, Nat.one_ne_zero, Nat.zero_ne_one, Nat.reduceEqDiff, bI_T, bI_F, bI_0, bI_1, bI_01, not_and_self, true_and, and_true, not_true_eq_false, not_false_eq_true, false_imp_iff, true_imp_iff, imp_self, gPv_n, gPv_i, gPv_r, gPv_0, Option.toList_some, Option.toList_none, List.singleton_append, List.cons_append, List.nil_append, List.length_nil, List.length_cons, Nat.zero_le, Nat.reduceAdd, Nat.reduceLeDiff, or_true, true_or, false_or, or_false, and_self, and_false, false_and, implies_true, Option.some.injEq, exists_eq_left', nL, nI_add, nI_mul, nI_clamp, nI_ltI, nI_leI, nI_eq, nI_pos, nI_pos', Nat.reduceAdd, Nat.reduceMul, Nat.reducePow, sk_54 hv, sr_54_2 hv, sr_54_3 hv, sr_54_4 hv, sr_54_5 hv, sr_54_7 hv, sr_54_8 hv, sr_54_9 hv, sr_54_12 hv, sr_54_13 hv, sr_54_14 hv, sr_54_22 hv, sr_54_25 hv, sr_54_26 hv, sr_54_27 hv, sr_54_34 hv, sr_54_35 hv, sr_54_36 hv, sr_54_37 hv, sr_54_38 hv, sr_54_40 hv, sr_54_43 hv, sr_54_44 hv, sr_54_45 hv, sr_54_46 hv, sr_54_47 hv, sk_56 hv, sn_56 hv, q1, z, y1, y2, g1, g2, tc, c, Nat.reduceLT, Bool.false_eq_true, if_false]
    · rw [c] at ws
      rw [← ih (i + 1) (by omega) ws]
      simp (disch := omega) only [e_251_3, e_251_4, e_251_7, e_251_10, e_251_11, e_251_14, e_251_15, e_251_16, e_251_19, e_251_22, e_251_23, e_251_24, e_251_25, e_251_26, e_251_27, e_251_28, e_251_31, e_251_34, e_251_35, e_251_36, e_251_37, e_251_38, e_251_39, e_251_40, e_251_41, e_251_42, e_251_45, e_251_48, e_251_49, e_251_50, e_251_53, n10, n01, Nat.lt_irrefl, Nat.not_lt_zero, ne_eq, Nat.add_zero, Nat.one_ne_zero, Nat.zero_ne_one, Nat.reduceEqDiff, bI_T, bI_F, bI_0, bI_1, bI_01, not_and_self, true_and, and_true, not_true_eq_false, not_false_eq_true, false_imp_iff, true_imp_iff, imp_self, gPv_n, gPv_i, gPv_r, gPv_0, Option.toList_some, Option.toList_none, List.singleton_append, List.cons_append, List.nil_append, List.length_nil, List.length_cons, Nat.zero_le, Nat.reduceAdd, Nat.reduceLeDiff, or_true, true_or, false_or, or_false, and_self, and_false, false_and, implies_true, Option.some.injEq, exists_eq_left', nL, nI_add, nI_mul, nI_clamp, nI_ltI, nI_leI, nI_eq, nI_pos, nI_pos', Nat.reduceAdd, Nat.reduceMul, Nat.reducePow, sk_54 hv, sr_54_2 hv, sr_54_3 hv, sr_54_4 hv, sr_54_5 hv, sr_54_7 hv, sr_54_8 hv, sr_54_9 hv, sr_54_12 hv, sr_54_13 hv, sr_54_14 hv, sr_54_22 hv, sr_54_25 hv, sr_54_26 hv, sr_54_27 hv, sr_54_34 hv, sr_54_35 hv, sr_54_36 hv, sr_54_37 hv, sr_54_38 hv, sr_54_40 hv, sr_54_43 hv, sr_54_44 hv, sr_54_45 hv, sr_54_46 hv, sr_54_47 hv, sk_56 hv, sn_56 hv, q1, z, y1, y2, g1, g2, tc, c, Nat.reduceLT]
theorem t_ws2 (X : MX B σ A) (hp : Wp A) (hN : NX B σ (hn A) E) (hE : EdG A E) : ∀ m i, i + m = an A 252 → wsL A E 224 false i = true → (wp (d + 5) pr_251 Q 58 [some (.ref (B + 54)), some (.int (nI i))] [] σ ↔ Q (some (.int (bI (wsL A E 224 false (an A 252) = true)))) σ) := by
  obtain ⟨hv, hA, wh, wd, wl⟩ := id X
  have h12 := hn_le wh
  obtain ⟨⟨a1, a2, a3⟩, b1, b2, b3⟩ := pr_n hp
  have q1 : gI σ (B + 56) 252 = nI (an A 252) := by rw [hA]; exact b2
  intro m
  induction m with
  | zero =>
    intro i hi hw
    have e : i = an A 252 := by omega
    subst e
    rw [hw]
    simp (disch := omega) only [e_251_58, e_251_59, e_251_60, e_251_63, e_251_66, e_251_67, e_251_112, e_251_113, n10, n01, Nat.lt_irrefl, Nat.not_lt_zero, ne_eq, Nat.add_zero, Nat.one_ne_zero, Nat.zero_ne_one, Nat.reduceEqDiff, bI_T, bI_F, bI_0, bI_1, bI_01, not_and_self, true_and, and_true, not_true_eq_false, not_false_eq_true, false_imp_iff, true_imp_iff, imp_self, gPv_n, gPv_i, gPv_r, gPv_0, Option.toList_some, Option.toList_none, List.singleton_append, List.cons_append, List.nil_append, List.length_nil, List.length_cons, Nat.zero_le, Nat.reduceAdd, Nat.reduceLeDiff, or_true, true_or, false_or, or_false, and_self, and_false, false_and, implies_true, Option.some.injEq, exists_eq_left', nL, nI_add, nI_mul, nI_clamp, nI_ltI, nI_leI, nI_eq, nI_pos, nI_pos', Nat.reduceAdd, Nat.reduceMul, Nat.reducePow, sk_54 hv, sr_54_2 hv, sr_54_3 hv, sr_54_4 hv, sr_54_5 hv, sr_54_7 hv, sr_54_8 hv, sr_54_9 hv, sr_54_12 hv, sr_54_13 hv, sr_54_14 hv, sr_54_22 hv, sr_54_25 hv, sr_54_26 hv, sr_54_27 hv, sr_54_34 hv, sr_54_35 hv, sr_54_36 hv, sr_54_37 hv, sr_54_38 hv, sr_54_40 hv, sr_54_43 hv, sr_54_44 hv, sr_54_45 hv, sr_54_46 hv, sr_54_47 hv, sk_56 hv, sn_56 hv, q1, Nat.le_refl, Nat.reduceLT]
  | succ m ih =>
    intro i hi hw
    have z : ¬ an A 252 ≤ i := by omega
    obtain ⟨p1, p2, p3, p4⟩ := b3 i (by omega)
    have g1 : gI σ (B + 56) (224 + 2 * i) = nI (an A (224 + 2 * i)) := by rw [hA]; exact p2
    have g2 : gI σ (B + 56) (224 + 2 * i + 1) = nI (an A (225 + 2 * i)) := by rw [hA, show 224 + 2 * i + 1 = 225 + 2 * i from by omega]; exact p4
    have y1 : 224 + 2 * i < 5062 := by omega
    have y2 : 224 + 2 * i + 1 < 5062 := by omega
    have tc : ∀ (d : Nat) (Q : Option Value → gS → Prop), wc (d + 5) 240 [.ref (B + 54), .int (nI (an A (224 + 2 * i))), .int (nI (an A (225 + 2 * i))), .int (nI 0)] σ Q ↔ Q (some (.int (bI (cmB A E (an A (224 + 2 * i)) (an A (225 + 2 * i)) 0 = true)))) σ := fun d Q => t_come X hN hE.1 (by omega) (by omega)
    have ws : wsL A E 224 false (i + 1) = !cmB A E (an A (224 + 2 * i)) (an A (225 + 2 * i)) 0 := by
      rw [wsL, hw, Bool.true_and]
      simp
    rw [e_251_58]
    cases c : cmB A E (an A (224 + 2 * i)) (an A (225 + 2 * i)) 0
    · rw [c] at ws
      rw [← ih (i + 1) (by omega) ws]
      simp (disch := omega) only [e_251_59, e_251_60, e_251_63, e_251_66, e_251_67, e_251_70, e_251_71, e_251_72, e_251_75, e_251_78, e_251_79, e_251_80, e_251_81, e_251_82, e_251_83, e_251_84, e_251_87, e_251_90, e_251_91, e_251_92, e_251_93, e_251_94, e_251_95, e_251_96, e_251_97, e_251_98, e_251_101, e_251_104, e_251_105, e_251_106, e_251_109, n10, n01, Nat.lt_irrefl, Nat.not_lt_zero, ne_eq, Nat.add_zero, Nat.one_ne_zero, Nat.zero_ne_one, Nat.reduceEqDiff, bI_T, bI_F, bI_0, bI_1, bI_01, not_and_self, true_and, and_true, not_true_eq_false, not_false_eq_true, false_imp_iff, true_imp_iff, imp_self, gPv_n, gPv_i, gPv_r, gPv_0, Option.toList_some, Option.toList_none, List.singleton_append, List.cons_append, List.nil_append, List.length_nil, List.length_cons, Nat.zero_le, Nat.reduceAdd, Nat.reduceLeDiff, or_true, true_or, false_or, or_false, and_self, and_false, false_and, implies_true, Option.some.injEq, exists_eq_left', nL, nI_add, nI_mul, nI_clamp, nI_ltI, nI_leI, nI_eq, nI_pos, nI_pos', Nat.reduceAdd, Nat.reduceMul, Nat.reducePow, sk_54 hv, sr_54_2 hv, sr_54_3 hv, sr_54_4 hv, sr_54_5 hv, sr_54_7 hv, sr_54_8 hv, sr_54_9 hv, sr_54_12 hv, sr_54_13 hv, sr_54_14 hv, sr_54_22 hv, sr_54_25 hv, sr_54_26 hv, sr_54_27 hv, sr_54_34 hv, sr_54_35 hv, sr_54_36 hv, sr_54_37 hv, sr_54_38 hv, sr_54_40 hv, sr_54_43 hv, sr_54_44 hv, sr_54_45 hv, sr_54_46 hv, sr_54_47 hv, sk_56 hv, sn_56 hv, q1, z, y1, y2, g1, g2, tc, c, Nat.reduceLT, Bool.false_eq_true]
    · rw [c] at ws
      have w3 : wsL A E 224 false (an A 252) = false := by
        have := wsL_f (m := m) ws
        rw [show i + 1 + m = an A 252 from by omega] at this
        exact this
      rw [w3]
      simp (disch := omega) only [e_251_59, e_251_60, e_251_63, e_251_66, e_251_67, e_251_70, e_251_71, e_251_72, e_251_75, e_251_78, e_251_79, e_251_80, e_251_81, e_251_82, e_251_83, e_251_84, e_251_87, e_251_90, e_251_91, e_251_92, e_251_93, e_251_94, e_251_95, e_251_96, e_251_97, e_251_98, e_251_101, e_251_104, e_251_105, e_251_106, e_251_109, n10, n01, Nat.lt_irrefl, Nat.not_lt_zero, ne_eq, Nat.add_zero, Nat.one_ne_zero, Nat.zero_ne_one, Nat.reduceEqDiff, bI_T, bI_F, bI_0, bI_1, bI_01, not_and_self, true_and, and_true, not_true_eq_false, not_false_eq_true, false_imp_iff, true_imp_iff, imp_self, gPv_n, gPv_i, gPv_r, gPv_0, Option.toList_some, Option.toList_none, List.singleton_append, List.cons_append, List.nil_append, List.length_nil, List.length_cons, Nat.zero_le, Nat.reduceAdd, Nat.reduceLeDiff, or_true, true_or, false_or, or_false, and_self, and_false, false_and, implies_true, Option.some.injEq, exists_eq_left', nL, nI_add, nI_mul, nI_clamp, nI_ltI, nI_leI, nI_eq, nI_pos, nI_pos', Nat.reduceAdd, Nat.reduceMul, Nat.reducePow, sk_54 hv, sr_54_2 hv, sr_54_3 hv, sr_54_4 hv, sr_54_5 hv, sr_54_7 hv, sr_54_8 hv, sr_54_9 hv, sr_54_12 hv, sr_54_13 hv, sr_54_14 hv, sr_54_22 hv, sr_54_25 hv, sr_54_26 hv, sr_54_27 hv, sr_54_34 hv, sr_54_35 hv, sr_54_36 hv, sr_54_37 hv, sr_54_38 hv, sr_54_40 hv, sr_54_43 hv, sr_54_44 hv, sr_54_45 hv, sr_54_46 hv, sr_54_47 hv, sk_56 hv, sn_56 hv, q1, z, y1, y2, g1, g2, tc, c, Nat.reduceLT, Bool.false_eq_true]
theorem t_isWished (X : MX B σ A) (hp : Wp A) (hN : NX B σ (hn A) E) (hE : EdG A E) : wc (d + 6) 251 [.ref (B + 54)] σ Q ↔ Q (some (.int (bI (wsB A E = true)))) σ := by
  have h1 := t_ws1 (d := d) (Q := Q) X hp hN hE (an A 251) 0 (by omega) rfl
  have h2 := t_ws2 (d := d) (Q := Q) X hp hN hE (an A 252) 0 (by omega) rfl
  simp (disch := omega) only [c_251, e_251_0, e_251_1, n10, n01, Nat.lt_irrefl, Nat.not_lt_zero, ne_eq, Nat.add_zero, Nat.one_ne_zero, Nat.zero_ne_one, Nat.reduceEqDiff, bI_T, bI_F, bI_0, bI_1, bI_01, not_and_self, true_and, and_true, not_true_eq_false, not_false_eq_true, false_imp_iff, true_imp_iff, imp_self, gPv_n, gPv_i, gPv_r, gPv_0, Option.toList_some, Option.toList_none, List.singleton_append, List.cons_append, List.nil_append, List.length_nil, List.length_cons, Nat.zero_le, Nat.reduceAdd, Nat.reduceLeDiff, or_true, true_or, false_or, or_false, and_self, and_false, false_and, implies_true, Option.some.injEq, exists_eq_left', nL]
  rw [h1]
  cases x1 : wsL A E 216 true (an A 251)
  · have : wsB A E = false := by rw [wsB, x1, Bool.false_and]
    rw [this]
    simp only [Bool.false_eq_true, if_false, bI_F]
  · rw [if_pos rfl]
    have : wsB A E = wsL A E 224 false (an A 252) := by rw [wsB, x1, Bool.true_and]
    rw [this, ← h2]
    simp (disch := omega) only [e_251_56, e_251_57, n10, n01, Nat.lt_irrefl, Nat.not_lt_zero, ne_eq, Nat.add_zero, Nat.one_ne_zero, Nat.zero_ne_one, Nat.reduceEqDiff, bI_T, bI_F, bI_0, bI_1, bI_01, not_and_self, true_and, and_true, not_true_eq_false, not_false_eq_true, false_imp_iff, true_imp_iff, imp_self, gPv_n, gPv_i, gPv_r, gPv_0, Option.toList_some, Option.toList_none, List.singleton_append, List.cons_append, List.nil_append, List.length_nil, List.length_cons, Nat.zero_le, Nat.reduceAdd, Nat.reduceLeDiff, or_true, true_or, false_or, or_false, and_self, and_false, false_and, implies_true, Option.some.injEq, exists_eq_left', nL]
end
