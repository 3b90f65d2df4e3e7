/-! doors: two doors -/
theorem dE_bk {F W G : Nat → Nat} {a b : Nat} (h1 : (G a).testBit b = (F a).testBit b) (h2 : (G b).testBit a = (F b).testBit a) (h : Nat) : dE (dE F W a b) G a b h = F h := by
  refine Nat.eq_of_testBit_eq ?_
  intro j
  by_cases c : h = a
  · subst c
    simp only [dE, if_true, tb_pb]
    by_cases cj : j = b
    · rw [if_pos cj, cj, h1]
    · rw [if_neg cj, if_neg cj]
  · by_cases c2 : h = b
    · subst c2
      simp only [dE, if_neg c, if_true, tb_pb]
      by_cases cj : j = a
      · rw [if_pos cj, cj, h2]
      · rw [if_neg cj, if_neg cj]
    · simp only [dE, if_neg c, if_neg c2]
theorem D1_q {A : Nat → Int32} {p q : Nat} (hp : p / 12 < p % 12) (hq : q / 12 < q % 12) (hpq : p ≠ q) : (opn A (A 249) (q / 12)).testBit (q % 12) = (D1 A p (q / 12)).testBit (q % 12) ∧ (opn A (A 249) (q % 12)).testBit (q / 12) = (D1 A p (q % 12)).testBit (q / 12) := by
  constructor
  · rw [D1, dE]
    by_cases c : q / 12 = p / 12
    · rw [if_pos c, tb_pb, if_neg (by omega), c]
    · rw [if_neg c]
      by_cases c2 : q / 12 = p % 12
      · rw [if_pos c2, tb_pb, if_neg (by omega), c2]
      · rw [if_neg c2]
  · rw [D1, dE]
    by_cases c : q % 12 = p / 12
    · rw [if_pos c, tb_pb, if_neg (by omega), c]
    · rw [if_neg c]
      by_cases c2 : q % 12 = p % 12
      · rw [if_pos c2, tb_pb, if_neg (by omega), c2]
      · rw [if_neg c2]
section
variable {CV : Nat → (Nat → Int32) → (Nat → Nat → Int32) → Prop} {B : Nat} {own : Nat → Nat} {σ : gS} {A : Nat → Int32} {d cc : Nat} {Q : Option Value → gS → Prop} {E : Nat → Nat}
set_option maxHeartbeats 1000000 in
theorem s_try2 {c i : Nat} (hc : Ctx B own σ A) (hW : ∀ j, j < 12 → gI σ (B + 30) j = nI (wdn A (A 249) j)) (hO : ∀ j, j < 12 → gI σ (B + 29) j = nI (opn A (A 249) j)) (w : wsB A (opn A (A 249)) = false) (h1 : ∀ p, p < 144 → o1 A p = false) (h4 : gI σ (B + 37) 4 = nI c) (hc6 : c ≤ 66) (hL : LsR B A c σ) (h144 : ps (chB A) c = 144) (hi : i < c) (K : ∀ τ', TrT B σ τ' → R38 B (D1 A (ps (chB A) i)) τ' → DcX B (o2 A) 2 f2 (144 * ps (chB A) i + 144) τ' → Q none τ') : ∀ m j τ, j + m = c → i < j → ps (chB A) i < ps (chB A) j → TrT B σ τ → R38 B (D1 A (ps (chB A) i)) τ → DcX B (o2 A) 2 f2 (144 * ps (chB A) i + ps (chB A) j) τ → wp (d + 5) pr_16 Q 5 [some (.ref (B + 37)), some (.ref (B + 29)), some (.ref (B + 30)), some (.int (nI i)), some (.int (nI j))] [] τ := by
  have w1 : Wh A := hc.2.1.1.1
  have h12 := hn_le w1
  obtain ⟨_, _, i3, i4⟩ := hL i hi
  have pri : prB A (ps (chB A) i) = true := by
    rw [chB, Bool.and_eq_true] at i3
    exact i3.1
  obtain ⟨s1, s2⟩ := pr_lt pri
  intro m
  induction m with
  | zero =>
    intro j τ hj hij hpp hT hR hD
    have e : j = c := by omega
    subst e
    have hvT : IvS B τ := fr_IvS hT.1.1 hT.1.2.1 hT.1.2.2.1 hc.1
    have e4 : gI τ (B + 37) 4 = nI j := by rw [hT.2 4 (by omega) (by omega)]; exact h4
    simp (disch := omega) only [e_16_5, e_16_7, e_16_8, e_16_11, e_16_86, n10, n01, Nat.lt_irrefl, Nat.not_lt_zero, ne_eq, Nat.add_zero, Nat.one_ne_zero, Nat.zero_ne_one, Nat.reduceEqDiff, bI_T, bI_F, bI_0, bI_1, bI_01, not_and_self, true_and, and_true, not_true_eq_false, not_false_eq_true, false_imp_iff, true_imp_iff, imp_self, gPv_n, gPv_i, gPv_r, gPv_0, Option.toList_some, Option.toList_none, List.singleton_append, List.cons_append, List.nil_append, List.length_nil, List.length_cons, Nat.zero_le, Nat.reduceAdd, Nat.reduceLeDiff, or_true, true_or, false_or, or_false, and_self, and_false, false_and, implies_true, Option.some.injEq, exists_eq_left', nL, nI_add, nI_mul, nI_clamp, nI_ltI, nI_leI, nI_eq, nI_pos, nI_pos', Nat.reduceAdd, Nat.reduceMul, Nat.reducePow, sk_37 hvT, sr_37_0 hvT, sr_37_1 hvT, sr_37_2 hvT, sr_37_3 hvT, sr_37_5 hvT, e4, Nat.le_refl]
    rw [h144] at hD
    exact K τ hT hR hD
  | succ m ih =>
    intro j τ hj hij hpp hT hR hD
    have hj' : j < c := by omega
    have z : ¬ c ≤ j := by omega
    have z66 : ¬ 66 ≤ j := by omega
    have y66 : j < 66 := by omega
    have hvT : IvS B τ := fr_IvS hT.1.1 hT.1.2.1 hT.1.2.2.1 hc.1
    have e4 : gI τ (B + 37) 4 = nI c := by rw [hT.2 4 (by omega) (by omega)]; exact h4
    obtain ⟨a1, a2, a3, a4⟩ := LsR_T hL hT j hj'
    have pr : prB A (ps (chB A) j) = true := by
      rw [chB, Bool.and_eq_true] at a3
      exact a3.1
    obtain ⟨r1, r2⟩ := pr_lt pr
    have q1 : (144 * ps (chB A) i + ps (chB A) j) / 144 = ps (chB A) i := by omega
    have q2 : (144 * ps (chB A) i + ps (chB A) j) % 144 = ps (chB A) j := by omega
    have cp : o2 A (144 * ps (chB A) i + ps (chB A) j) = wsB A (D2 A (ps (chB A) i) (ps (chB A) j)) := by
      rw [o2, q1, q2, pr, pri]
      simp [hpp]
    have eT : ∀ a, a ≠ B + 37 → a ≠ B + 38 → a ≠ B + 41 → gI τ a = gI σ a := fun a x y z => hT.1.2.2.2.2.2.2.1 a (by omega)
    rw [e_16_5]
    simp (disch := omega) only [e_16_7, e_16_8, e_16_11, e_16_14, e_16_16, e_16_18, e_16_21, e_16_22, e_16_25, e_16_25n, e_16_26, e_16_27, e_16_30, e_16_32, e_16_33, e_16_34, e_16_37, e_16_39, e_16_40, n10, n01, Nat.lt_irrefl, Nat.not_lt_zero, ne_eq, Nat.add_zero, Nat.one_ne_zero, Nat.zero_ne_one, Nat.reduceEqDiff, bI_T, bI_F, bI_0, bI_1, bI_01, not_and_self, true_and, and_true, not_true_eq_false, not_false_eq_true, false_imp_iff, true_imp_iff, imp_self, gPv_n, gPv_i, gPv_r, gPv_0, Option.toList_some, Option.toList_none, List.singleton_append, List.cons_append, List.nil_append, List.length_nil, List.length_cons, Nat.zero_le, Nat.reduceAdd, Nat.reduceLeDiff, or_true, true_or, false_or, or_false, and_self, and_false, false_and, implies_true, Option.some.injEq, exists_eq_left', nL, nI_add, nI_mul, nI_clamp, nI_ltI, nI_leI, nI_eq, nI_pos, nI_pos', Nat.reduceAdd, Nat.reduceMul, Nat.reducePow, sk_37 hvT, sr_37_0 hvT, sr_37_1 hvT, sr_37_2 hvT, sr_37_3 hvT, sr_37_5 hvT, sk_39 hvT, sn_39 hvT, sk_40 hvT, sn_40 hvT, e4, z, z66, y66, a1, a2]
    refine s_putPair (d := d + 3) (sk_38 hvT) (sn_38 hvT) (sk_30 hvT) (sn_30 hvT) (by omega) (by omega) (by omega) (by omega) hR (fun j hj => by rw [eT _ (by omega) (by omega) (by omega)]; exact hW j hj) ?_
    intro τ1 g1 g2
    have hT1 := TrT_38 hT g1
    have hv1 : IvS B τ1 := fr_IvS g1.1 g1.2.1 g1.2.2.1 hvT
    have hc1 : Ctx B own τ1 A := Ctx_S hc (Sm_mono hT1.1 (fun a ha => by omega))
    have hE := EdG_d (EdG_d (EdG_o (dy := A 249) w1) (EdG_w (dy := A 249) w1) (show ps (chB A) i / 12 < hn A by omega) s2) (EdG_w (dy := A 249) w1) (show ps (chB A) j / 12 < hn A by omega) r2
    have hD1 := DcX_38 hD g1
    have am : ∀ Q : Option Value → gS → Prop, wc (d + 5) 18 [.ref (B + 37)] τ1 Q ↔ Q (some (.int (bI (wsB A (D2 A (ps (chB A) i) (ps (chB A) j)) = true)))) τ1 := fun Q => s_allMeet hc1 hE g2
    have back : ∀ τ2, TrT B σ τ2 → R38 B (D2 A (ps (chB A) i) (ps (chB A) j)) τ2 → DcX B (o2 A) 2 f2 (144 * ps (chB A) i + ps (chB A) j + 1) τ2 → wp (d + 5) pr_16 Q 58 [some (.ref (B + 37)), some (.ref (B + 29)), some (.ref (B + 30)), some (.int (nI i)), some (.int (nI j))] [] τ2 := by
      intro τ2 hT2 hR2 hD2
      have hv2 : IvS B τ2 := fr_IvS hT2.1.1 hT2.1.2.1 hT2.1.2.2.1 hc.1
      obtain ⟨b1, b2, _, _⟩ := LsR_T hL hT2 j hj'
      have eT2 : ∀ a, a ≠ B + 37 → a ≠ B + 38 → a ≠ B + 41 → gI τ2 a = gI σ a := fun a x y z => hT2.1.2.2.2.2.2.2.1 a (by omega)
      simp (disch := omega) only [e_16_58, e_16_59, e_16_62, e_16_62n, e_16_63, e_16_64, e_16_67, e_16_69, e_16_70, e_16_71, e_16_74, e_16_76, e_16_77, n10, n01, Nat.lt_irrefl, Nat.not_lt_zero, ne_eq, Nat.add_zero, Nat.one_ne_zero, Nat.zero_ne_one, Nat.reduceEqDiff, bI_T, bI_F, bI_0, bI_1, bI_01, not_and_self, true_and, and_true, not_true_eq_false, not_false_eq_true, false_imp_iff, true_imp_iff, imp_self, gPv_n, gPv_i, gPv_r, gPv_0, Option.toList_some, Option.toList_none, List.singleton_append, List.cons_append, List.nil_append, List.length_nil, List.length_cons, Nat.zero_le, Nat.reduceAdd, Nat.reduceLeDiff, or_true, true_or, false_or, or_false, and_self, and_false, false_and, implies_true, Option.some.injEq, exists_eq_left', nL, nI_add, nI_mul, nI_clamp, nI_ltI, nI_leI, nI_eq, nI_pos, nI_pos', Nat.reduceAdd, Nat.reduceMul, Nat.reducePow, sk_37 hv2, sr_37_0 hv2, sr_37_1 hv2, sr_37_2 hv2, sr_37_3 hv2, sr_37_5 hv2, sk_39 hv2, sn_39 hv2, sk_40 hv2, sn_40 hv2, y66, b1, b2]
      refine s_putPair (d := d + 3) (sk_38 hv2) (sn_38 hv2) (sk_29 hv2) (sn_29 hv2) (by omega) (by omega) (by omega) (by omega) hR2 (fun j hj => by rw [eT2 _ (by omega) (by omega) (by omega)]; exact hO j hj) ?_
      intro τ3 k1 k2
      simp (disch := omega) only [e_16_77, e_16_80, e_16_83, n10, n01, Nat.lt_irrefl, Nat.not_lt_zero, ne_eq, Nat.add_zero, Nat.one_ne_zero, Nat.zero_ne_one, Nat.reduceEqDiff, bI_T, bI_F, bI_0, bI_1, bI_01, not_and_self, true_and, and_true, not_true_eq_false, not_false_eq_true, false_imp_iff, true_imp_iff, imp_self, gPv_n, gPv_i, gPv_r, gPv_0, Option.toList_some, Option.toList_none, List.singleton_append, List.cons_append, List.nil_append, List.length_nil, List.length_cons, Nat.zero_le, Nat.reduceAdd, Nat.reduceLeDiff, or_true, true_or, false_or, or_false, and_self, and_false, false_and, implies_true, Option.some.injEq, exists_eq_left', nL, nI_add]
      obtain ⟨u1, u2⟩ := D1_q (A := A) s1 r1 (by omega)
      have n1 := nx_le (C := chB A) (p := ps (chB A) j + 1) (by omega)
      have e3 : ps (chB A) (j + 1) = nx (chB A) (ps (chB A) j + 1) := rfl
      refine ih (j + 1) τ3 (by omega) (by omega) (by omega) (TrT_38 hT2 k1) (fun j hj => by rw [k2 j hj, dE_bk u1 u2]) (DX_sk (DcX_38 hD2 k1) (by omega) ?_)
      intro r j1 j2
      exact o2_sk w h1 (by omega) (Or.inr (nx_sk (p := ps (chB A) j + 1) (by omega) (by omega) (by omega)))
    cases ww : wsB A (D2 A (ps (chB A) i) (ps (chB A) j))
    · simp (disch := omega) only [e_16_40, e_16_43, e_16_44, e_16_47, e_16_50, e_16_51, e_16_52, e_16_53, e_16_55, n10, n01, Nat.lt_irrefl, Nat.not_lt_zero, ne_eq, Nat.add_zero, Nat.one_ne_zero, Nat.zero_ne_one, Nat.reduceEqDiff, bI_T, bI_F, bI_0, bI_1, bI_01, not_and_self, true_and, and_true, not_true_eq_false, not_false_eq_true, false_imp_iff, true_imp_iff, imp_self, gPv_n, gPv_i, gPv_r, gPv_0, Option.toList_some, Option.toList_none, List.singleton_append, List.cons_append, List.nil_append, List.length_nil, List.length_cons, Nat.zero_le, Nat.reduceAdd, Nat.reduceLeDiff, or_true, true_or, false_or, or_false, and_self, and_false, false_and, implies_true, Option.some.injEq, exists_eq_left', nL, nI_add, nI_mul, nI_clamp, nI_ltI, nI_leI, nI_eq, nI_pos, nI_pos', Nat.reduceAdd, Nat.reduceMul, Nat.reducePow, sk_37 hv1, sr_37_0 hv1, sr_37_1 hv1, sr_37_2 hv1, sr_37_3 hv1, sr_37_5 hv1, am, ww, Bool.false_eq_true]
      exact back τ1 hT1 g2 (DX_0 hD1 (by rw [cp, ww]))
    · simp (disch := omega) only [e_16_40, e_16_43, e_16_44, e_16_47, e_16_50, e_16_51, e_16_52, e_16_53, e_16_55, n10, n01, Nat.lt_irrefl, Nat.not_lt_zero, ne_eq, Nat.add_zero, Nat.one_ne_zero, Nat.zero_ne_one, Nat.reduceEqDiff, bI_T, bI_F, bI_0, bI_1, bI_01, not_and_self, true_and, and_true, not_true_eq_false, not_false_eq_true, false_imp_iff, true_imp_iff, imp_self, gPv_n, gPv_i, gPv_r, gPv_0, Option.toList_some, Option.toList_none, List.singleton_append, List.cons_append, List.nil_append, List.length_nil, List.length_cons, Nat.zero_le, Nat.reduceAdd, Nat.reduceLeDiff, or_true, true_or, false_or, or_false, and_self, and_false, false_and, implies_true, Option.some.injEq, exists_eq_left', nL, nI_add, nI_mul, nI_clamp, nI_ltI, nI_leI, nI_eq, nI_pos, nI_pos', Nat.reduceAdd, Nat.reduceMul, Nat.reducePow, sk_37 hv1, sr_37_0 hv1, sr_37_1 hv1, sr_37_2 hv1, sr_37_3 hv1, sr_37_5 hv1, am, ww]
      refine s_keep (d := d + 3) hv1 (LsR_T hL hT1) hi hj' hc6 (by omega) (by omega) hD1 (by rw [cp, ww]) ?_ ?_
      · intro t ht
        rw [f2, q1, q2]
      · intro τ2 k1 k2 k3
        simp (disch := omega) only [n10, n01, Nat.lt_irrefl, Nat.not_lt_zero, ne_eq, Nat.add_zero, Nat.one_ne_zero, Nat.zero_ne_one, Nat.reduceEqDiff, bI_T, bI_F, bI_0, bI_1, bI_01, not_and_self, true_and, and_true, not_true_eq_false, not_false_eq_true, false_imp_iff, true_imp_iff, imp_self, gPv_n, gPv_i, gPv_r, gPv_0, Option.toList_some, Option.toList_none, List.singleton_append, List.cons_append, List.nil_append, List.length_nil, List.length_cons, Nat.zero_le, Nat.reduceAdd, Nat.reduceLeDiff, or_true, true_or, false_or, or_false, and_self, and_false, false_and, implies_true, Option.some.injEq, exists_eq_left', nL]
        exact back τ2 (TrT_k hT1 k1 k2) (fun j hj => by rw [k1.2.2.2.2.2.2.1 _ (by omega)]; exact g2 j hj) k3
end
