/-! doors: the class's search, whole -/
section
variable {CV : Nat → (Nat → Int32) → (Nat → Nat → Int32) → Prop} {B : Nat} {own : Nat → Nat} {σ : gS} {A : Nat → Int32} {d cc : Nat} {Q : Option Value → gS → Prop} {E : Nat → Nat}
theorem DX_n1 {C : Nat → Bool} {f : Nat → Nat → Nat} {p : Nat} {nd wy : Int32} {pk : Nat → Int32} (h : DX C 2 f p nd wy pk) : ¬ nd = nI 1 := by
  obtain ⟨_, h2⟩ := h
  cases c : fo C p 0 with
  | none =>
    rw [c] at h2
    have h2 : nd = -nI 1 := h2
    rw [h2]
    exact ng_ne 1 1 (by omega) (by omega) (by omega)
  | some r =>
    rw [c] at h2
    rw [h2.1]
    intro z
    exact absurd ((nI_eq (by omega) (by omega)).mp z) (by omega)
set_option maxHeartbeats 1000000 in
theorem s_sr {c : Nat} (hc : Ctx B own σ A) (hW : ∀ j, j < 12 → gI σ (B + 30) j = nI (wdn A (A 249) j)) (hO : ∀ j, j < 12 → gI σ (B + 29) j = nI (opn A (A 249) j)) (w : wsB A (opn A (A 249)) = false) (h1 : ∀ p, p < 144 → o1 A p = false) (h4 : gI σ (B + 37) 4 = nI c) (hc6 : c ≤ 66) (hL : LsR B A c σ) (h144 : ps (chB A) c = 144) (K : ∀ τ', TrT B σ τ' → DcX B (o2 A) 2 f2 20736 τ' → Q none τ') : ∀ m i τ, i + m = c → TrT B σ τ → R38 B (opn A (A 249)) τ → DcX B (o2 A) 2 f2 (144 * ps (chB A) i) τ → wp (d + 6) pr_13 Q 94 [some (.ref (B + 37)), some (.ref (B + 29)), some (.ref (B + 30)), some (.int (nI i))] [] τ := by
  have w1 : Wh A := hc.2.1.1.1
  have h12 := hn_le w1
  intro m
  induction m with
  | zero =>
    intro i τ hi hT hR hD
    have e : i = c := by omega
    subst e
    have n1 := DX_n1 hD
    have hvT : IvS B τ := fr_IvS hT.1.1 hT.1.2.1 hT.1.2.2.1 hc.1
    have e4 : gI τ (B + 37) 4 = nI i := by rw [hT.2 4 (by omega) (by omega)]; exact h4
    simp (disch := omega) only [e_13_93, e_13_94, e_13_95, e_13_98, e_13_99, e_13_102, e_13_103, e_13_104, e_13_107, e_13_169, n10, n01, Nat.lt_irrefl, Nat.not_lt_zero, ne_eq, Nat.add_zero, Nat.one_ne_zero, Nat.zero_ne_one, Nat.reduceEqDiff, bI_T, bI_F, bI_0, bI_1, bI_01, not_and_self, true_and, and_true, not_true_eq_false, not_false_eq_true, false_imp_iff, true_imp_iff, imp_self, gPv_n, gPv_i, gPv_r, gPv_0, Option.toList_some, Option.toList_none, List.singleton_append, List.cons_append, List.nil_append, List.length_nil, List.length_cons, Nat.zero_le, Nat.reduceAdd, Nat.reduceLeDiff, or_true, true_or, false_or, or_false, and_self, and_false, false_and, implies_true, Option.some.injEq, exists_eq_left', nL, nI_add, nI_mul, nI_clamp, nI_ltI, nI_leI, nI_eq, nI_pos, nI_pos', Nat.reduceAdd, Nat.reduceMul, Nat.reducePow, sk_37 hvT, sr_37_0 hvT, sr_37_1 hvT, sr_37_2 hvT, sr_37_3 hvT, sr_37_5 hvT, e4, n1, Nat.le_refl]
    rw [h144] at hD
    exact K τ hT hD
  | succ m ih =>
    intro i τ hi hT hR hD
    have n1 := DX_n1 hD
    have hi' : i < c := by omega
    have z : ¬ c ≤ i := by omega
    have z66 : ¬ 66 ≤ i := by omega
    have y66 : i < 66 := by omega
    have hvT : IvS B τ := fr_IvS hT.1.1 hT.1.2.1 hT.1.2.2.1 hc.1
    have e4 : gI τ (B + 37) 4 = nI c := by rw [hT.2 4 (by omega) (by omega)]; exact h4
    obtain ⟨a1, a2, a3, a4⟩ := LsR_T hL hT i hi'
    have pr : prB A (ps (chB A) i) = true := by
      rw [chB, Bool.and_eq_true] at a3
      exact a3.1
    obtain ⟨r1, r2⟩ := pr_lt pr
    have eT : ∀ a, a ≠ B + 37 → a ≠ B + 38 → a ≠ B + 41 → gI τ a = gI σ a := fun a x y z => hT.1.2.2.2.2.2.2.1 a (by omega)
    have nn := nx_le (C := chB A) (p := ps (chB A) i + 1) (by omega)
    have e3 : ps (chB A) (i + 1) = nx (chB A) (ps (chB A) i + 1) := rfl
    rw [e_13_94]
    simp (disch := omega) only [e_13_94, e_13_95, e_13_98, e_13_99, e_13_102, e_13_103, e_13_104, e_13_107, e_13_110, e_13_111, e_13_113, e_13_116, e_13_117, e_13_120, e_13_120n, e_13_121, e_13_122, e_13_125, e_13_126, e_13_127, e_13_128, e_13_131, e_13_132, e_13_133, n10, n01, Nat.lt_irrefl, Nat.not_lt_zero, ne_eq, Nat.add_zero, Nat.one_ne_zero, Nat.zero_ne_one, Nat.reduceEqDiff, bI_T, bI_F, bI_0, bI_1, bI_01, not_and_self, true_and, and_true, not_true_eq_false, not_false_eq_true, false_imp_iff, true_imp_iff, imp_self, gPv_n, gPv_i, gPv_r, gPv_0, Option.toList_some, Option.toList_none, List.singleton_append, List.cons_append, List.nil_append, List.length_nil, List.length_cons, Nat.zero_le, Nat.reduceAdd, Nat.reduceLeDiff, or_true, true_or, false_or, or_false, and_self, and_false, false_and, implies_true, Option.some.injEq, exists_eq_left', nL, nI_add, nI_mul, nI_clamp, nI_ltI, nI_leI, nI_eq, nI_pos, nI_pos', Nat.reduceAdd, Nat.reduceMul, Nat.reducePow, sk_37 hvT, sr_37_0 hvT, sr_37_1 hvT, sr_37_2 hvT, sr_37_3 hvT, sr_37_5 hvT, sk_39 hvT, sn_39 hvT, sk_40 hvT, sn_40 hvT, e4, n1, z, z66, y66, a1, a2]
    refine s_putPair (d := d + 4) (sk_38 hvT) (sn_38 hvT) (sk_30 hvT) (sn_30 hvT) (by omega) (by omega) (by omega) (by omega) hR (fun j hj => by rw [eT _ (by omega) (by omega) (by omega)]; exact hW j hj) ?_
    intro τ1 g1 g2
    have hT1 := TrT_38 hT g1
    have hv1 : IvS B τ1 := fr_IvS g1.1 g1.2.1 g1.2.2.1 hvT
    simp (disch := omega) only [e_13_133, e_13_136, e_13_137, e_13_137n, e_13_138, e_13_138n, e_13_139, e_13_140, n10, n01, Nat.lt_irrefl, Nat.not_lt_zero, ne_eq, Nat.add_zero, Nat.one_ne_zero, Nat.zero_ne_one, Nat.reduceEqDiff, bI_T, bI_F, bI_0, bI_1, bI_01, not_and_self, true_and, and_true, not_true_eq_false, not_false_eq_true, false_imp_iff, true_imp_iff, imp_self, gPv_n, gPv_i, gPv_r, gPv_0, Option.toList_some, Option.toList_none, List.singleton_append, List.cons_append, List.nil_append, List.length_nil, List.length_cons, Nat.zero_le, Nat.reduceAdd, Nat.reduceLeDiff, or_true, true_or, false_or, or_false, and_self, and_false, false_and, implies_true, Option.some.injEq, exists_eq_left', nL, nI_add, nI_mul, nI_clamp, nI_ltI, nI_leI, nI_eq, nI_pos, nI_pos', Nat.reduceAdd, Nat.reduceMul, Nat.reducePow, sk_37 hv1, sr_37_0 hv1, sr_37_1 hv1, sr_37_2 hv1, sr_37_3 hv1, sr_37_5 hv1, c_16, e_16_0, e_16_1, e_16_2, e_16_3, nI_add]
    refine s_try2 (d := d) (i := i) hc hW hO w h1 h4 hc6 hL h144 hi' ?_ (c - (i + 1)) (i + 1) τ1 (by omega) (by omega) (by omega) hT1 g2 (DX_sk (DcX_38 hD g1) (by omega) ?_)
    · intro τ2 hT2 hR2 hD2
      have hv2 : IvS B τ2 := fr_IvS hT2.1.1 hT2.1.2.1 hT2.1.2.2.1 hc.1
      obtain ⟨b1, b2, _, _⟩ := LsR_T hL hT2 i hi'
      have eT2 : ∀ a, a ≠ B + 37 → a ≠ B + 38 → a ≠ B + 41 → gI τ2 a = gI σ a := fun a x y z => hT2.1.2.2.2.2.2.2.1 a (by omega)
      simp (disch := omega) only [e_13_143, e_13_144, e_13_147, e_13_147n, e_13_148, e_13_149, e_13_152, e_13_153, e_13_154, e_13_155, e_13_158, e_13_159, e_13_160, n10, n01, Nat.lt_irrefl, Nat.not_lt_zero, ne_eq, Nat.add_zero, Nat.one_ne_zero, Nat.zero_ne_one, Nat.reduceEqDiff, bI_T, bI_F, bI_0, bI_1, bI_01, not_and_self, true_and, and_true, not_true_eq_false, not_false_eq_true, false_imp_iff, true_imp_iff, imp_self, gPv_n, gPv_i, gPv_r, gPv_0, Option.toList_some, Option.toList_none, List.singleton_append, List.cons_append, List.nil_append, List.length_nil, List.length_cons, Nat.zero_le, Nat.reduceAdd, Nat.reduceLeDiff, or_true, true_or, false_or, or_false, and_self, and_false, false_and, implies_true, Option.some.injEq, exists_eq_left', nL, nI_add, nI_mul, nI_clamp, nI_ltI, nI_leI, nI_eq, nI_pos, nI_pos', Nat.reduceAdd, Nat.reduceMul, Nat.reducePow, sk_37 hv2, sr_37_0 hv2, sr_37_1 hv2, sr_37_2 hv2, sr_37_3 hv2, sr_37_5 hv2, sk_39 hv2, sn_39 hv2, sk_40 hv2, sn_40 hv2, y66, b1, b2]
      refine s_putPair (d := d + 4) (sk_38 hv2) (sn_38 hv2) (sk_29 hv2) (sn_29 hv2) (by omega) (by omega) (by omega) (by omega) hR2 (fun j hj => by rw [eT2 _ (by omega) (by omega) (by omega)]; exact hO j hj) ?_
      intro τ3 k1 k2
      simp (disch := omega) only [e_13_160, e_13_163, e_13_166, n10, n01, Nat.lt_irrefl, Nat.not_lt_zero, ne_eq, Nat.add_zero, Nat.one_ne_zero, Nat.zero_ne_one, Nat.reduceEqDiff, bI_T, bI_F, bI_0, bI_1, bI_01, not_and_self, true_and, and_true, not_true_eq_false, not_false_eq_true, false_imp_iff, true_imp_iff, imp_self, gPv_n, gPv_i, gPv_r, gPv_0, Option.toList_some, Option.toList_none, List.singleton_append, List.cons_append, List.nil_append, List.length_nil, List.length_cons, Nat.zero_le, Nat.reduceAdd, Nat.reduceLeDiff, or_true, true_or, false_or, or_false, and_self, and_false, false_and, implies_true, Option.some.injEq, exists_eq_left', nL, nI_add]
      refine ih (i + 1) τ3 (by omega) (TrT_38 hT2 k1) (fun j hj => by rw [k2 j hj, dE_dE]) (DX_sk (DcX_38 hD2 k1) (by omega) ?_)
      intro r j1 j2
      exact o2_sk w h1 (by omega) (Or.inl (nx_sk (p := ps (chB A) i + 1) (by omega) (by omega) (by omega)))
    · intro r j1 j2
      by_cases q : r / 144 < r % 144
      · exact o2_sk w h1 (by omega) (Or.inr (nx_sk (p := ps (chB A) i + 1) (by omega) (by omega) (by omega)))
      · rw [o2, decide_eq_false q, Bool.false_and, Bool.false_and]
set_option maxHeartbeats 1000000 in
theorem s_sr0 {τ : gS} {x3 : Option Value} (hc : Ctx B own σ A) (hW : ∀ j, j < 12 → gI σ (B + 30) j = nI (wdn A (A 249) j)) (hO : ∀ j, j < 12 → gI σ (B + 29) j = nI (opn A (A 249) j)) (hS : Sm (fun a => B + 37 ≤ a ∧ a ≤ B + 41) σ τ) (hR : R38 B (opn A (A 249)) τ) (y6 : gI τ (B + 37) 6 = nI cc) (y7 : gI τ (B + 37) 7 = -nI 1) (y8 : gI τ (B + 37) 8 = nI 0) (K : ∀ τ', Sm (fun a => B + 37 ≤ a ∧ a ≤ B + 41) σ τ' → gI τ' (B + 37) 6 = nI cc → DrR A (gI τ' (B + 37) 7) (gI τ' (B + 37) 8) (gI τ' (B + 41)) → Q none τ') : wp (d + 6) pr_13 Q 62 [some (.ref (B + 37)), some (.ref (B + 29)), some (.ref (B + 30)), x3] [] τ := by
  have w1 : Wh A := hc.2.1.1.1
  have hcT : Ctx B own τ A := Ctx_S hc (Sm_mono hS (fun a ha => by omega))
  have hvT := hcT.1
  have eT : ∀ a, ¬ (B + 37 ≤ a ∧ a ≤ B + 41) → gI τ a = gI σ a := fun a ha => hS.2.2.2.2.2.2.1 a ha
  have am : ∀ Q : Option Value → gS → Prop, wc (d + 6) 18 [.ref (B + 37)] τ Q ↔ Q (some (.int (bI (wsB A (opn A (A 249)) = true)))) τ := fun Q => s_allMeet (d := d + 1) hcT (EdG_o w1) hR
  cases w : wsB A (opn A (A 249))
  · simp (disch := omega) only [e_13_62, e_13_63, e_13_66, e_13_79, e_13_80, e_13_81, e_13_81n, e_13_82, e_13_82n, e_13_83, n10, n01, Nat.lt_irrefl, Nat.not_lt_zero, ne_eq, Nat.add_zero, Nat.one_ne_zero, Nat.zero_ne_one, Nat.reduceEqDiff, bI_T, bI_F, bI_0, bI_1, bI_01, not_and_self, true_and, and_true, not_true_eq_false, not_false_eq_true, false_imp_iff, true_imp_iff, imp_self, gPv_n, gPv_i, gPv_r, gPv_0, Option.toList_some, Option.toList_none, List.singleton_append, List.cons_append, List.nil_append, List.length_nil, List.length_cons, Nat.zero_le, Nat.reduceAdd, Nat.reduceLeDiff, or_true, true_or, false_or, or_false, and_self, and_false, false_and, implies_true, Option.some.injEq, exists_eq_left', nL, nI_eq, sk_37 hvT, sr_37_0 hvT, sr_37_1 hvT, sr_37_2 hvT, sr_37_3 hvT, sr_37_5 hvT, am, w, Bool.false_eq_true]
    refine s_listPairs (d := d + 1) hcT (fun j hj => by rw [eT _ (by omega)]; exact hO j hj) (fun j hj => by rw [eT _ (by omega)]; exact hW j hj) ?_
    intro τ1 c g1 g2 g3 g4 g5 g6
    have hS1 : Sm (fun a => B + 37 ≤ a ∧ a ≤ B + 41) σ τ1 := Sm_trans hS (Sm_mono g1 (fun a ha => by omega))
    have hc1 : Ctx B own τ1 A := Ctx_S hc (Sm_mono hS1 (fun a ha => by omega))
    have hv1 := hc1.1
    have eT1 : ∀ a, ¬ (B + 37 ≤ a ∧ a ≤ B + 41) → gI τ1 a = gI σ a := fun a ha => hS1.2.2.2.2.2.2.1 a ha
    have hO1 : ∀ j, j < 12 → gI τ1 (B + 29) j = nI (opn A (A 249) j) := fun j hj => by rw [eT1 _ (by omega)]; exact hO j hj
    have hW1 : ∀ j, j < 12 → gI τ1 (B + 30) j = nI (wdn A (A 249) j) := fun j hj => by rw [eT1 _ (by omega)]; exact hW j hj
    have hR1 : R38 B (opn A (A 249)) τ1 := fun j hj => by rw [g1.2.2.2.2.2.2.1 _ (by omega)]; exact hR j hj
    have D0 : ∀ (C : Nat → Bool) (n : Nat) (f : Nat → Nat → Nat), DcX B C n f 0 τ1 := fun C n f => ⟨by rw [g2 8 (by omega), y8]; rfl, by rw [g2 7 (by omega)]; exact y7⟩
    simp (disch := omega) only [e_13_83, e_13_86, e_13_87, e_13_87n, e_13_88, e_13_88n, e_13_89, n10, n01, Nat.lt_irrefl, Nat.not_lt_zero, ne_eq, Nat.add_zero, Nat.one_ne_zero, Nat.zero_ne_one, Nat.reduceEqDiff, bI_T, bI_F, bI_0, bI_1, bI_01, not_and_self, true_and, and_true, not_true_eq_false, not_false_eq_true, false_imp_iff, true_imp_iff, imp_self, gPv_n, gPv_i, gPv_r, gPv_0, Option.toList_some, Option.toList_none, List.singleton_append, List.cons_append, List.nil_append, List.length_nil, List.length_cons, Nat.zero_le, Nat.reduceAdd, Nat.reduceLeDiff, or_true, true_or, false_or, or_false, and_self, and_false, false_and, implies_true, Option.some.injEq, exists_eq_left', nL, sk_37 hv1, sr_37_0 hv1, sr_37_1 hv1, sr_37_2 hv1, sr_37_3 hv1, sr_37_5 hv1, c_15, e_15_0, e_15_1]
    refine s_try1 (d := d) (c := c) hc1 hO1 hW1 w g3 g4 g5 g6 ?_ c 0 τ1 (by omega) ⟨Sm_refl _ _, fun _ _ _ => rfl⟩ hR1 (DX_sk (D0 _ _ _) (Nat.zero_le _) ?_)
    · intro τ2 hT2 hR2 hD2
      have hv2 : IvS B τ2 := fr_IvS hT2.1.1 hT2.1.2.1 hT2.1.2.2.1 hv1
      have hS2 : Sm (fun a => B + 37 ≤ a ∧ a ≤ B + 41) σ τ2 := Sm_trans hS1 (Sm_mono hT2.1 (fun a ha => by omega))
      have e6 : gI τ2 (B + 37) 6 = nI cc := by rw [hT2.2 6 (by omega) (by omega), g2 6 (by omega), y6]
      simp (disch := omega) only [e_13_89, e_13_92, e_13_93, n10, n01, Nat.lt_irrefl, Nat.not_lt_zero, ne_eq, Nat.add_zero, Nat.one_ne_zero, Nat.zero_ne_one, Nat.reduceEqDiff, bI_T, bI_F, bI_0, bI_1, bI_01, not_and_self, true_and, and_true, not_true_eq_false, not_false_eq_true, false_imp_iff, true_imp_iff, imp_self, gPv_n, gPv_i, gPv_r, gPv_0, Option.toList_some, Option.toList_none, List.singleton_append, List.cons_append, List.nil_append, List.length_nil, List.length_cons, Nat.zero_le, Nat.reduceAdd, Nat.reduceLeDiff, or_true, true_or, false_or, or_false, and_self, and_false, false_and, implies_true, Option.some.injEq, exists_eq_left', nL]
      by_cases c0 : cn (o1 A) 144 0 = 0
      · have f0 := (cn_fo' 144 0).mp c0
        have h1 : ∀ p, p < 144 → o1 A p = false := fun p hp => fo_none 144 0 f0 p (Nat.zero_le _) (by omega)
        obtain ⟨z1, z2⟩ := hD2
        rw [c0] at z1
        rw [f0] at z2
        have D2' : DcX B (o2 A) 2 f2 0 τ2 := ⟨z1, z2⟩
        refine s_sr (d := d) (σ := τ1) (c := c) hc1 hW1 hO1 w h1 g3 g4 g5 g6 ?_ c 0 τ2 (by omega) hT2 hR2 (DX_sk D2' (Nat.zero_le _) ?_)
        · intro τ3 hT3 hD3
          refine K τ3 (Sm_trans hS1 (Sm_mono hT3.1 (fun a ha => by omega))) (by rw [hT3.2 6 (by omega) (by omega), g2 6 (by omega), y6]) ?_
          rw [DrR, w, if_neg (by decide), if_neg (by omega)]
          exact hD3
        · intro r j1 j2
          have e3 : ps (chB A) 0 = nx (chB A) 0 := rfl
          have n3 := nx_le (C := chB A) (p := 0) (by omega)
          exact o2_sk w h1 (by omega) (Or.inl (nx_sk (p := 0) (by omega) (by omega) (by omega)))
      · obtain ⟨z1, z2⟩ := id hD2
        obtain ⟨q, hq⟩ : ∃ q, fo (o1 A) 144 0 = some q := by
          cases z : fo (o1 A) 144 0 with
          | none => exact absurd ((cn_fo' 144 0).mpr z) c0
          | some q => exact ⟨q, rfl⟩
        rw [hq] at z2
        have z7 : gI τ2 (B + 37) 7 = nI 1 := z2.1
        simp (disch := omega) only [e_13_93, e_13_94, e_13_95, e_13_98, e_13_99, e_13_169, n10, n01, Nat.lt_irrefl, Nat.not_lt_zero, ne_eq, Nat.add_zero, Nat.one_ne_zero, Nat.zero_ne_one, Nat.reduceEqDiff, bI_T, bI_F, bI_0, bI_1, bI_01, not_and_self, true_and, and_true, not_true_eq_false, not_false_eq_true, false_imp_iff, true_imp_iff, imp_self, gPv_n, gPv_i, gPv_r, gPv_0, Option.toList_some, Option.toList_none, List.singleton_append, List.cons_append, List.nil_append, List.length_nil, List.length_cons, Nat.zero_le, Nat.reduceAdd, Nat.reduceLeDiff, or_true, true_or, false_or, or_false, and_self, and_false, false_and, implies_true, Option.some.injEq, exists_eq_left', nL, sk_37 hv2, sr_37_0 hv2, sr_37_1 hv2, sr_37_2 hv2, sr_37_3 hv2, sr_37_5 hv2, z7]
        refine K τ2 hS2 e6 ?_
        rw [DrR, w, if_neg (by decide), if_pos c0]
        exact hD2
    · intro r j1 j2
      have e3 : ps (chB A) 0 = nx (chB A) 0 := rfl
      have n3 := nx_le (C := chB A) (p := 0) (by omega)
      exact o1_sk w (nx_sk (p := 0) (by omega) (by omega) (by omega))
  · simp (disch := omega) only [e_13_62, e_13_63, e_13_66, e_13_69, e_13_70, e_13_71, e_13_74, e_13_75, e_13_76, e_13_79, n10, n01, Nat.lt_irrefl, Nat.not_lt_zero, ne_eq, Nat.add_zero, Nat.one_ne_zero, Nat.zero_ne_one, Nat.reduceEqDiff, bI_T, bI_F, bI_0, bI_1, bI_01, not_and_self, true_and, and_true, not_true_eq_false, not_false_eq_true, false_imp_iff, true_imp_iff, imp_self, gPv_n, gPv_i, gPv_r, gPv_0, Option.toList_some, Option.toList_none, List.singleton_append, List.cons_append, List.nil_append, List.length_nil, List.length_cons, Nat.zero_le, Nat.reduceAdd, Nat.reduceLeDiff, or_true, true_or, false_or, or_false, and_self, and_false, false_and, implies_true, Option.some.injEq, exists_eq_left', nL, nI_eq, sk_37 hvT, sr_37_0 hvT, sr_37_1 hvT, sr_37_2 hvT, sr_37_3 hvT, sr_37_5 hvT, am, w, n_K_I, n_K_J, n_K_R, n_K_r, n_N_I, n_N_J, n_N_R, n_N_r, n_R_I, n_R_J, n_R_r, n_J_I, n_J_R, n_J_r, n_I_J, n_I_R, n_n_I, n_n_J, n_n_R, n_n_r, n_w_I, n_w_J, n_w_R, n_w_r, n_T_I, n_T_J, n_T_R, n_T_r, rI_ne, rI_nk, rI_eq, rr_ne, rr_eq, n_J_J, n_R_R, Nat.add_left_cancel_iff, Nat.add_right_cancel_iff, Nat.add_eq_left, Nat.left_eq_add, Nat.reduceEqDiff, Nat.reduceAdd, Nat.zero_ne_one, Nat.one_ne_zero, false_and, and_false, true_and, and_true, and_self, if_false, if_true, ↓reduceIte]
    refine K _ (Sm_I (Sm_I hS ⟨by omega, by omega⟩) ⟨by omega, by omega⟩) ?_ ?_
    · rw [rI_nk (by omega), rI_nk (by omega), y6]
    · rw [DrR, w, if_pos rfl, rI_nk (by omega), rI_eq, rI_eq]
      exact ⟨rfl, rfl⟩
end
