/-! doors: the class's search -/
section
variable {CV : Nat → (Nat → Int32) → (Nat → Nat → Int32) → Prop} {B : Nat} {own : Nat → Nat} {σ : gS} {A : Nat → Int32} {d cc : Nat} {Q : Option Value → gS → Prop} {E : Nat → Nat}
abbrev DcX (B : Nat) (C : Nat → Bool) (n : Nat) (f : Nat → Nat → Nat) (p : Nat) (τ : gS) : Prop := DX C n f p (gI τ (B + 37) 7) (gI τ (B + 37) 8) (gI τ (B + 41))
abbrev TrT (B : Nat) (σ τ : gS) : Prop := Sm (fun a => a = B + 37 ∨ a = B + 38 ∨ a = B + 41) σ τ ∧ ∀ t, t ≠ 7 → t ≠ 8 → gI τ (B + 37) t = gI σ (B + 37) t
abbrev R38 (B : Nat) (F : Nat → Nat) (τ : gS) : Prop := ∀ j, j < 12 → gI τ (B + 38) j = nI (F j)
theorem TrT_38 {τ τ' : gS} (h : TrT B σ τ) (hS : Sm (fun a => a = B + 38) τ τ') : TrT B σ τ' := ⟨Sm_trans h.1 (Sm_mono hS (fun a ha => by omega)), fun t a b => by rw [hS.2.2.2.2.2.2.1 _ (by omega)]; exact h.2 t a b⟩
theorem TrT_k {τ τ' : gS} (h : TrT B σ τ) (hS : Sm (fun a => a = B + 37 ∨ a = B + 41) τ τ') (he : ∀ t, t ≠ 7 → t ≠ 8 → gI τ' (B + 37) t = gI τ (B + 37) t) : TrT B σ τ' := ⟨Sm_trans h.1 (Sm_mono hS (fun a ha => by omega)), fun t a b => by rw [he t a b]; exact h.2 t a b⟩
theorem DcX_38 {τ τ' : gS} {C : Nat → Bool} {n p : Nat} {f : Nat → Nat → Nat} (h : DcX B C n f p τ) (hS : Sm (fun a => a = B + 38) τ τ') : DcX B C n f p τ' := by
  simp only [DcX]
  rw [hS.2.2.2.2.2.2.1 (B + 37) (by omega), hS.2.2.2.2.2.2.1 (B + 41) (by omega)]
  exact h
theorem LsR_T {c : Nat} {τ : gS} (h : LsR B A c σ) (hT : TrT B σ τ) : LsR B A c τ := fun i hi => by
  rw [hT.1.2.2.2.2.2.2.1 (B + 39) (by omega), hT.1.2.2.2.2.2.2.1 (B + 40) (by omega)]
  exact h i hi
set_option maxHeartbeats 1000000 in
theorem s_try1 {c : Nat} (hc : Ctx B own σ A) (hO : ∀ j, j < 12 → gI σ (B + 29) j = nI (opn A (A 249) j)) (hW : ∀ j, j < 12 → gI σ (B + 30) j = nI (wdn A (A 249) j)) (w : wsB A (opn A (A 249)) = false) (h4 : gI σ (B + 37) 4 = nI c) (hc6 : c ≤ 66) (hL : LsR B A c σ) (h144 : ps (chB A) c = 144) (K : ∀ τ', TrT B σ τ' → R38 B (opn A (A 249)) τ' → DcX B (o1 A) 1 f1 144 τ' → Q none τ') : ∀ m i τ, i + m = c → TrT B σ τ → R38 B (opn A (A 249)) τ → DcX B (o1 A) 1 f1 (ps (chB A) i) τ → wp (d + 5) pr_15 Q 2 [some (.ref (B + 37)), some (.ref (B + 29)), some (.ref (B + 30)), some (.int (nI i))] [] τ := by
  have w1 : Wh A := hc.2.1.1.1
  have h12 := hn_le w1
  intro m
  induction m with
  | zero =>
    intro i τ hi hT hR hD
    have e : i = c := by omega
    subst e
    have hvT : IvS B τ := fr_IvS hT.1.1 hT.1.2.1 hT.1.2.2.1 hc.1
    have e4 : gI τ (B + 37) 4 = nI i := by rw [hT.2 4 (by omega) (by omega)]; exact h4
    simp (disch := omega) only [e_15_2, e_15_3, e_15_4, e_15_7, e_15_76, n10, n01, Nat.lt_irrefl, Nat.not_lt_zero, ne_eq, Nat.add_zero, Nat.one_ne_zero, Nat.zero_ne_one, Nat.reduceEqDiff, bI_T, bI_F, bI_0, bI_1, bI_01, not_and_self, true_and, and_true, not_true_eq_false, not_false_eq_true, false_imp_iff, true_imp_iff, imp_self, gPv_n, gPv_i, gPv_r, gPv_0, Option.toList_some, Option.toList_none, List.singleton_append, List.cons_append, List.nil_append, List.length_nil, List.length_cons, Nat.zero_le, Nat.reduceAdd, Nat.reduceLeDiff, or_true, true_or, false_or, or_false, and_self, and_false, false_and, implies_true, Option.some.injEq, exists_eq_left', nL, nI_add, nI_mul, nI_clamp, nI_ltI, nI_leI, nI_eq, nI_pos, nI_pos', Nat.reduceAdd, Nat.reduceMul, Nat.reducePow, sk_37 hvT, sr_37_0 hvT, sr_37_1 hvT, sr_37_2 hvT, sr_37_3 hvT, sr_37_5 hvT, e4, Nat.le_refl]
    rw [h144] at hD
    exact K τ hT hR hD
  | succ m ih =>
    intro i τ hi hT hR hD
    have hi' : i < c := by omega
    have z : ¬ c ≤ i := by omega
    have z66 : ¬ 66 ≤ i := by omega
    have y66 : i < 66 := by omega
    have hvT : IvS B τ := fr_IvS hT.1.1 hT.1.2.1 hT.1.2.2.1 hc.1
    have e4 : gI τ (B + 37) 4 = nI c := by rw [hT.2 4 (by omega) (by omega)]; exact h4
    obtain ⟨a1, a2, a3, a4⟩ := LsR_T hL hT i hi'
    have pr : prB A (ps (chB A) i) = true := by
      rw [chB, Bool.and_eq_true] at a3
      exact a3.1
    obtain ⟨r1, r2⟩ := pr_lt pr
    have cp : o1 A (ps (chB A) i) = wsB A (D1 A (ps (chB A) i)) := by rw [o1, pr, Bool.true_and]
    have eT : ∀ a, a ≠ B + 37 → a ≠ B + 38 → a ≠ B + 41 → gI τ a = gI σ a := fun a x y z => hT.1.2.2.2.2.2.2.1 a (by omega)
    rw [e_15_2]
    simp (disch := omega) only [e_15_2, e_15_3, e_15_4, e_15_7, e_15_10, e_15_11, e_15_13, e_15_16, e_15_17, e_15_20, e_15_20n, e_15_21, e_15_22, e_15_25, e_15_26, e_15_27, e_15_28, e_15_31, e_15_32, e_15_33, n10, n01, Nat.lt_irrefl, Nat.not_lt_zero, ne_eq, Nat.add_zero, Nat.one_ne_zero, Nat.zero_ne_one, Nat.reduceEqDiff, bI_T, bI_F, bI_0, bI_1, bI_01, not_and_self, true_and, and_true, not_true_eq_false, not_false_eq_true, false_imp_iff, true_imp_iff, imp_self, gPv_n, gPv_i, gPv_r, gPv_0, Option.toList_some, Option.toList_none, List.singleton_append, List.cons_append, List.nil_append, List.length_nil, List.length_cons, Nat.zero_le, Nat.reduceAdd, Nat.reduceLeDiff, or_true, true_or, false_or, or_false, and_self, and_false, false_and, implies_true, Option.some.injEq, exists_eq_left', nL, nI_add, nI_mul, nI_clamp, nI_ltI, nI_leI, nI_eq, nI_pos, nI_pos', Nat.reduceAdd, Nat.reduceMul, Nat.reducePow, sk_37 hvT, sr_37_0 hvT, sr_37_1 hvT, sr_37_2 hvT, sr_37_3 hvT, sr_37_5 hvT, sk_39 hvT, sn_39 hvT, sk_40 hvT, sn_40 hvT, e4, z, z66, y66, a1, a2]
    refine s_putPair (d := d + 3) (sk_38 hvT) (sn_38 hvT) (sk_30 hvT) (sn_30 hvT) (by omega) (by omega) (by omega) (by omega) hR (fun j hj => by rw [eT _ (by omega) (by omega) (by omega)]; exact hW j hj) ?_
    intro τ1 g1 g2
    have hT1 := TrT_38 hT g1
    have hv1 : IvS B τ1 := fr_IvS g1.1 g1.2.1 g1.2.2.1 hvT
    have hc1 : Ctx B own τ1 A := Ctx_S hc (Sm_mono hT1.1 (fun a ha => by omega))
    have hE := EdG_d (EdG_o (dy := A 249) w1) (EdG_w (dy := A 249) w1) (show ps (chB A) i / 12 < hn A by omega) r2
    have hD1 := DcX_38 hD g1
    have am : ∀ Q : Option Value → gS → Prop, wc (d + 5) 18 [.ref (B + 37)] τ1 Q ↔ Q (some (.int (bI (wsB A (D1 A (ps (chB A) i)) = true)))) τ1 := fun Q => s_allMeet hc1 hE g2
    have back : ∀ τ2, TrT B σ τ2 → R38 B (D1 A (ps (chB A) i)) τ2 → DcX B (o1 A) 1 f1 (ps (chB A) i + 1) τ2 → wp (d + 5) pr_15 Q 50 [some (.ref (B + 37)), some (.ref (B + 29)), some (.ref (B + 30)), some (.int (nI i))] [] τ2 := by
      intro τ2 hT2 hR2 hD2
      have hv2 : IvS B τ2 := fr_IvS hT2.1.1 hT2.1.2.1 hT2.1.2.2.1 hc.1
      obtain ⟨b1, b2, _, _⟩ := LsR_T hL hT2 i hi'
      have eT2 : ∀ a, a ≠ B + 37 → a ≠ B + 38 → a ≠ B + 41 → gI τ2 a = gI σ a := fun a x y z => hT2.1.2.2.2.2.2.2.1 a (by omega)
      simp (disch := omega) only [e_15_50, e_15_51, e_15_54, e_15_54n, e_15_55, e_15_56, e_15_59, e_15_60, e_15_61, e_15_62, e_15_65, e_15_66, e_15_67, n10, n01, Nat.lt_irrefl, Nat.not_lt_zero, ne_eq, Nat.add_zero, Nat.one_ne_zero, Nat.zero_ne_one, Nat.reduceEqDiff, bI_T, bI_F, bI_0, bI_1, bI_01, not_and_self, true_and, and_true, not_true_eq_false, not_false_eq_true, false_imp_iff, true_imp_iff, imp_self, gPv_n, gPv_i, gPv_r, gPv_0, Option.toList_some, Option.toList_none, List.singleton_append, List.cons_append, List.nil_append, List.length_nil, List.length_cons, Nat.zero_le, Nat.reduceAdd, Nat.reduceLeDiff, or_true, true_or, false_or, or_false, and_self, and_false, false_and, implies_true, Option.some.injEq, exists_eq_left', nL, nI_add, nI_mul, nI_clamp, nI_ltI, nI_leI, nI_eq, nI_pos, nI_pos', Nat.reduceAdd, Nat.reduceMul, Nat.reducePow, sk_37 hv2, sr_37_0 hv2, sr_37_1 hv2, sr_37_2 hv2, sr_37_3 hv2, sr_37_5 hv2, sk_39 hv2, sn_39 hv2, sk_40 hv2, sn_40 hv2, y66, b1, b2]
      refine s_putPair (d := d + 3) (sk_38 hv2) (sn_38 hv2) (sk_29 hv2) (sn_29 hv2) (by omega) (by omega) (by omega) (by omega) hR2 (fun j hj => by rw [eT2 _ (by omega) (by omega) (by omega)]; exact hO j hj) ?_
      intro τ3 k1 k2
      simp (disch := omega) only [e_15_67, e_15_70, e_15_73, n10, n01, Nat.lt_irrefl, Nat.not_lt_zero, ne_eq, Nat.add_zero, Nat.one_ne_zero, Nat.zero_ne_one, Nat.reduceEqDiff, bI_T, bI_F, bI_0, bI_1, bI_01, not_and_self, true_and, and_true, not_true_eq_false, not_false_eq_true, false_imp_iff, true_imp_iff, imp_self, gPv_n, gPv_i, gPv_r, gPv_0, Option.toList_some, Option.toList_none, List.singleton_append, List.cons_append, List.nil_append, List.length_nil, List.length_cons, Nat.zero_le, Nat.reduceAdd, Nat.reduceLeDiff, or_true, true_or, false_or, or_false, and_self, and_false, false_and, implies_true, Option.some.injEq, exists_eq_left', nL, nI_add]
      refine ih (i + 1) τ3 (by omega) (TrT_38 hT2 k1) (fun j hj => by rw [k2 j hj, dE_dE]) (DX_sk (DcX_38 hD2 k1) (nx_le (by omega)).1 ?_)
      intro j j1 j2
      have j3 := (nx_le (C := chB A) (p := ps (chB A) i + 1) (by omega)).2
      have j2 : j < nx (chB A) (ps (chB A) i + 1) := j2
      exact o1_sk w (nx_sk j1 j2 (by omega))
    cases ww : wsB A (D1 A (ps (chB A) i))
    · simp (disch := omega) only [e_15_33, e_15_36, e_15_37, e_15_40, e_15_43, e_15_44, e_15_45, e_15_46, e_15_47, n10, n01, Nat.lt_irrefl, Nat.not_lt_zero, ne_eq, Nat.add_zero, Nat.one_ne_zero, Nat.zero_ne_one, Nat.reduceEqDiff, bI_T, bI_F, bI_0, bI_1, bI_01, not_and_self, true_and, and_true, not_true_eq_false, not_false_eq_true, false_imp_iff, true_imp_iff, imp_self, gPv_n, gPv_i, gPv_r, gPv_0, Option.toList_some, Option.toList_none, List.singleton_append, List.cons_append, List.nil_append, List.length_nil, List.length_cons, Nat.zero_le, Nat.reduceAdd, Nat.reduceLeDiff, or_true, true_or, false_or, or_false, and_self, and_false, false_and, implies_true, Option.some.injEq, exists_eq_left', nL, nI_add, nI_mul, nI_clamp, nI_ltI, nI_leI, nI_eq, nI_pos, nI_pos', Nat.reduceAdd, Nat.reduceMul, Nat.reducePow, sk_37 hv1, sr_37_0 hv1, sr_37_1 hv1, sr_37_2 hv1, sr_37_3 hv1, sr_37_5 hv1, am, ww, Bool.false_eq_true]
      exact back τ1 hT1 g2 (DX_0 hD1 (by rw [cp, ww]))
    · simp (disch := omega) only [e_15_33, e_15_36, e_15_37, e_15_40, e_15_43, e_15_44, e_15_45, e_15_46, e_15_47, n10, n01, Nat.lt_irrefl, Nat.not_lt_zero, ne_eq, Nat.add_zero, Nat.one_ne_zero, Nat.zero_ne_one, Nat.reduceEqDiff, bI_T, bI_F, bI_0, bI_1, bI_01, not_and_self, true_and, and_true, not_true_eq_false, not_false_eq_true, false_imp_iff, true_imp_iff, imp_self, gPv_n, gPv_i, gPv_r, gPv_0, Option.toList_some, Option.toList_none, List.singleton_append, List.cons_append, List.nil_append, List.length_nil, List.length_cons, Nat.zero_le, Nat.reduceAdd, Nat.reduceLeDiff, or_true, true_or, false_or, or_false, and_self, and_false, false_and, implies_true, Option.some.injEq, exists_eq_left', nL, nI_add, nI_mul, nI_clamp, nI_ltI, nI_leI, nI_eq, nI_pos, nI_pos', Nat.reduceAdd, Nat.reduceMul, Nat.reducePow, sk_37 hv1, sr_37_0 hv1, sr_37_1 hv1, sr_37_2 hv1, sr_37_3 hv1, sr_37_5 hv1, am, ww]
      refine s_keep (d := d + 3) hv1 (LsR_T hL hT1) hi' hi' hc6 (by omega) (by omega) hD1 (by rw [cp, ww]) ?_ ?_
      · intro t ht
        rw [if_pos (by omega)]
      · intro τ2 k1 k2 k3
        simp (disch := omega) only [n10, n01, Nat.lt_irrefl, Nat.not_lt_zero, ne_eq, Nat.add_zero, Nat.one_ne_zero, Nat.zero_ne_one, Nat.reduceEqDiff, bI_T, bI_F, bI_0, bI_1, bI_01, not_and_self, true_and, and_true, not_true_eq_false, not_false_eq_true, false_imp_iff, true_imp_iff, imp_self, gPv_n, gPv_i, gPv_r, gPv_0, Option.toList_some, Option.toList_none, List.singleton_append, List.cons_append, List.nil_append, List.length_nil, List.length_cons, Nat.zero_le, Nat.reduceAdd, Nat.reduceLeDiff, or_true, true_or, false_or, or_false, and_self, and_false, false_and, implies_true, Option.some.injEq, exists_eq_left', nL]
        exact back τ2 (TrT_k hT1 k1 k2) (fun j hj => by rw [k1.2.2.2.2.2.2.1 _ (by omega)]; exact g2 j hj) k3
end
