/-! the class reads a text -/
section
variable {B q n : Nat} {T : Nat → Nat} {d : Nat} {Q : Option Value → gS → Prop} {σ : gS}
def LIx (B : Nat) (τ : gS) (L : List zC) (X : Nat → Nat) (z : Nat) (nd : Bool) : Prop := ∃ Ed : Nat → Nat, (∀ j cl, L[j]? = some cl → gI τ (B + 22) j = nI (Ed j) ∧ gI τ (B + 23) j = nI (kdC cl) ∧ Ed j ≤ z ∧ CdC X (if j = 0 then 0 else Ed (j - 1)) (Ed j) cl) ∧ (L = [] → z = 0) ∧ (L ≠ [] → z = Ed (L.length - 1)) ∧ (nd = true ∨ ∀ cl ∈ L, dyI cl)
theorem LIx_a {τ τ' : gS} {L : List zC} {X X' : Nat → Nat} {k t z pq t' pq' z' : Nat} {nd nd' : Bool} {cl : zC} (h : LIx B τ L X z nd) (hk : L.length = k) (c : Cls B q n T τ τ' k t z pq t' pq' z' X X' nd nd' cl) : LIx B τ' (L ++ [cl]) X' z' nd' := by
  obtain ⟨Ed, h1, h2, h3, h4⟩ := h
  obtain ⟨c1, c2, c3, c4, c5, c6, c7, c8, c9, c10, c11, c12, c13, c14⟩ := c
  refine ⟨un Ed k z', ?_, ?_, ?_, ?_⟩
  · intro j cl' hj
    by_cases g : j = k
    · subst g
      have e : cl' = cl := by
        rw [List.getElem?_append_right (by omega), hk, Nat.sub_self] at hj
        simpa using hj.symm
      subst e
      rw [c12, c13, up_eq, up_eq, un_eq]
      refine ⟨rfl, rfl, Nat.le_refl _, ?_⟩
      by_cases g0 : j = 0
      · have : L = [] := List.eq_nil_of_length_eq_zero (by omega)
        have z0 := h2 this
        rw [if_pos g0]
        rw [z0] at c9
        exact c9
      · have : L ≠ [] := fun w => g0 (by rw [← hk, w]; rfl)
        have z0 := h3 this
        rw [if_neg g0, un_ne (by omega), ← hk, ← z0]
        exact c9
    · have jl : j < L.length := by
        by_cases w : j < L.length
        · exact w
        · rw [List.getElem?_append_right (by omega)] at hj
          have : j - L.length ≠ 0 := by omega
          obtain ⟨m, hm⟩ : ∃ m, j - L.length = m + 1 := ⟨j - L.length - 1, by omega⟩
          rw [hm] at hj
          simp at hj
      rw [List.getElem?_append_left jl] at hj
      obtain ⟨a1, a2, a3, a4⟩ := h1 j cl' hj
      rw [c12, c13, up_ne g, up_ne g, un_ne g]
      refine ⟨a1, a2, by omega, ?_⟩
      have e2 : (if j = 0 then 0 else un Ed k z' (j - 1)) = (if j = 0 then 0 else Ed (j - 1)) := by
        by_cases g0 : j = 0
        · rw [if_pos g0, if_pos g0]
        · rw [if_neg g0, if_neg g0, un_ne (by omega)]
      rw [e2]
      exact CdC_c (fun i hi => c8 i (by omega)) a4
  · intro w
    exact absurd w (by simp)
  · intro _
    rw [List.length_append, List.length_singleton, Nat.add_sub_cancel, hk, un_eq]
  · rcases c11 with y | y
    · exact Or.inl y
    · rcases h4 with y2 | y2
      · exact Or.inl (c10 y2)
      · refine Or.inr (fun cl' hcl => ?_)
        rcases List.mem_append.mp hcl with w | w
        · exact y2 cl' w
        · have : cl' = cl := by simpa using w
          rw [this]; exact y
theorem k_read {F : Nat} {x1 : Int32} (hF : n < F) : ∀ kk i t pq z X nd L τ, i + kk = 12 → L.length = i → Sm (fun a => B + 20 ≤ a ∧ a ≤ B + 23) σ τ → CX B q n T τ → CS B q n T τ τ t pq z X nd → z ≤ t → LIx B τ L X z nd → gI τ (B + 20) 10 = nI i →
    (∀ τ' e, pLawL (cT T q) (vT T q) F n kk t pq = .inl e → Sm (fun a => B + 20 ≤ a ∧ a ≤ B + 23) σ τ' → gI τ' (B + 20) 12 = nI (st T q e) → Q (some .null) τ') →
    (∀ τ1 t' pq' Ls X' z' nd', pLawL (cT T q) (vT T q) F n kk t pq = .inr (t', pq', Ls) → Sm (fun a => B + 20 ≤ a ∧ a ≤ B + 23) σ τ1 → LIx B τ1 (L ++ Ls) X' z' nd' → (L ++ Ls).length ≤ 12 → 1 ≤ (L ++ Ls).length → z' ≤ 400 → (∀ j, j < z' → gI τ1 (B + 21) j = nI (X' j) ∧ X' j < 49152) → gI τ1 (B + 20) 11 = bI (nd' = true) → gI τ1 (B + 20) 10 = nI (L ++ Ls).length → gI τ1 (B + 20) 12 = -nI 1 → ∀ x2, wp (d + 46) pr_41 Q 33 [some (.ref (B + 20)), some (.int x1), x2] [] τ1) → wp (d + 46) pr_41 Q 7 [some (.ref (B + 20)), some (.int x1), some (.int (nI i))] [] τ := by
  have flt : ∀ τ e i, IvS B τ → Sm (fun a => B + 20 ≤ a ∧ a ≤ B + 23) σ τ → gI τ (B + 20) 5 = nI (st T q e) → (∀ τ', Sm (fun a => B + 20 ≤ a ∧ a ≤ B + 23) σ τ' → gI τ' (B + 20) 12 = nI (st T q e) → Q (some .null) τ') → wp (d + 46) pr_41 Q 83 [some (.ref (B + 20)), some (.int x1), some (.int (nI i))] [] τ := by
    intro τ e i hv hS h5 K
    simp (disch := omega) only [e_41_83, e_41_84, e_41_85, e_41_88, e_41_91, e_41_92, e_41_92n, n10, n01, Nat.lt_irrefl, Nat.not_lt_zero, ne_eq, Nat.add_zero, Nat.one_ne_zero, Nat.zero_ne_one, Nat.reduceEqDiff, bI_T, bI_F, bI_0, bI_1, bI_01, not_and_self, true_and, and_true, not_true_eq_false, not_false_eq_true, false_imp_iff, true_imp_iff, imp_self, gPv_n, gPv_i, gPv_r, gPv_0, Option.toList_some, Option.toList_none, List.singleton_append, List.cons_append, List.nil_append, List.length_nil, List.length_cons, Nat.zero_le, Nat.reduceAdd, Nat.reduceLeDiff, or_true, true_or, false_or, or_false, and_self, and_false, false_and, implies_true, Option.some.injEq, exists_eq_left', nL, sk_20 hv, sr_20_0 hv, sr_20_1 hv, sr_20_2 hv, sr_20_3 hv, h5]
    exact K _ (Sm_I hS ⟨by omega, by omega⟩) (by rw [rI_eq])
  intro kk
  induction kk with
  | zero =>
    intro i t pq z X nd L τ hi hL hS Y h hz hI h10 K0 K1
    have z12 : 12 ≤ i := by omega
    simp (disch := omega) only [e_41_7, e_41_8, e_41_10, n10, n01, Nat.lt_irrefl, Nat.not_lt_zero, ne_eq, Nat.add_zero, Nat.one_ne_zero, Nat.zero_ne_one, Nat.reduceEqDiff, bI_T, bI_F, bI_0, bI_1, bI_01, not_and_self, true_and, and_true, not_true_eq_false, not_false_eq_true, false_imp_iff, true_imp_iff, imp_self, gPv_n, gPv_i, gPv_r, gPv_0, Option.toList_some, Option.toList_none, List.singleton_append, List.cons_append, List.nil_append, List.length_nil, List.length_cons, Nat.zero_le, Nat.reduceAdd, Nat.reduceLeDiff, or_true, true_or, false_or, or_false, and_self, and_false, false_and, implies_true, Option.some.injEq, exists_eq_left', nL, nI_add, nI_mul, nI_clamp, nI_ltI, nI_leI, nI_eq, nI_pos, nI_pos', Nat.reduceAdd, Nat.reduceMul, Nat.reducePow, z12]
    exact flt τ t i Y.1.1 hS h.2.1.1 (fun τ' hS' h12 => K0 τ' t rfl hS' h12)
  | succ kk ih =>
    intro i t pq z X nd L τ hi hL hS Y h hz hI h10 K0 K1
    obtain ⟨nq, q4⟩ := CX_n Y
    have hv := Y.1.1
    have z12 : ¬ 12 ≤ i := by omega
    rw [pLawL] at K0 K1
    rw [e_41_7]
    simp (disch := omega) only [e_41_8, e_41_10, e_41_13, e_41_14, e_41_15, n10, n01, Nat.lt_irrefl, Nat.not_lt_zero, ne_eq, Nat.add_zero, Nat.one_ne_zero, Nat.zero_ne_one, Nat.reduceEqDiff, bI_T, bI_F, bI_0, bI_1, bI_01, not_and_self, true_and, and_true, not_true_eq_false, not_false_eq_true, false_imp_iff, true_imp_iff, imp_self, gPv_n, gPv_i, gPv_r, gPv_0, Option.toList_some, Option.toList_none, List.singleton_append, List.cons_append, List.nil_append, List.length_nil, List.length_cons, Nat.zero_le, Nat.reduceAdd, Nat.reduceLeDiff, or_true, true_or, false_or, or_false, and_self, and_false, false_and, implies_true, Option.some.injEq, exists_eq_left', nL, nI_add, nI_mul, nI_clamp, nI_ltI, nI_leI, nI_eq, nI_pos, nI_pos', Nat.reduceAdd, Nat.reduceMul, Nat.reducePow, sk_20 hv, sr_20_0 hv, sr_20_1 hv, sr_20_2 hv, sr_20_3 hv, z12]
    refine k_clause (d := d) (k := i) Y hF h hz (by omega) ?_ ?_
    · intro τ' e hr he
      rw [hr] at K0
      have S' : Sm (fun a => B + 20 ≤ a ∧ a ≤ B + 23) σ τ' := Sm_trans hS (Sm_mono he.1.1 (fun a ha => by omega))
      simp (disch := omega) only [e_41_18, n10, n01, Nat.lt_irrefl, Nat.not_lt_zero, ne_eq, Nat.add_zero, Nat.one_ne_zero, Nat.zero_ne_one, Nat.reduceEqDiff, bI_T, bI_F, bI_0, bI_1, bI_01, not_and_self, true_and, and_true, not_true_eq_false, not_false_eq_true, false_imp_iff, true_imp_iff, imp_self, gPv_n, gPv_i, gPv_r, gPv_0, Option.toList_some, Option.toList_none, List.singleton_append, List.cons_append, List.nil_append, List.length_nil, List.length_cons, Nat.zero_le, Nat.reduceAdd, Nat.reduceLeDiff, or_true, true_or, false_or, or_false, and_self, and_false, false_and, implies_true, Option.some.injEq, exists_eq_left', nL, nI_add, nI_mul, nI_clamp, nI_ltI, nI_leI, nI_eq, nI_pos, nI_pos', Nat.reduceAdd, Nat.reduceMul, Nat.reducePow]
      exact flt τ' e i (cr_X Y he.1).1 S' he.2 (fun τ2 hS2 h12 => K0 τ2 e rfl hS2 h12)
    · intro τ' t' pq' cl z' X' nd' hr c
      have hI' := LIx_a hI hL c
      obtain ⟨c1, c2, c3, c4, c5, c6, c7, c8, c9, c10, c11, c12, c13, c14⟩ := id c
      rw [hr] at K0 K1
      simp only at K0 K1
      have S' : Sm (fun a => B + 20 ≤ a ∧ a ≤ B + 23) σ τ' := Sm_trans hS c1
      have Z := c3.1
      have hv' := Z.1
      have h7 := c2.2.1.2.2
      have tn' := c2.2.2.1.1
      have sg : ∀ (d : Nat) (Q : Option Value → gS → Prop), wc (d + 1) 47 [.ref (B + 20), .int (nI 59)] τ' Q ↔ Q (some (.int (bI (cT T q t' = 159)))) τ' := fun d Q => s_isSign Z c2.2.1 (by omega) rfl
      have len : (L ++ [cl]).length = i + 1 := by rw [List.length_append, hL]; rfl
      by_cases b : t' < n
      · have sq := c3.2.1 t' b
        have kl := kd_le (T (st T q t'))
        rw [tkp, if_pos sq] at h7
        have k0 : ¬ kd (T (st T q t')) = 0 := by omega
        by_cases a : cT T q t' = 159
        · simp only [if_pos a] at K0 K1
          simp (disch := omega) only [e_41_18, e_41_21, e_41_22, e_41_25, e_41_61, e_41_62, e_41_64, e_41_67, e_41_73, e_41_74, n10, n01, Nat.lt_irrefl, Nat.not_lt_zero, ne_eq, Nat.add_zero, Nat.one_ne_zero, Nat.zero_ne_one, Nat.reduceEqDiff, bI_T, bI_F, bI_0, bI_1, bI_01, not_and_self, true_and, and_true, not_true_eq_false, not_false_eq_true, false_imp_iff, true_imp_iff, imp_self, gPv_n, gPv_i, gPv_r, gPv_0, Option.toList_some, Option.toList_none, List.singleton_append, List.cons_append, List.nil_append, List.length_nil, List.length_cons, Nat.zero_le, Nat.reduceAdd, Nat.reduceLeDiff, or_true, true_or, false_or, or_false, and_self, and_false, false_and, implies_true, Option.some.injEq, exists_eq_left', nL, nI_add, nI_mul, nI_clamp, nI_ltI, nI_leI, nI_eq, nI_pos, nI_pos', Nat.reduceAdd, Nat.reduceMul, Nat.reducePow, sk_20 hv', sr_20_0 hv', sr_20_1 hv', sr_20_2 hv', sr_20_3 hv', h7, k0, sg, a]
          refine k_go (d := d + 44) c3 c2 b ?_
          intro τ2 h2
          have S2 : Sm (fun a => B + 20 ≤ a ∧ a ≤ B + 23) σ τ2 := Sm_trans S' (Sm_mono h2.1.1 (fun a ha => by omega))
          have X2 : CX B q n T τ2 := ⟨cr_X c3 h2.1, c3.2⟩
          have e22 : gI τ2 (B + 22) = gI τ' (B + 22) := h2.1.1.2.2.2.2.2.2.1 _ (by omega)
          have e23 : gI τ2 (B + 23) = gI τ' (B + 23) := h2.1.1.2.2.2.2.2.2.1 _ (by omega)
          simp (disch := omega) only [e_41_77, e_41_80, n10, n01, Nat.lt_irrefl, Nat.not_lt_zero, ne_eq, Nat.add_zero, Nat.one_ne_zero, Nat.zero_ne_one, Nat.reduceEqDiff, bI_T, bI_F, bI_0, bI_1, bI_01, not_and_self, true_and, and_true, not_true_eq_false, not_false_eq_true, false_imp_iff, true_imp_iff, imp_self, gPv_n, gPv_i, gPv_r, gPv_0, Option.toList_some, Option.toList_none, List.singleton_append, List.cons_append, List.nil_append, List.length_nil, List.length_cons, Nat.zero_le, Nat.reduceAdd, Nat.reduceLeDiff, or_true, true_or, false_or, or_false, and_self, and_false, false_and, implies_true, Option.some.injEq, exists_eq_left', nL, nI_add]
          refine ih (i + 1) (t' + 1) pq' z' X' nd' (L ++ [cl]) τ2 (by omega) len S2 X2 ⟨⟨Sm_refl _ _, fun _ _ => rfl⟩, h2.2⟩ (by omega) ?_ (by rw [h2.1.2 10 (by omega)]; exact c14) ?_ ?_
          · simp only [LIx, e22, e23]
            exact hI'
          · intro τ3 e hr3 S3 f12
            rw [hr3] at K0
            exact K0 τ3 e rfl S3 f12
          · intro τ3 t3 pq3 Ls X3 z3 nd3 hr3 S3 hI3
            rw [hr3] at K1
            simp only at K1
            rw [List.append_assoc] at hI3 ⊢
            exact K1 τ3 t3 pq3 (cl :: Ls) X3 z3 nd3 rfl S3 hI3
        · simp only [if_neg a, if_pos b] at K0
          simp (disch := omega) only [e_41_18, e_41_21, e_41_22, e_41_25, e_41_61, e_41_62, e_41_64, e_41_67, e_41_70, n10, n01, Nat.lt_irrefl, Nat.not_lt_zero, ne_eq, Nat.add_zero, Nat.one_ne_zero, Nat.zero_ne_one, Nat.reduceEqDiff, bI_T, bI_F, bI_0, bI_1, bI_01, not_and_self, true_and, and_true, not_true_eq_false, not_false_eq_true, false_imp_iff, true_imp_iff, imp_self, gPv_n, gPv_i, gPv_r, gPv_0, Option.toList_some, Option.toList_none, List.singleton_append, List.cons_append, List.nil_append, List.length_nil, List.length_cons, Nat.zero_le, Nat.reduceAdd, Nat.reduceLeDiff, or_true, true_or, false_or, or_false, and_self, and_false, false_and, implies_true, Option.some.injEq, exists_eq_left', nL, nI_add, nI_mul, nI_clamp, nI_ltI, nI_leI, nI_eq, nI_pos, nI_pos', Nat.reduceAdd, Nat.reduceMul, Nat.reducePow, sk_20 hv', sr_20_0 hv', sr_20_1 hv', sr_20_2 hv', sr_20_3 hv', h7, k0, sg, a]
          exact flt τ' t' i hv' S' c2.2.1.1 (fun τ2 hS2 h12 => K0 τ2 t' rfl hS2 h12)
      · have sq : st T q t' = q := by
          have : t' = n := by omega
          rw [this]; exact c3.2.2
        have a : ¬ cT T q t' = 159 := by rw [cT_0 c3.2.2 (by omega)]; omega
        simp only [if_neg a, if_neg b] at K1
        rw [tkp, sq, if_neg (Nat.lt_irrefl _)] at h7
        simp (disch := omega) only [e_41_18, e_41_21, e_41_22, e_41_25, e_41_28, e_41_29, e_41_30, n10, n01, Nat.lt_irrefl, Nat.not_lt_zero, ne_eq, Nat.add_zero, Nat.one_ne_zero, Nat.zero_ne_one, Nat.reduceEqDiff, bI_T, bI_F, bI_0, bI_1, bI_01, not_and_self, true_and, and_true, not_true_eq_false, not_false_eq_true, false_imp_iff, true_imp_iff, imp_self, gPv_n, gPv_i, gPv_r, gPv_0, Option.toList_some, Option.toList_none, List.singleton_append, List.cons_append, List.nil_append, List.length_nil, List.length_cons, Nat.zero_le, Nat.reduceAdd, Nat.reduceLeDiff, or_true, true_or, false_or, or_false, and_self, and_false, false_and, implies_true, Option.some.injEq, exists_eq_left', nL, nI_add, nI_mul, nI_clamp, nI_ltI, nI_leI, nI_eq, nI_pos, nI_pos', Nat.reduceAdd, Nat.reduceMul, Nat.reducePow, sk_20 hv', sr_20_0 hv', sr_20_1 hv', sr_20_2 hv', sr_20_3 hv', h7]
        refine K1 _ t' pq' [cl] X' z' nd' rfl (Sm_I S' ⟨by omega, by omega⟩) ?_ (by rw [len]; omega) (by rw [len]; omega) (by omega) ?_ ?_ ?_ (by rw [rI_eq]) _
        · simp only [LIx]
          rw [rI_ne (by omega), rI_ne (by omega)]
          exact hI'
        · rw [rI_ne (by omega)]
          exact c2.2.2.2.2
        · rw [rI_nk (by omega)]
          exact c2.2.2.2.1.2.2
        · rw [rI_nk (by omega), len]
          exact c14
theorem s_read (hv : IvS B σ) (h12 : I12 B σ) (hgn : B + 80 ≤ gn σ) (hq : q ≤ 400) (hT : ∀ j, j < q → gI σ (B + 19) j = nI (T j) ∧ T j < 256) (hl : ∀ i, i < n → st T q i < q) (hn : st T q n = q)
    (K0 : ∀ τ' e, pT T q n = .inl e → Sm (fun a => B + 20 ≤ a ∧ a ≤ B + 23) σ τ' → gI τ' (B + 20) 12 = nI (st T q e) → Q (some .null) τ')
    (K1 : ∀ τ1 τ' t' pq' L z m x, pT T q n = .inr (t', pq', L) → Sm (fun a => B + 20 ≤ a ∧ a ≤ B + 23) σ τ1 → gI τ1 (B + 20) 12 = -nI 1 → z ≤ 400 → m ≤ 12 → NLw τ1 τ' B z m x → ClsLaw (gI τ' (gn τ1)) (gI τ' (gn τ1 + 1)) (gN τ' (gn τ1 + 1)) (gI τ' (gn τ1 + 2)) (gN τ' (gn τ1 + 2)) (gI τ' (gn τ1 + 3)) (gN τ' (gn τ1 + 3)) L → Q (some (.ref (gn τ1))) τ') : wc (d + 47) 41 [.ref (B + 20), .int (nI q)] σ Q := by
  have k19 := sk_19 hv
  have mq : min q 400 = q := by omega
  have mq2 : max 0 q = q := by omega
  simp (disch := omega) only [c_41, e_41_0, e_41_1, e_41_2, c_42, e_42_0, e_42_1, e_42_2, e_42_3, e_42_4, e_42_7, e_42_8, e_42_11, e_42_14, e_42_17, e_42_18, e_42_19, e_42_22, e_42_23, e_42_24, e_42_27, e_42_28, e_42_29, e_42_32, e_42_33, e_42_34, e_42_37, e_42_38, e_42_39, e_42_42, e_42_43, n10, n01, Nat.lt_irrefl, Nat.not_lt_zero, ne_eq, Nat.add_zero, Nat.one_ne_zero, Nat.zero_ne_one, Nat.reduceEqDiff, bI_T, bI_F, bI_0, bI_1, bI_01, not_and_self, true_and, and_true, not_true_eq_false, not_false_eq_true, false_imp_iff, true_imp_iff, imp_self, gPv_n, gPv_i, gPv_r, gPv_0, Option.toList_some, Option.toList_none, List.singleton_append, List.cons_append, List.nil_append, List.length_nil, List.length_cons, Nat.zero_le, Nat.reduceAdd, Nat.reduceLeDiff, or_true, true_or, false_or, or_false, and_self, and_false, false_and, implies_true, Option.some.injEq, exists_eq_left', nL, nI_add, nI_mul, nI_clamp, nI_ltI, nI_leI, nI_eq, nI_pos, nI_pos', Nat.reduceAdd, Nat.reduceMul, Nat.reducePow, n_K_I, n_K_J, n_K_R, n_K_r, n_N_I, n_N_J, n_N_R, n_N_r, n_R_I, n_R_J, n_R_r, n_J_I, n_J_R, n_J_r, n_I_J, n_I_R, n_n_I, n_n_J, n_n_R, n_n_r, n_w_I, n_w_J, n_w_R, n_w_r, n_T_I, n_T_J, n_T_R, n_T_r, rI_ne, rI_nk, rI_eq, rr_ne, rr_eq, n_J_J, n_R_R, Nat.add_left_cancel_iff, Nat.add_right_cancel_iff, Nat.add_eq_left, Nat.left_eq_add, Nat.reduceEqDiff, Nat.reduceAdd, Nat.zero_ne_one, Nat.one_ne_zero, false_and, and_false, true_and, and_true, and_self, if_false, if_true, ↓reduceIte, sk_19 hv, sn_19 hv, sk_20 hv, sr_20_0 hv, sr_20_1 hv, sr_20_2 hv, sr_20_3 hv, nI_of_len, nI_min2, nI_max2, mq, mq2]
  generalize hτ0 : sI (sI (sI (sI (sI (sI σ (B + 20) 4 (nI q)) (B + 20) 6 (nI 0)) (B + 20) 8 (nI 0)) (B + 20) 9 (nI 0)) (B + 20) 10 (nI 0)) (B + 20) 11 (nI 0) = τ0
  have S0 : Sm (fun a => a = B + 20) σ τ0 := by rw [← hτ0]; exact Sm_I (Sm_I (Sm_I (Sm_I (Sm_I (Sm_I (Sm_refl _ _) rfl) rfl) rfl) rfl) rfl) rfl
  have f4 : gI τ0 (B + 20) 4 = nI q := by rw [← hτ0]; simp (disch := omega) only [rI_nk, rI_eq]
  have f6 : gI τ0 (B + 20) 6 = nI 0 := by rw [← hτ0]; simp (disch := omega) only [rI_nk, rI_eq]
  have f8 : gI τ0 (B + 20) 8 = nI 0 := by rw [← hτ0]; simp (disch := omega) only [rI_nk, rI_eq]
  have f9 : gI τ0 (B + 20) 9 = nI 0 := by rw [← hτ0]; simp (disch := omega) only [rI_nk, rI_eq]
  have f10 : gI τ0 (B + 20) 10 = nI 0 := by rw [← hτ0]; simp (disch := omega) only [rI_nk, rI_eq]
  have f11 : gI τ0 (B + 20) 11 = nI 0 := by rw [← hτ0]; simp (disch := omega) only [rI_eq]
  have Z0 : TxC B q T τ0 := ⟨fr_IvS S0.1 S0.2.1 S0.2.2.1 hv, fr_I12 S0.1 S0.2.2.2.2.2.1 h12, hq, by rw [S0.2.2.2.2.2.2.1 _ (by omega)]; exact hT, f4⟩
  refine s_goOn (d := d + 43) Z0 f6 (by omega) ?_
  intro τ1 g1 h5 h6 h7
  have S1 : Sm (fun a => B + 20 ≤ a ∧ a ≤ B + 23) σ τ1 := Sm_trans (Sm_mono S0 (fun a ha => by omega)) (Sm_mono g1.1 (fun a ha => by omega))
  have Y1 : CX B q n T τ1 := ⟨go_X Z0 g1, hl, hn⟩
  have gf : ∀ j, j ≠ 5 → j ≠ 6 → j ≠ 7 → gI τ1 (B + 20) j = gI τ0 (B + 20) j := g1.2
  have C1 : CS B q n T τ1 τ1 0 0 0 (fun _ => 0) false := by
    refine ⟨⟨Sm_refl _ _, fun _ _ => rfl⟩, ⟨h5, h6, h7⟩, ⟨by omega, by omega⟩, ⟨?_, ?_, ?_⟩, fun j hj => absurd hj (by omega)⟩
    · rw [gf 8 (by omega) (by omega) (by omega)]; exact f8
    · rw [gf 9 (by omega) (by omega) (by omega)]; exact f9
    · rw [gf 11 (by omega) (by omega) (by omega), f11]; rfl
  have gn1 : gn τ1 = gn σ := S1.2.2.2.1
  simp (disch := omega) only [e_42_46, e_41_5, e_41_6, n10, n01, Nat.lt_irrefl, Nat.not_lt_zero, ne_eq, Nat.add_zero, Nat.one_ne_zero, Nat.zero_ne_one, Nat.reduceEqDiff, bI_T, bI_F, bI_0, bI_1, bI_01, not_and_self, true_and, and_true, not_true_eq_false, not_false_eq_true, false_imp_iff, true_imp_iff, imp_self, gPv_n, gPv_i, gPv_r, gPv_0, Option.toList_some, Option.toList_none, List.singleton_append, List.cons_append, List.nil_append, List.length_nil, List.length_cons, Nat.zero_le, Nat.reduceAdd, Nat.reduceLeDiff, or_true, true_or, false_or, or_false, and_self, and_false, false_and, implies_true, Option.some.injEq, exists_eq_left', nL]
  refine k_read (d := d) (σ := σ) (F := n + 1) (Nat.lt_succ_self n) 12 0 0 0 0 (fun _ => 0) false [] τ1 (by omega) rfl S1 Y1 C1 (by omega) ⟨fun _ => 0, fun j cl hj => absurd hj (by simp), fun _ => rfl, fun h => absurd rfl h, Or.inr (fun cl h => absurd h (by simp))⟩ (by rw [gf 10 (by omega) (by omega) (by omega)]; exact f10) K0 ?_
  intro τ2 t' pq' Ls X' z' nd' hr S2 hI hlen hlen1 hz hX e11 e10 e12 x2
  rw [List.nil_append] at hI hlen hlen1 e10
  have hv2 : IvS B τ2 := fr_IvS S2.1 S2.2.1 S2.2.2.1 hv
  have gn2 : gn τ2 = gn σ := S2.2.2.2.1
  obtain ⟨Ed, i1, i2, i3, i4⟩ := hI
  have hne : Ls ≠ [] := fun w => by rw [w] at hlen1; simp at hlen1
  have zE := i3 hne
  have hlast : gI τ2 (B + 22) (Ls.length - 1) = nI z' := by
    have hlt : Ls.length - 1 < Ls.length := by omega
    have := i1 (Ls.length - 1) Ls[Ls.length - 1] (List.getElem?_eq_getElem hlt)
    rw [this.1, ← zE]
  have hvN : ∀ a, a < gn τ2 → gK (sNw τ2 4 0 5) a = gK τ2 a ∧ gR (sNw τ2 4 0 5) a = gR τ2 a ∧ gI (sNw τ2 4 0 5) a = gI τ2 a := by
    intro a ha
    refine ⟨by rw [n_K_N, if_neg (by omega)], ?_, ?_⟩
    · funext j; rw [n_R_N, if_neg (by omega)]
    · funext j; rw [n_I_N, if_neg (by omega)]
  have k20 : gK (sNw τ2 4 0 5) (B + 20) = 7 := by rw [(hvN _ (by omega)).1]; exact sk_20 hv2
  have r1 : gR (sNw τ2 4 0 5) (B + 20) 1 = some (B + 21) := by rw [(hvN _ (by omega)).2.1]; exact sr_20_1 hv2
  have r2 : gR (sNw τ2 4 0 5) (B + 20) 2 = some (B + 22) := by rw [(hvN _ (by omega)).2.1]; exact sr_20_2 hv2
  have r3 : gR (sNw τ2 4 0 5) (B + 20) 3 = some (B + 23) := by rw [(hvN _ (by omega)).2.1]; exact sr_20_3 hv2
  have v10 : gI (sNw τ2 4 0 5) (B + 20) 10 = nI Ls.length := by rw [(hvN _ (by omega)).2.2]; exact e10
  have v11 : gI (sNw τ2 4 0 5) (B + 20) 11 = bI (nd' = true) := by rw [(hvN _ (by omega)).2.2]; exact e11
  simp (disch := omega) only [e_41_33, e_41_36, e_41_36n, e_41_37, e_41_38, e_41_41, e_41_42, e_41_45, e_41_46, e_41_49, e_41_50, e_41_53, e_41_54, e_41_57, n10, n01, Nat.lt_irrefl, Nat.not_lt_zero, ne_eq, Nat.add_zero, Nat.one_ne_zero, Nat.zero_ne_one, Nat.reduceEqDiff, bI_T, bI_F, bI_0, bI_1, bI_01, not_and_self, true_and, and_true, not_true_eq_false, not_false_eq_true, false_imp_iff, true_imp_iff, imp_self, gPv_n, gPv_i, gPv_r, gPv_0, Option.toList_some, Option.toList_none, List.singleton_append, List.cons_append, List.nil_append, List.length_nil, List.length_cons, Nat.zero_le, Nat.reduceAdd, Nat.reduceLeDiff, or_true, true_or, false_or, or_false, and_self, and_false, false_and, implies_true, Option.some.injEq, exists_eq_left', nL, k20, r1, r2, r3, v10, v11]
  refine s_newLaw (d := d + 44) (τ := τ2) hv2 (by omega) (by cases nd' <;> simp [bI_F, bI_T]) hlen1 hlen hz hlast ?_
  intro τ3 N
  obtain ⟨N1, N2, N3, N4, N5, N6, N7, N8⟩ := id N
  simp (disch := omega) only [e_41_60, n10, n01, Nat.lt_irrefl, Nat.not_lt_zero, ne_eq, Nat.add_zero, Nat.one_ne_zero, Nat.zero_ne_one, Nat.reduceEqDiff, bI_T, bI_F, bI_0, bI_1, bI_01, not_and_self, true_and, and_true, not_true_eq_false, not_false_eq_true, false_imp_iff, true_imp_iff, imp_self, gPv_n, gPv_i, gPv_r, gPv_0, Option.toList_some, Option.toList_none, List.singleton_append, List.cons_append, List.nil_append, List.length_nil, List.length_cons, Nat.zero_le, Nat.reduceAdd, Nat.reduceLeDiff, or_true, true_or, false_or, or_false, and_self, and_false, false_and, implies_true, Option.some.injEq, exists_eq_left']
  refine K1 τ2 τ3 t' pq' Ls z' Ls.length _ hr S2 e12 hz hlen N ⟨X', Ed, hlen, N4.2.1, N4.2.2, N5.1, by rw [N4.1]; exact hz, ?_, ?_, ?_⟩
  · intro j hj
    rw [N4.1] at hj
    rw [N6 j hj]
    exact hX j hj
  · intro i cl hi
    have hil : i < Ls.length := by
      by_cases w : i < Ls.length
      · exact w
      · rw [List.getElem?_eq_none (by omega)] at hi
        exact absurd hi (by simp)
    obtain ⟨a1, a2, a3, a4⟩ := i1 i cl hi
    exact ⟨(N7 i hil).trans a1, (N8 i hil).trans a2, by rw [N4.1]; exact a3, a4⟩
  · rw [N5.2]
    cases nd'
    · rcases i4 with w | w
      · exact absurd w (by simp)
      · exact Or.inr ⟨by simp [bI_F], w⟩
    · exact Or.inl (by simp [bI_T])
end
