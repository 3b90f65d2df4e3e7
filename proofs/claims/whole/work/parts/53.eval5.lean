/-! the model asks a law: both, tests -/
section
variable {B b0 n : Nat} {c v : Nat → Nat} {W : Nat → Int32} {σ : gS}
set_option maxHeartbeats 2000000 in
theorem ev_l224 {d : Nat} {P : Nat → Nat → zR zT} (X : EvX B b0 n c v W σ) (hP : EvT B b0 W σ 225 (d + 2) P) (hup : pUp P) (hle : pLe n P) : ∀ m t q f0 t' q' f, n < t + m → t ≤ n → pLoop c 5 5 P (fun _ => dAnd) m t q f0 = .inr (t', q', f) → ∀ (live b x : Bool) (x3 : Option Value) (Q : Option Value → gS → Prop), (live = true → (b || (live && (f0 W).isNone)) = false → f0 W = some x) →
    (∀ x : Bool, (live = true → (b || (live && (f W).isNone)) = false → f W = some x) → Q (some (.int (bI (x = true)))) (ev σ B (b0 + t') (b || (live && (f W).isNone)))) →
    wp (d + 2) pr_224 Q 6 [some (.ref (B + 54)), some (.int (bI (live = true))), some (.int (bI (x = true))), x3] [] (ev σ B (b0 + t) (b || (live && (f0 W).isNone))) := by
  have hv' := fun g b => ev_v (g := g) (b := b) X.1
  have hn := X.2.2.2.2.2.1
  intro m
  induction m with
  | zero =>
    intro t q f0 t' q' f hm htn h live b x x3 Q hx K
    exact absurd htn (by omega)
  | succ m ih =>
    intro t q f0 t' q' f hm htn h live b x x3 Q hx K
    rcases pLoop_r h with ⟨h1, rfl, rfl, rfl⟩ | ⟨h1, t1, q1, g, h2, h3⟩
    · have c1 : ¬ c t' = 5 := fun z => h1 (Or.inl z)
      simp (disch := omega) only [e_224_6, e_224_7, e_224_8, e_224_11, e_224_49, e_224_50, n10, n01, Nat.lt_irrefl, Nat.not_lt_zero, ne_eq, Nat.add_zero, Nat.one_ne_zero, Nat.zero_ne_one, Nat.reduceEqDiff, bI_T, bI_F, bI_0, bI_1, bI_01, not_and_self, true_and, and_true, not_true_eq_false, not_false_eq_true, false_imp_iff, true_imp_iff, imp_self, gPv_n, gPv_i, gPv_r, gPv_0, Option.toList_some, Option.toList_none, List.singleton_append, List.cons_append, List.nil_append, List.length_nil, List.length_cons, Nat.zero_le, Nat.reduceAdd, Nat.reduceLeDiff, or_true, true_or, false_or, or_false, and_self, and_false, false_and, implies_true, Option.some.injEq, exists_eq_left', nL, nI_add, nI_mul, nI_clamp, nI_ltI, nI_leI, nI_eq, nI_pos, nI_pos', Nat.reduceAdd, Nat.reduceMul, Nat.reducePow, sk_54 (hv' _ _), sr_54_2 (hv' _ _), sr_54_3 (hv' _ _), sr_54_4 (hv' _ _), sr_54_5 (hv' _ _), sr_54_7 (hv' _ _), sr_54_8 (hv' _ _), sr_54_9 (hv' _ _), sr_54_12 (hv' _ _), sr_54_13 (hv' _ _), sr_54_14 (hv' _ _), sr_54_22 (hv' _ _), sr_54_25 (hv' _ _), sr_54_26 (hv' _ _), sr_54_27 (hv' _ _), sr_54_34 (hv' _ _), sr_54_35 (hv' _ _), sr_54_36 (hv' _ _), sr_54_37 (hv' _ _), sr_54_38 (hv' _ _), sr_54_40 (hv' _ _), sr_54_43 (hv' _ _), sr_54_44 (hv' _ _), sr_54_45 (hv' _ _), sr_54_46 (hv' _ _), sr_54_47 (hv' _ _), t_passF X (show t' ≤ 1000 by omega) (show 5 < 1000 by omega) c1]
      exact ⟨(Decidable.em (x = true)).symm, K x hx⟩
    · have h1 : c t = 5 := by omega
      have u1 := hup _ _ _ _ _ h2
      have u2 := hle _ _ _ _ _ h2
      have ih := ih t1 q1 (dAnd f0 g) t' q' f (by omega) u2 h3 live b
      have hP := hP _ _ _ _ _ h2 (live && x) (b || (live && (f0 W).isNone))
      rw [e_224_6]
      cases live
      · simp only [Bool.false_and, Bool.or_false, Bool.false_eq_true, false_imp_iff, true_imp_iff, bI_F] at ih K hP ⊢
        simp (disch := omega) only [e_224_7, e_224_8, e_224_11, e_224_14, e_224_15, e_224_16, e_224_19, e_224_20, e_224_23, e_224_24, e_224_27, e_224_28, n10, n01, Nat.lt_irrefl, Nat.not_lt_zero, ne_eq, Nat.add_zero, Nat.one_ne_zero, Nat.zero_ne_one, Nat.reduceEqDiff, bI_T, bI_F, bI_0, bI_1, bI_01, not_and_self, true_and, and_true, not_true_eq_false, not_false_eq_true, false_imp_iff, true_imp_iff, imp_self, gPv_n, gPv_i, gPv_r, gPv_0, Option.toList_some, Option.toList_none, List.singleton_append, List.cons_append, List.nil_append, List.length_nil, List.length_cons, Nat.zero_le, Nat.reduceAdd, Nat.reduceLeDiff, or_true, true_or, false_or, or_false, and_self, and_false, false_and, implies_true, Option.some.injEq, exists_eq_left', nL, nI_add, nI_mul, nI_clamp, nI_ltI, nI_leI, nI_eq, nI_pos, nI_pos', Nat.reduceAdd, Nat.reduceMul, Nat.reducePow, sk_54 (hv' _ _), sr_54_2 (hv' _ _), sr_54_3 (hv' _ _), sr_54_4 (hv' _ _), sr_54_5 (hv' _ _), sr_54_7 (hv' _ _), sr_54_8 (hv' _ _), sr_54_9 (hv' _ _), sr_54_12 (hv' _ _), sr_54_13 (hv' _ _), sr_54_14 (hv' _ _), sr_54_22 (hv' _ _), sr_54_25 (hv' _ _), sr_54_26 (hv' _ _), sr_54_27 (hv' _ _), sr_54_34 (hv' _ _), sr_54_35 (hv' _ _), sr_54_36 (hv' _ _), sr_54_37 (hv' _ _), sr_54_38 (hv' _ _), sr_54_40 (hv' _ _), sr_54_43 (hv' _ _), sr_54_44 (hv' _ _), sr_54_45 (hv' _ _), sr_54_46 (hv' _ _), sr_54_47 (hv' _ _), t_passT X (show t ≤ 1000 by omega) h1, Bool.false_eq_true]
        refine hP _ ?_
        intro y
        cases x <;> cases y
        · have ih := ih false
          simp only [Bool.false_eq_true, bI_F, bI_T] at ih
          simp (disch := omega) only [e_224_31, e_224_32, e_224_33, e_224_36, e_224_37, e_224_40, e_224_41, e_224_44, e_224_45, e_224_46, n10, n01, Nat.lt_irrefl, Nat.not_lt_zero, ne_eq, Nat.add_zero, Nat.one_ne_zero, Nat.zero_ne_one, Nat.reduceEqDiff, bI_T, bI_F, bI_0, bI_1, bI_01, not_and_self, true_and, and_true, not_true_eq_false, not_false_eq_true, false_imp_iff, true_imp_iff, imp_self, gPv_n, gPv_i, gPv_r, gPv_0, Option.toList_some, Option.toList_none, List.singleton_append, List.cons_append, List.nil_append, List.length_nil, List.length_cons, Nat.zero_le, Nat.reduceAdd, Nat.reduceLeDiff, or_true, true_or, false_or, or_false, and_self, and_false, false_and, implies_true, Option.some.injEq, exists_eq_left', nL, nI_add, nI_mul, nI_clamp, nI_ltI, nI_leI, nI_eq, nI_pos, nI_pos', Nat.reduceAdd, Nat.reduceMul, Nat.reducePow, Bool.false_eq_true]
          exact ih _ _ K
        · have ih := ih false
          simp only [Bool.false_eq_true, bI_F, bI_T] at ih
          simp (disch := omega) only [e_224_31, e_224_32, e_224_33, e_224_36, e_224_37, e_224_40, e_224_41, e_224_44, e_224_45, e_224_46, n10, n01, Nat.lt_irrefl, Nat.not_lt_zero, ne_eq, Nat.add_zero, Nat.one_ne_zero, Nat.zero_ne_one, Nat.reduceEqDiff, bI_T, bI_F, bI_0, bI_1, bI_01, not_and_self, true_and, and_true, not_true_eq_false, not_false_eq_true, false_imp_iff, true_imp_iff, imp_self, gPv_n, gPv_i, gPv_r, gPv_0, Option.toList_some, Option.toList_none, List.singleton_append, List.cons_append, List.nil_append, List.length_nil, List.length_cons, Nat.zero_le, Nat.reduceAdd, Nat.reduceLeDiff, or_true, true_or, false_or, or_false, and_self, and_false, false_and, implies_true, Option.some.injEq, exists_eq_left', nL, nI_add, nI_mul, nI_clamp, nI_ltI, nI_leI, nI_eq, nI_pos, nI_pos', Nat.reduceAdd, Nat.reduceMul, Nat.reducePow, Bool.false_eq_true]
          exact ih _ _ K
        · have ih := ih false
          simp only [Bool.false_eq_true, bI_F, bI_T] at ih
          simp (disch := omega) only [e_224_31, e_224_32, e_224_33, e_224_36, e_224_37, e_224_40, e_224_41, e_224_44, e_224_45, e_224_46, n10, n01, Nat.lt_irrefl, Nat.not_lt_zero, ne_eq, Nat.add_zero, Nat.one_ne_zero, Nat.zero_ne_one, Nat.reduceEqDiff, bI_T, bI_F, bI_0, bI_1, bI_01, not_and_self, true_and, and_true, not_true_eq_false, not_false_eq_true, false_imp_iff, true_imp_iff, imp_self, gPv_n, gPv_i, gPv_r, gPv_0, Option.toList_some, Option.toList_none, List.singleton_append, List.cons_append, List.nil_append, List.length_nil, List.length_cons, Nat.zero_le, Nat.reduceAdd, Nat.reduceLeDiff, or_true, true_or, false_or, or_false, and_self, and_false, false_and, implies_true, Option.some.injEq, exists_eq_left', nL, nI_add, nI_mul, nI_clamp, nI_ltI, nI_leI, nI_eq, nI_pos, nI_pos', Nat.reduceAdd, Nat.reduceMul, Nat.reducePow, Bool.false_eq_true]
          exact ih _ _ K
        · have ih := ih true
          simp only [Bool.false_eq_true, bI_F, bI_T] at ih
          simp (disch := omega) only [e_224_31, e_224_32, e_224_33, e_224_36, e_224_37, e_224_40, e_224_41, e_224_44, e_224_45, e_224_46, n10, n01, Nat.lt_irrefl, Nat.not_lt_zero, ne_eq, Nat.add_zero, Nat.one_ne_zero, Nat.zero_ne_one, Nat.reduceEqDiff, bI_T, bI_F, bI_0, bI_1, bI_01, not_and_self, true_and, and_true, not_true_eq_false, not_false_eq_true, false_imp_iff, true_imp_iff, imp_self, gPv_n, gPv_i, gPv_r, gPv_0, Option.toList_some, Option.toList_none, List.singleton_append, List.cons_append, List.nil_append, List.length_nil, List.length_cons, Nat.zero_le, Nat.reduceAdd, Nat.reduceLeDiff, or_true, true_or, false_or, or_false, and_self, and_false, false_and, implies_true, Option.some.injEq, exists_eq_left', nL, nI_add, nI_mul, nI_clamp, nI_ltI, nI_leI, nI_eq, nI_pos, nI_pos', Nat.reduceAdd, Nat.reduceMul, Nat.reducePow, Bool.false_eq_true]
          exact ih _ _ K
      · simp only [Bool.true_and, true_imp_iff, bI_T] at ih K hP hx ⊢
        cases x
        · simp (disch := omega) only [e_224_7, e_224_8, e_224_11, e_224_14, e_224_15, e_224_16, e_224_19, e_224_20, e_224_23, e_224_24, e_224_27, e_224_28, n10, n01, Nat.lt_irrefl, Nat.not_lt_zero, ne_eq, Nat.add_zero, Nat.one_ne_zero, Nat.zero_ne_one, Nat.reduceEqDiff, bI_T, bI_F, bI_0, bI_1, bI_01, not_and_self, true_and, and_true, not_true_eq_false, not_false_eq_true, false_imp_iff, true_imp_iff, imp_self, gPv_n, gPv_i, gPv_r, gPv_0, Option.toList_some, Option.toList_none, List.singleton_append, List.cons_append, List.nil_append, List.length_nil, List.length_cons, Nat.zero_le, Nat.reduceAdd, Nat.reduceLeDiff, or_true, true_or, false_or, or_false, and_self, and_false, false_and, implies_true, Option.some.injEq, exists_eq_left', nL, nI_add, nI_mul, nI_clamp, nI_ltI, nI_leI, nI_eq, nI_pos, nI_pos', Nat.reduceAdd, Nat.reduceMul, Nat.reducePow, sk_54 (hv' _ _), sr_54_2 (hv' _ _), sr_54_3 (hv' _ _), sr_54_4 (hv' _ _), sr_54_5 (hv' _ _), sr_54_7 (hv' _ _), sr_54_8 (hv' _ _), sr_54_9 (hv' _ _), sr_54_12 (hv' _ _), sr_54_13 (hv' _ _), sr_54_14 (hv' _ _), sr_54_22 (hv' _ _), sr_54_25 (hv' _ _), sr_54_26 (hv' _ _), sr_54_27 (hv' _ _), sr_54_34 (hv' _ _), sr_54_35 (hv' _ _), sr_54_36 (hv' _ _), sr_54_37 (hv' _ _), sr_54_38 (hv' _ _), sr_54_40 (hv' _ _), sr_54_43 (hv' _ _), sr_54_44 (hv' _ _), sr_54_45 (hv' _ _), sr_54_46 (hv' _ _), sr_54_47 (hv' _ _), t_passT X (show t ≤ 1000 by omega) h1, Bool.false_eq_true]
          simp only [Bool.not_false, Bool.false_eq_true, bI_F, bI_T] at hP
          refine hP _ ?_
          intro y hy
          have fl := an_fl (f := f0) (g := g) (W := W) (b := b) (x := false) (y := y) (by simpa using hx) (by simpa using hy)
          simp only [Bool.not_false, Bool.true_and, Bool.false_and, Bool.or_false] at fl ⊢
          rw [fl.1]
          cases y
          · have ih := ih false
            simp only [Bool.false_eq_true, bI_F, bI_T] at ih
            simp (disch := omega) only [e_224_31, e_224_32, e_224_33, e_224_36, e_224_37, e_224_40, e_224_41, e_224_44, e_224_45, e_224_46, n10, n01, Nat.lt_irrefl, Nat.not_lt_zero, ne_eq, Nat.add_zero, Nat.one_ne_zero, Nat.zero_ne_one, Nat.reduceEqDiff, bI_T, bI_F, bI_0, bI_1, bI_01, not_and_self, true_and, and_true, not_true_eq_false, not_false_eq_true, false_imp_iff, true_imp_iff, imp_self, gPv_n, gPv_i, gPv_r, gPv_0, Option.toList_some, Option.toList_none, List.singleton_append, List.cons_append, List.nil_append, List.length_nil, List.length_cons, Nat.zero_le, Nat.reduceAdd, Nat.reduceLeDiff, or_true, true_or, false_or, or_false, and_self, and_false, false_and, implies_true, Option.some.injEq, exists_eq_left', nL, nI_add, nI_mul, nI_clamp, nI_ltI, nI_leI, nI_eq, nI_pos, nI_pos', Nat.reduceAdd, Nat.reduceMul, Nat.reducePow, Bool.false_eq_true]
            exact ih _ _ (fun z => by have := fl.2 z; simpa using this) K
          · have ih := ih false
            simp only [Bool.false_eq_true, bI_F, bI_T] at ih
            simp (disch := omega) only [e_224_31, e_224_32, e_224_33, e_224_36, e_224_37, e_224_40, e_224_41, e_224_44, e_224_45, e_224_46, n10, n01, Nat.lt_irrefl, Nat.not_lt_zero, ne_eq, Nat.add_zero, Nat.one_ne_zero, Nat.zero_ne_one, Nat.reduceEqDiff, bI_T, bI_F, bI_0, bI_1, bI_01, not_and_self, true_and, and_true, not_true_eq_false, not_false_eq_true, false_imp_iff, true_imp_iff, imp_self, gPv_n, gPv_i, gPv_r, gPv_0, Option.toList_some, Option.toList_none, List.singleton_append, List.cons_append, List.nil_append, List.length_nil, List.length_cons, Nat.zero_le, Nat.reduceAdd, Nat.reduceLeDiff, or_true, true_or, false_or, or_false, and_self, and_false, false_and, implies_true, Option.some.injEq, exists_eq_left', nL, nI_add, nI_mul, nI_clamp, nI_ltI, nI_leI, nI_eq, nI_pos, nI_pos', Nat.reduceAdd, Nat.reduceMul, Nat.reducePow, Bool.false_eq_true]
            exact ih _ _ (fun z => by have := fl.2 z; simpa using this) K
        · simp (disch := omega) only [e_224_7, e_224_8, e_224_11, e_224_14, e_224_15, e_224_16, e_224_19, e_224_20, e_224_23, e_224_24, e_224_27, e_224_28, n10, n01, Nat.lt_irrefl, Nat.not_lt_zero, ne_eq, Nat.add_zero, Nat.one_ne_zero, Nat.zero_ne_one, Nat.reduceEqDiff, bI_T, bI_F, bI_0, bI_1, bI_01, not_and_self, true_and, and_true, not_true_eq_false, not_false_eq_true, false_imp_iff, true_imp_iff, imp_self, gPv_n, gPv_i, gPv_r, gPv_0, Option.toList_some, Option.toList_none, List.singleton_append, List.cons_append, List.nil_append, List.length_nil, List.length_cons, Nat.zero_le, Nat.reduceAdd, Nat.reduceLeDiff, or_true, true_or, false_or, or_false, and_self, and_false, false_and, implies_true, Option.some.injEq, exists_eq_left', nL, nI_add, nI_mul, nI_clamp, nI_ltI, nI_leI, nI_eq, nI_pos, nI_pos', Nat.reduceAdd, Nat.reduceMul, Nat.reducePow, sk_54 (hv' _ _), sr_54_2 (hv' _ _), sr_54_3 (hv' _ _), sr_54_4 (hv' _ _), sr_54_5 (hv' _ _), sr_54_7 (hv' _ _), sr_54_8 (hv' _ _), sr_54_9 (hv' _ _), sr_54_12 (hv' _ _), sr_54_13 (hv' _ _), sr_54_14 (hv' _ _), sr_54_22 (hv' _ _), sr_54_25 (hv' _ _), sr_54_26 (hv' _ _), sr_54_27 (hv' _ _), sr_54_34 (hv' _ _), sr_54_35 (hv' _ _), sr_54_36 (hv' _ _), sr_54_37 (hv' _ _), sr_54_38 (hv' _ _), sr_54_40 (hv' _ _), sr_54_43 (hv' _ _), sr_54_44 (hv' _ _), sr_54_45 (hv' _ _), sr_54_46 (hv' _ _), sr_54_47 (hv' _ _), t_passT X (show t ≤ 1000 by omega) h1, Bool.false_eq_true]
          simp only [Bool.not_true, Bool.false_eq_true, bI_F, bI_T] at hP
          refine hP _ ?_
          intro y hy
          have fl := an_fl (f := f0) (g := g) (W := W) (b := b) (x := true) (y := y) (by simpa using hx) (by simpa using hy)
          simp only [Bool.not_true, Bool.true_and, Bool.false_and, Bool.or_false] at fl ⊢
          rw [fl.1]
          cases y
          · have ih := ih false
            simp only [Bool.false_eq_true, bI_F, bI_T] at ih
            simp (disch := omega) only [e_224_31, e_224_32, e_224_33, e_224_36, e_224_37, e_224_40, e_224_41, e_224_44, e_224_45, e_224_46, n10, n01, Nat.lt_irrefl, Nat.not_lt_zero, ne_eq, Nat.add_zero, Nat.one_ne_zero, Nat.zero_ne_one, Nat.reduceEqDiff, bI_T, bI_F, bI_0, bI_1, bI_01, not_and_self, true_and, and_true, not_true_eq_false, not_false_eq_true, false_imp_iff, true_imp_iff, imp_self, gPv_n, gPv_i, gPv_r, gPv_0, Option.toList_some, Option.toList_none, List.singleton_append, List.cons_append, List.nil_append, List.length_nil, List.length_cons, Nat.zero_le, Nat.reduceAdd, Nat.reduceLeDiff, or_true, true_or, false_or, or_false, and_self, and_false, false_and, implies_true, Option.some.injEq, exists_eq_left', nL, nI_add, nI_mul, nI_clamp, nI_ltI, nI_leI, nI_eq, nI_pos, nI_pos', Nat.reduceAdd, Nat.reduceMul, Nat.reducePow, Bool.false_eq_true]
            exact ih _ _ (fun z => by have := fl.2 z; simpa using this) K
          · have ih := ih true
            simp only [Bool.false_eq_true, bI_F, bI_T] at ih
            simp (disch := omega) only [e_224_31, e_224_32, e_224_33, e_224_36, e_224_37, e_224_40, e_224_41, e_224_44, e_224_45, e_224_46, n10, n01, Nat.lt_irrefl, Nat.not_lt_zero, ne_eq, Nat.add_zero, Nat.one_ne_zero, Nat.zero_ne_one, Nat.reduceEqDiff, bI_T, bI_F, bI_0, bI_1, bI_01, not_and_self, true_and, and_true, not_true_eq_false, not_false_eq_true, false_imp_iff, true_imp_iff, imp_self, gPv_n, gPv_i, gPv_r, gPv_0, Option.toList_some, Option.toList_none, List.singleton_append, List.cons_append, List.nil_append, List.length_nil, List.length_cons, Nat.zero_le, Nat.reduceAdd, Nat.reduceLeDiff, or_true, true_or, false_or, or_false, and_self, and_false, false_and, implies_true, Option.some.injEq, exists_eq_left', nL, nI_add, nI_mul, nI_clamp, nI_ltI, nI_leI, nI_eq, nI_pos, nI_pos', Nat.reduceAdd, Nat.reduceMul, Nat.reducePow, Bool.false_eq_true]
            exact ih _ _ (fun z => by have := fl.2 z; simpa using this) K
theorem ev_c224 {d F : Nat} {P : Nat → Nat → zR zT} (X : EvX B b0 n c v W σ) (hP : EvT B b0 W σ 225 (d + 2) P) (hup : pUp P) (hle : pLe n P) (hF : n < F) : EvT B b0 W σ 224 (d + 3) (pChain c 5 5 P (fun _ => dAnd) F) := by
  intro t q t' q' f h live b Q K
  obtain ⟨t1, q1, f1, h1, h2⟩ := pChain_r h
  have hv' := fun g b => ev_v (g := g) (b := b) X.1
  simp (disch := omega) only [c_224, e_224_0, e_224_1, e_224_2, e_224_5, n10, n01, Nat.lt_irrefl, Nat.not_lt_zero, ne_eq, Nat.add_zero, Nat.one_ne_zero, Nat.zero_ne_one, Nat.reduceEqDiff, bI_T, bI_F, bI_0, bI_1, bI_01, not_and_self, true_and, and_true, not_true_eq_false, not_false_eq_true, false_imp_iff, true_imp_iff, imp_self, gPv_n, gPv_i, gPv_r, gPv_0, Option.toList_some, Option.toList_none, List.singleton_append, List.cons_append, List.nil_append, List.length_nil, List.length_cons, Nat.zero_le, Nat.reduceAdd, Nat.reduceLeDiff, or_true, true_or, false_or, or_false, and_self, and_false, false_and, implies_true, Option.some.injEq, exists_eq_left', sk_54 (hv' _ _), sr_54_2 (hv' _ _), sr_54_3 (hv' _ _), sr_54_4 (hv' _ _), sr_54_5 (hv' _ _), sr_54_7 (hv' _ _), sr_54_8 (hv' _ _), sr_54_9 (hv' _ _), sr_54_12 (hv' _ _), sr_54_13 (hv' _ _), sr_54_14 (hv' _ _), sr_54_22 (hv' _ _), sr_54_25 (hv' _ _), sr_54_26 (hv' _ _), sr_54_27 (hv' _ _), sr_54_34 (hv' _ _), sr_54_35 (hv' _ _), sr_54_36 (hv' _ _), sr_54_37 (hv' _ _), sr_54_38 (hv' _ _), sr_54_40 (hv' _ _), sr_54_43 (hv' _ _), sr_54_44 (hv' _ _), sr_54_45 (hv' _ _), sr_54_46 (hv' _ _), sr_54_47 (hv' _ _)]
  refine hP _ _ _ _ _ h1 live b _ ?_
  intro x hx
  simp (disch := omega) only [e_224_5, n10, n01, Nat.lt_irrefl, Nat.not_lt_zero, ne_eq, Nat.add_zero, Nat.one_ne_zero, Nat.zero_ne_one, Nat.reduceEqDiff, bI_T, bI_F, bI_0, bI_1, bI_01, not_and_self, true_and, and_true, not_true_eq_false, not_false_eq_true, false_imp_iff, true_imp_iff, imp_self, gPv_n, gPv_i, gPv_r, gPv_0, Option.toList_some, Option.toList_none, List.singleton_append, List.cons_append, List.nil_append, List.length_nil, List.length_cons, Nat.zero_le, Nat.reduceAdd, Nat.reduceLeDiff, or_true, true_or, false_or, or_false, and_self, and_false, false_and, implies_true, Option.some.injEq, exists_eq_left']
  exact ev_l224 X hP hup hle F t1 q1 f1 t' q' f (by omega) (hle _ _ _ _ _ h1) h2 live b x _ Q hx K
set_option maxHeartbeats 2000000 in
theorem ev_l223 {d : Nat} {P : Nat → Nat → zR zT} (X : EvX B b0 n c v W σ) (hP : EvT B b0 W σ 224 (d + 2) P) (hup : pUp P) (hle : pLe n P) : ∀ m t q f0 t' q' f, n < t + m → t ≤ n → pLoop c 4 4 P (fun _ => dOr) m t q f0 = .inr (t', q', f) → ∀ (live b x : Bool) (x3 : Option Value) (Q : Option Value → gS → Prop), (live = true → (b || (live && (f0 W).isNone)) = false → f0 W = some x) →
    (∀ x : Bool, (live = true → (b || (live && (f W).isNone)) = false → f W = some x) → Q (some (.int (bI (x = true)))) (ev σ B (b0 + t') (b || (live && (f W).isNone)))) →
    wp (d + 2) pr_223 Q 6 [some (.ref (B + 54)), some (.int (bI (live = true))), some (.int (bI (x = true))), x3] [] (ev σ B (b0 + t) (b || (live && (f0 W).isNone))) := by
  have hv' := fun g b => ev_v (g := g) (b := b) X.1
  have hn := X.2.2.2.2.2.1
  intro m
  induction m with
  | zero =>
    intro t q f0 t' q' f hm htn h live b x x3 Q hx K
    exact absurd htn (by omega)
  | succ m ih =>
    intro t q f0 t' q' f hm htn h live b x x3 Q hx K
    rcases pLoop_r h with ⟨h1, rfl, rfl, rfl⟩ | ⟨h1, t1, q1, g, h2, h3⟩
    · have c1 : ¬ c t' = 4 := fun z => h1 (Or.inl z)
      simp (disch := omega) only [e_223_6, e_223_7, e_223_8, e_223_11, e_223_49, e_223_50, n10, n01, Nat.lt_irrefl, Nat.not_lt_zero, ne_eq, Nat.add_zero, Nat.one_ne_zero, Nat.zero_ne_one, Nat.reduceEqDiff, bI_T, bI_F, bI_0, bI_1, bI_01, not_and_self, true_and, and_true, not_true_eq_false, not_false_eq_true, false_imp_iff, true_imp_iff, imp_self, gPv_n, gPv_i, gPv_r, gPv_0, Option.toList_some, Option.toList_none, List.singleton_append, List.cons_append, List.nil_append, List.length_nil, List.length_cons, Nat.zero_le, Nat.reduceAdd, Nat.reduceLeDiff, or_true, true_or, false_or, or_false, and_self, and_false, false_and, implies_true, Option.some.injEq, exists_eq_left', nL, nI_add, nI_mul, nI_clamp, nI_ltI, nI_leI, nI_eq, nI_pos, nI_pos', Nat.reduceAdd, Nat.reduceMul, Nat.reducePow, sk_54 (hv' _ _), sr_54_2 (hv' _ _), sr_54_3 (hv' _ _), sr_54_4 (hv' _ _), sr_54_5 (hv' _ _), sr_54_7 (hv' _ _), sr_54_8 (hv' _ _), sr_54_9 (hv' _ _), sr_54_12 (hv' _ _), sr_54_13 (hv' _ _), sr_54_14 (hv' _ _), sr_54_22 (hv' _ _), sr_54_25 (hv' _ _), sr_54_26 (hv' _ _), sr_54_27 (hv' _ _), sr_54_34 (hv' _ _), sr_54_35 (hv' _ _), sr_54_36 (hv' _ _), sr_54_37 (hv' _ _), sr_54_38 (hv' _ _), sr_54_40 (hv' _ _), sr_54_43 (hv' _ _), sr_54_44 (hv' _ _), sr_54_45 (hv' _ _), sr_54_46 (hv' _ _), sr_54_47 (hv' _ _), t_passF X (show t' ≤ 1000 by omega) (show 4 < 1000 by omega) c1]
      exact ⟨(Decidable.em (x = true)).symm, K x hx⟩
    · have h1 : c t = 4 := by omega
      have u1 := hup _ _ _ _ _ h2
      have u2 := hle _ _ _ _ _ h2
      have ih := ih t1 q1 (dOr f0 g) t' q' f (by omega) u2 h3 live b
      have hP := hP _ _ _ _ _ h2 (live && !x) (b || (live && (f0 W).isNone))
      rw [e_223_6]
      cases live
      · simp only [Bool.false_and, Bool.or_false, Bool.false_eq_true, false_imp_iff, true_imp_iff, bI_F] at ih K hP ⊢
        simp (disch := omega) only [e_223_7, e_223_8, e_223_11, e_223_14, e_223_15, e_223_16, e_223_19, e_223_20, e_223_23, e_223_24, e_223_27, e_223_28, n10, n01, Nat.lt_irrefl, Nat.not_lt_zero, ne_eq, Nat.add_zero, Nat.one_ne_zero, Nat.zero_ne_one, Nat.reduceEqDiff, bI_T, bI_F, bI_0, bI_1, bI_01, not_and_self, true_and, and_true, not_true_eq_false, not_false_eq_true, false_imp_iff, true_imp_iff, imp_self, gPv_n, gPv_i, gPv_r, gPv_0, Option.toList_some, Option.toList_none, List.singleton_append, List.cons_append, List.nil_append, List.length_nil, List.length_cons, Nat.zero_le, Nat.reduceAdd, Nat.reduceLeDiff, or_true, true_or, false_or, or_false, and_self, and_false, false_and, implies_true, Option.some.injEq, exists_eq_left', nL, nI_add, nI_mul, nI_clamp, nI_ltI, nI_leI, nI_eq, nI_pos, nI_pos', Nat.reduceAdd, Nat.reduceMul, Nat.reducePow, sk_54 (hv' _ _), sr_54_2 (hv' _ _), sr_54_3 (hv' _ _), sr_54_4 (hv' _ _), sr_54_5 (hv' _ _), sr_54_7 (hv' _ _), sr_54_8 (hv' _ _), sr_54_9 (hv' _ _), sr_54_12 (hv' _ _), sr_54_13 (hv' _ _), sr_54_14 (hv' _ _), sr_54_22 (hv' _ _), sr_54_25 (hv' _ _), sr_54_26 (hv' _ _), sr_54_27 (hv' _ _), sr_54_34 (hv' _ _), sr_54_35 (hv' _ _), sr_54_36 (hv' _ _), sr_54_37 (hv' _ _), sr_54_38 (hv' _ _), sr_54_40 (hv' _ _), sr_54_43 (hv' _ _), sr_54_44 (hv' _ _), sr_54_45 (hv' _ _), sr_54_46 (hv' _ _), sr_54_47 (hv' _ _), t_passT X (show t ≤ 1000 by omega) h1, Bool.false_eq_true]
        refine hP _ ?_
        intro y
        cases x <;> cases y
        · have ih := ih false
          simp only [Bool.false_eq_true, bI_F, bI_T] at ih
          simp (disch := omega) only [e_223_31, e_223_32, e_223_33, e_223_36, e_223_37, e_223_40, e_223_41, e_223_44, e_223_45, e_223_46, n10, n01, Nat.lt_irrefl, Nat.not_lt_zero, ne_eq, Nat.add_zero, Nat.one_ne_zero, Nat.zero_ne_one, Nat.reduceEqDiff, bI_T, bI_F, bI_0, bI_1, bI_01, not_and_self, true_and, and_true, not_true_eq_false, not_false_eq_true, false_imp_iff, true_imp_iff, imp_self, gPv_n, gPv_i, gPv_r, gPv_0, Option.toList_some, Option.toList_none, List.singleton_append, List.cons_append, List.nil_append, List.length_nil, List.length_cons, Nat.zero_le, Nat.reduceAdd, Nat.reduceLeDiff, or_true, true_or, false_or, or_false, and_self, and_false, false_and, implies_true, Option.some.injEq, exists_eq_left', nL, nI_add, nI_mul, nI_clamp, nI_ltI, nI_leI, nI_eq, nI_pos, nI_pos', Nat.reduceAdd, Nat.reduceMul, Nat.reducePow, Bool.false_eq_true]
          exact ih _ _ K
        · have ih := ih true
          simp only [Bool.false_eq_true, bI_F, bI_T] at ih
          simp (disch := omega) only [e_223_31, e_223_32, e_223_33, e_223_36, e_223_37, e_223_40, e_223_41, e_223_44, e_223_45, e_223_46, n10, n01, Nat.lt_irrefl, Nat.not_lt_zero, ne_eq, Nat.add_zero, Nat.one_ne_zero, Nat.zero_ne_one, Nat.reduceEqDiff, bI_T, bI_F, bI_0, bI_1, bI_01, not_and_self, true_and, and_true, not_true_eq_false, not_false_eq_true, false_imp_iff, true_imp_iff, imp_self, gPv_n, gPv_i, gPv_r, gPv_0, Option.toList_some, Option.toList_none, List.singleton_append, List.cons_append, List.nil_append, List.length_nil, List.length_cons, Nat.zero_le, Nat.reduceAdd, Nat.reduceLeDiff, or_true, true_or, false_or, or_false, and_self, and_false, false_and, implies_true, Option.some.injEq, exists_eq_left', nL, nI_add, nI_mul, nI_clamp, nI_ltI, nI_leI, nI_eq, nI_pos, nI_pos', Nat.reduceAdd, Nat.reduceMul, Nat.reducePow, Bool.false_eq_true]
          exact ih _ _ K
        · have ih := ih true
          simp only [Bool.false_eq_true, bI_F, bI_T] at ih
          simp (disch := omega) only [e_223_31, e_223_32, e_223_33, e_223_36, e_223_37, e_223_40, e_223_41, e_223_44, e_223_45, e_223_46, n10, n01, Nat.lt_irrefl, Nat.not_lt_zero, ne_eq, Nat.add_zero, Nat.one_ne_zero, Nat.zero_ne_one, Nat.reduceEqDiff, bI_T, bI_F, bI_0, bI_1, bI_01, not_and_self, true_and, and_true, not_true_eq_false, not_false_eq_true, false_imp_iff, true_imp_iff, imp_self, gPv_n, gPv_i, gPv_r, gPv_0, Option.toList_some, Option.toList_none, List.singleton_append, List.cons_append, List.nil_append, List.length_nil, List.length_cons, Nat.zero_le, Nat.reduceAdd, Nat.reduceLeDiff, or_true, true_or, false_or, or_false, and_self, and_false, false_and, implies_true, Option.some.injEq, exists_eq_left', nL, nI_add, nI_mul, nI_clamp, nI_ltI, nI_leI, nI_eq, nI_pos, nI_pos', Nat.reduceAdd, Nat.reduceMul, Nat.reducePow, Bool.false_eq_true]
          exact ih _ _ K
        · have ih := ih true
          simp only [Bool.false_eq_true, bI_F, bI_T] at ih
          simp (disch := omega) only [e_223_31, e_223_32, e_223_33, e_223_36, e_223_37, e_223_40, e_223_41, e_223_44, e_223_45, e_223_46, n10, n01, Nat.lt_irrefl, Nat.not_lt_zero, ne_eq, Nat.add_zero, Nat.one_ne_zero, Nat.zero_ne_one, Nat.reduceEqDiff, bI_T, bI_F, bI_0, bI_1, bI_01, not_and_self, true_and, and_true, not_true_eq_false, not_false_eq_true, false_imp_iff, true_imp_iff, imp_self, gPv_n, gPv_i, gPv_r, gPv_0, Option.toList_some, Option.toList_none, List.singleton_append, List.cons_append, List.nil_append, List.length_nil, List.length_cons, Nat.zero_le, Nat.reduceAdd, Nat.reduceLeDiff, or_true, true_or, false_or, or_false, and_self, and_false, false_and, implies_true, Option.some.injEq, exists_eq_left', nL, nI_add, nI_mul, nI_clamp, nI_ltI, nI_leI, nI_eq, nI_pos, nI_pos', Nat.reduceAdd, Nat.reduceMul, Nat.reducePow, Bool.false_eq_true]
          exact ih _ _ K
      · simp only [Bool.true_and, true_imp_iff, bI_T] at ih K hP hx ⊢
        cases x
        · simp (disch := omega) only [e_223_7, e_223_8, e_223_11, e_223_14, e_223_15, e_223_16, e_223_19, e_223_20, e_223_23, e_223_24, e_223_27, e_223_28, n10, n01, Nat.lt_irrefl, Nat.not_lt_zero, ne_eq, Nat.add_zero, Nat.one_ne_zero, Nat.zero_ne_one, Nat.reduceEqDiff, bI_T, bI_F, bI_0, bI_1, bI_01, not_and_self, true_and, and_true, not_true_eq_false, not_false_eq_true, false_imp_iff, true_imp_iff, imp_self, gPv_n, gPv_i, gPv_r, gPv_0, Option.toList_some, Option.toList_none, List.singleton_append, List.cons_append, List.nil_append, List.length_nil, List.length_cons, Nat.zero_le, Nat.reduceAdd, Nat.reduceLeDiff, or_true, true_or, false_or, or_false, and_self, and_false, false_and, implies_true, Option.some.injEq, exists_eq_left', nL, nI_add, nI_mul, nI_clamp, nI_ltI, nI_leI, nI_eq, nI_pos, nI_pos', Nat.reduceAdd, Nat.reduceMul, Nat.reducePow, sk_54 (hv' _ _), sr_54_2 (hv' _ _), sr_54_3 (hv' _ _), sr_54_4 (hv' _ _), sr_54_5 (hv' _ _), sr_54_7 (hv' _ _), sr_54_8 (hv' _ _), sr_54_9 (hv' _ _), sr_54_12 (hv' _ _), sr_54_13 (hv' _ _), sr_54_14 (hv' _ _), sr_54_22 (hv' _ _), sr_54_25 (hv' _ _), sr_54_26 (hv' _ _), sr_54_27 (hv' _ _), sr_54_34 (hv' _ _), sr_54_35 (hv' _ _), sr_54_36 (hv' _ _), sr_54_37 (hv' _ _), sr_54_38 (hv' _ _), sr_54_40 (hv' _ _), sr_54_43 (hv' _ _), sr_54_44 (hv' _ _), sr_54_45 (hv' _ _), sr_54_46 (hv' _ _), sr_54_47 (hv' _ _), t_passT X (show t ≤ 1000 by omega) h1, Bool.false_eq_true]
          simp only [Bool.not_false, Bool.false_eq_true, bI_F, bI_T] at hP
          refine hP _ ?_
          intro y hy
          have fl := or_fl (f := f0) (g := g) (W := W) (b := b) (x := false) (y := y) (by simpa using hx) (by simpa using hy)
          simp only [Bool.not_false, Bool.true_and, Bool.false_and, Bool.or_false] at fl ⊢
          rw [fl.1]
          cases y
          · have ih := ih false
            simp only [Bool.false_eq_true, bI_F, bI_T] at ih
            simp (disch := omega) only [e_223_31, e_223_32, e_223_33, e_223_36, e_223_37, e_223_40, e_223_41, e_223_44, e_223_45, e_223_46, n10, n01, Nat.lt_irrefl, Nat.not_lt_zero, ne_eq, Nat.add_zero, Nat.one_ne_zero, Nat.zero_ne_one, Nat.reduceEqDiff, bI_T, bI_F, bI_0, bI_1, bI_01, not_and_self, true_and, and_true, not_true_eq_false, not_false_eq_true, false_imp_iff, true_imp_iff, imp_self, gPv_n, gPv_i, gPv_r, gPv_0, Option.toList_some, Option.toList_none, List.singleton_append, List.cons_append, List.nil_append, List.length_nil, List.length_cons, Nat.zero_le, Nat.reduceAdd, Nat.reduceLeDiff, or_true, true_or, false_or, or_false, and_self, and_false, false_and, implies_true, Option.some.injEq, exists_eq_left', nL, nI_add, nI_mul, nI_clamp, nI_ltI, nI_leI, nI_eq, nI_pos, nI_pos', Nat.reduceAdd, Nat.reduceMul, Nat.reducePow, Bool.false_eq_true]
            exact ih _ _ (fun z => by have := fl.2 z; simpa using this) K
          · have ih := ih true
            simp only [Bool.false_eq_true, bI_F, bI_T] at ih
            simp (disch := omega) only [e_223_31, e_223_32, e_223_33, e_223_36, e_223_37, e_223_40, e_223_41, e_223_44, e_223_45, e_223_46, n10, n01, Nat.lt_irrefl, Nat.not_lt_zero, ne_eq, Nat.add_zero, Nat.one_ne_zero, Nat.zero_ne_one, Nat.reduceEqDiff, bI_T, bI_F, bI_0, bI_1, bI_01, not_and_self, true_and, and_true, not_true_eq_false, not_false_eq_true, false_imp_iff, true_imp_iff, imp_self, gPv_n, gPv_i, gPv_r, gPv_0, Option.toList_some, Option.toList_none, List.singleton_append, List.cons_append, List.nil_append, List.length_nil, List.length_cons, Nat.zero_le, Nat.reduceAdd, Nat.reduceLeDiff, or_true, true_or, false_or, or_false, and_self, and_false, false_and, implies_true, Option.some.injEq, exists_eq_left', nL, nI_add, nI_mul, nI_clamp, nI_ltI, nI_leI, nI_eq, nI_pos, nI_pos', Nat.reduceAdd, Nat.reduceMul, Nat.reducePow, Bool.false_eq_true]
            exact ih _ _ (fun z => by have := fl.2 z; simpa using this) K
        · simp (disch := omega) only [e_223_7, e_223_8, e_223_11, e_223_14, e_223_15, e_223_16, e_223_19, e_223_20, e_223_23, e_223_24, e_223_27, e_223_28, n10, n01, Nat.lt_irrefl, Nat.not_lt_zero, ne_eq, Nat.add_zero, Nat.one_ne_zero, Nat.zero_ne_one, Nat.reduceEqDiff, bI_T, bI_F, bI_0, bI_1, bI_01, not_and_self, true_and, and_true, not_true_eq_false, not_false_eq_true, false_imp_iff, true_imp_iff, imp_self, gPv_n, gPv_i, gPv_r, gPv_0, Option.toList_some, Option.toList_none, List.singleton_append, List.cons_append, List.nil_append, List.length_nil, List.length_cons, Nat.zero_le, Nat.reduceAdd, Nat.reduceLeDiff, or_true, true_or, false_or, or_false, and_self, and_false, false_and, implies_true, Option.some.injEq, exists_eq_left', nL, nI_add, nI_mul, nI_clamp, nI_ltI, nI_leI, nI_eq, nI_pos, nI_pos', Nat.reduceAdd, Nat.reduceMul, Nat.reducePow, sk_54 (hv' _ _), sr_54_2 (hv' _ _), sr_54_3 (hv' _ _), sr_54_4 (hv' _ _), sr_54_5 (hv' _ _), sr_54_7 (hv' _ _), sr_54_8 (hv' _ _), sr_54_9 (hv' _ _), sr_54_12 (hv' _ _), sr_54_13 (hv' _ _), sr_54_14 (hv' _ _), sr_54_22 (hv' _ _), sr_54_25 (hv' _ _), sr_54_26 (hv' _ _), sr_54_27 (hv' _ _), sr_54_34 (hv' _ _), sr_54_35 (hv' _ _), sr_54_36 (hv' _ _), sr_54_37 (hv' _ _), sr_54_38 (hv' _ _), sr_54_40 (hv' _ _), sr_54_43 (hv' _ _), sr_54_44 (hv' _ _), sr_54_45 (hv' _ _), sr_54_46 (hv' _ _), sr_54_47 (hv' _ _), t_passT X (show t ≤ 1000 by omega) h1, Bool.false_eq_true]
          simp only [Bool.not_true, Bool.false_eq_true, bI_F, bI_T] at hP
          refine hP _ ?_
          intro y hy
          have fl := or_fl (f := f0) (g := g) (W := W) (b := b) (x := true) (y := y) (by simpa using hx) (by simpa using hy)
          simp only [Bool.not_true, Bool.true_and, Bool.false_and, Bool.or_false] at fl ⊢
          rw [fl.1]
          cases y
          · have ih := ih true
            simp only [Bool.false_eq_true, bI_F, bI_T] at ih
            simp (disch := omega) only [e_223_31, e_223_32, e_223_33, e_223_36, e_223_37, e_223_40, e_223_41, e_223_44, e_223_45, e_223_46, n10, n01, Nat.lt_irrefl, Nat.not_lt_zero, ne_eq, Nat.add_zero, Nat.one_ne_zero, Nat.zero_ne_one, Nat.reduceEqDiff, bI_T, bI_F, bI_0, bI_1, bI_01, not_and_self, true_and, and_true, not_true_eq_false, not_false_eq_true, false_imp_iff, true_imp_iff, imp_self, gPv_n, gPv_i, gPv_r, gPv_0, Option.toList_some, Option.toList_none, List.singleton_append, List.cons_append, List.nil_append, List.length_nil, List.length_cons, Nat.zero_le, Nat.reduceAdd, Nat.reduceLeDiff, or_true, true_or, false_or, or_false, and_self, and_false, false_and, implies_true, Option.some.injEq, exists_eq_left', nL, nI_add, nI_mul, nI_clamp, nI_ltI, nI_leI, nI_eq, nI_pos, nI_pos', Nat.reduceAdd, Nat.reduceMul, Nat.reducePow, Bool.false_eq_true]
            exact ih _ _ (fun z => by have := fl.2 z; simpa using this) K
          · have ih := ih true
            simp only [Bool.false_eq_true, bI_F, bI_T] at ih
            simp (disch := omega) only [e_223_31, e_223_32, e_223_33, e_223_36, e_223_37, e_223_40, e_223_41, e_223_44, e_223_45, e_223_46, n10, n01, Nat.lt_irrefl, Nat.not_lt_zero, ne_eq, Nat.add_zero, Nat.one_ne_zero, Nat.zero_ne_one, Nat.reduceEqDiff, bI_T, bI_F, bI_0, bI_1, bI_01, not_and_self, true_and, and_true, not_true_eq_false, not_false_eq_true, false_imp_iff, true_imp_iff, imp_self, gPv_n, gPv_i, gPv_r, gPv_0, Option.toList_some, Option.toList_none, List.singleton_append, List.cons_append, List.nil_append, List.length_nil, List.length_cons, Nat.zero_le, Nat.reduceAdd, Nat.reduceLeDiff, or_true, true_or, false_or, or_false, and_self, and_false, false_and, implies_true, Option.some.injEq, exists_eq_left', nL, nI_add, nI_mul, nI_clamp, nI_ltI, nI_leI, nI_eq, nI_pos, nI_pos', Nat.reduceAdd, Nat.reduceMul, Nat.reducePow, Bool.false_eq_true]
            exact ih _ _ (fun z => by have := fl.2 z; simpa using this) K
theorem ev_c223 {d F : Nat} {P : Nat → Nat → zR zT} (X : EvX B b0 n c v W σ) (hP : EvT B b0 W σ 224 (d + 2) P) (hup : pUp P) (hle : pLe n P) (hF : n < F) : EvT B b0 W σ 223 (d + 3) (pChain c 4 4 P (fun _ => dOr) F) := by
  intro t q t' q' f h live b Q K
  obtain ⟨t1, q1, f1, h1, h2⟩ := pChain_r h
  have hv' := fun g b => ev_v (g := g) (b := b) X.1
  simp (disch := omega) only [c_223, e_223_0, e_223_1, e_223_2, e_223_5, n10, n01, Nat.lt_irrefl, Nat.not_lt_zero, ne_eq, Nat.add_zero, Nat.one_ne_zero, Nat.zero_ne_one, Nat.reduceEqDiff, bI_T, bI_F, bI_0, bI_1, bI_01, not_and_self, true_and, and_true, not_true_eq_false, not_false_eq_true, false_imp_iff, true_imp_iff, imp_self, gPv_n, gPv_i, gPv_r, gPv_0, Option.toList_some, Option.toList_none, List.singleton_append, List.cons_append, List.nil_append, List.length_nil, List.length_cons, Nat.zero_le, Nat.reduceAdd, Nat.reduceLeDiff, or_true, true_or, false_or, or_false, and_self, and_false, false_and, implies_true, Option.some.injEq, exists_eq_left', sk_54 (hv' _ _), sr_54_2 (hv' _ _), sr_54_3 (hv' _ _), sr_54_4 (hv' _ _), sr_54_5 (hv' _ _), sr_54_7 (hv' _ _), sr_54_8 (hv' _ _), sr_54_9 (hv' _ _), sr_54_12 (hv' _ _), sr_54_13 (hv' _ _), sr_54_14 (hv' _ _), sr_54_22 (hv' _ _), sr_54_25 (hv' _ _), sr_54_26 (hv' _ _), sr_54_27 (hv' _ _), sr_54_34 (hv' _ _), sr_54_35 (hv' _ _), sr_54_36 (hv' _ _), sr_54_37 (hv' _ _), sr_54_38 (hv' _ _), sr_54_40 (hv' _ _), sr_54_43 (hv' _ _), sr_54_44 (hv' _ _), sr_54_45 (hv' _ _), sr_54_46 (hv' _ _), sr_54_47 (hv' _ _)]
  refine hP _ _ _ _ _ h1 live b _ ?_
  intro x hx
  simp (disch := omega) only [e_223_5, n10, n01, Nat.lt_irrefl, Nat.not_lt_zero, ne_eq, Nat.add_zero, Nat.one_ne_zero, Nat.zero_ne_one, Nat.reduceEqDiff, bI_T, bI_F, bI_0, bI_1, bI_01, not_and_self, true_and, and_true, not_true_eq_false, not_false_eq_true, false_imp_iff, true_imp_iff, imp_self, gPv_n, gPv_i, gPv_r, gPv_0, Option.toList_some, Option.toList_none, List.singleton_append, List.cons_append, List.nil_append, List.length_nil, List.length_cons, Nat.zero_le, Nat.reduceAdd, Nat.reduceLeDiff, or_true, true_or, false_or, or_false, and_self, and_false, false_and, implies_true, Option.some.injEq, exists_eq_left']
  exact ev_l223 X hP hup hle F t1 q1 f1 t' q' f (by omega) (hle _ _ _ _ _ h1) h2 live b x _ Q hx K
theorem ev_test {F : Nat} (X : EvX B b0 n c v W σ) (hF : n < F) : ∀ r d, EvT B b0 W σ 223 (d + 7 * r + 10) (pTestD c v F r) := by
  have h0 := X.2.2.2.1
  intro r
  induction r with
  | zero =>
    intro d
    have a1 := ev_pos (d := d + 4) (bb := false) X (ev_sum X hF 0 d) (by intro t q t' q' f h; cases h) (pSum_up 0) (pSum_le h0 0) (T := fun t _ => .inl t)
    have u := pPlain_up (c := c) (b := false) (F := F) (pSum_up (c := c) (v := v) (F := F) 0) pNo_up
    have l := pPlain_le (T := fun t _ => .inl t) (b := false) (F := F) h0 (pSum_le (v := v) (F := F) h0 0)
    have a2 := ev_plain (d := d + 5) X a1 l u hF
    exact ev_c223 (d := d + 7) X (ev_c224 (d := d + 6) X a2 u l hF) (pChain_up u) (pChain_le l) hF
  | succ r ih =>
    intro d
    have s1 := ev_sum X hF (r + 1) (d + 4 * r + 4)
    rw [show d + 4 * r + 4 + 3 * (r + 1) + 6 = d + 7 * r + 11 + 2 from by omega] at s1
    have t1 := ih (d + 3)
    rw [show d + 3 + 7 * r + 10 = d + 7 * r + 11 + 2 from by omega] at t1
    have a1 := ev_pos (d := d + 7 * r + 11) (bb := true) X s1 t1 (pSum_up (r + 1)) (pSum_le h0 (r + 1))
    have u := pPlain_up (c := c) (b := true) (F := F) (pSum_up (c := c) (v := v) (F := F) (r + 1)) (pTest_up (c := c) (v := v) (F := F) r)
    have l := pPlain_le (T := pTestD c v F r) (b := true) (F := F) h0 (pSum_le (v := v) (F := F) h0 (r + 1))
    have a2 := ev_plain (d := d + 7 * r + 12) X a1 l u hF
    rw [show d + 7 * (r + 1) + 10 = d + 7 * r + 14 + 3 from by omega]
    exact ev_c223 (d := d + 7 * r + 14) X (ev_c224 (d := d + 7 * r + 13) X a2 u l hF) (pChain_up u) (pChain_le l) hF
end
