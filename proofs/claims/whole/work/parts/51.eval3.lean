/-! the model asks a law: sums, tests -/
section
variable {B b0 n : Nat} {c v : Nat → Nat} {W : Nat → Int32} {σ : gS}
set_option maxHeartbeats 2000000 in
theorem ev_sl {d : Nat} {P : Nat → Nat → zR zS} (X : EvX B b0 n c v W σ) (hP : EvS B b0 W σ 221 (d + 2) P) (hup : pUp P) (hle : pLe n P) : ∀ m t q f0 t' q' f, n < t + m → t ≤ n → pLoop c 143 145 P cbS m t q f0 = .inr (t', q', f) → ∀ (live b : Bool) (x0 : Int64) (x4 x5 x6 : Option Value) (Q : Option Value → gS → Prop), (live = true → (b || (live && (f0 W).isNone)) = false → f0 W = some x0) →
    (∀ x : Int64, (live = true → (b || (live && (f W).isNone)) = false → f W = some x) → Q (some (.long x)) (ev σ B (b0 + t') (b || (live && (f W).isNone)))) →
    wp (d + 2) pr_220 Q 6 [some (.ref (B + 54)), some (.int (bI (live = true))), some (.long x0), none, x4, x5, x6] [] (ev σ B (b0 + t) (b || (live && (f0 W).isNone))) := by
  obtain ⟨hv, hE, hC, h0, hb, hn, hb0, hW⟩ := id X
  have hv' := fun g b => ev_v (g := g) (b := b) hv
  intro m
  induction m with
  | zero =>
    intro t q f0 t' q' f hm htn h live b x0 x4 x5 x6 Q hx K
    exact absurd htn (by omega)
  | succ m ih =>
    intro t q f0 t' q' f hm htn h live b x0 x4 x5 x6 Q hx K
    have hbt := hb t
    rcases pLoop_r h with ⟨h1, rfl, rfl, rfl⟩ | ⟨h1, t1, q1, g, h2, h3⟩
    · have c1 : ¬ c t' = 143 := fun z => h1 (Or.inl z)
      have c2 : ¬ c t' = 145 := fun z => h1 (Or.inr z)
      simp (disch := omega) only [e_220_6, e_220_7, e_220_8, e_220_11, e_220_14, e_220_16, e_220_19, e_220_22, e_220_23, e_220_24, e_220_27, e_220_30, e_220_32, e_220_35, e_220_103, e_220_104, n10, n01, Nat.lt_irrefl, Nat.not_lt_zero, ne_eq, Nat.add_zero, Nat.one_ne_zero, Nat.zero_ne_one, Nat.reduceEqDiff, bI_T, bI_F, bI_0, bI_1, bI_01, not_and_self, true_and, and_true, not_true_eq_false, not_false_eq_true, false_imp_iff, true_imp_iff, imp_self, gPv_n, gPv_i, gPv_r, gPv_0, Option.toList_some, Option.toList_none, List.singleton_append, List.cons_append, List.nil_append, List.length_nil, List.length_cons, Nat.zero_le, Nat.reduceAdd, Nat.reduceLeDiff, or_true, true_or, false_or, or_false, and_self, and_false, false_and, implies_true, Option.some.injEq, exists_eq_left', nL, nI_add, nI_mul, nI_clamp, nI_ltI, nI_leI, nI_eq, nI_pos, nI_pos', Nat.reduceAdd, Nat.reduceMul, Nat.reducePow, sk_54 (hv' _ _), sr_54_2 (hv' _ _), sr_54_3 (hv' _ _), sr_54_4 (hv' _ _), sr_54_5 (hv' _ _), sr_54_7 (hv' _ _), sr_54_8 (hv' _ _), sr_54_9 (hv' _ _), sr_54_12 (hv' _ _), sr_54_13 (hv' _ _), sr_54_14 (hv' _ _), sr_54_22 (hv' _ _), sr_54_25 (hv' _ _), sr_54_26 (hv' _ _), sr_54_27 (hv' _ _), sr_54_34 (hv' _ _), sr_54_35 (hv' _ _), sr_54_36 (hv' _ _), sr_54_37 (hv' _ _), sr_54_38 (hv' _ _), sr_54_40 (hv' _ _), sr_54_43 (hv' _ _), sr_54_44 (hv' _ _), sr_54_45 (hv' _ _), sr_54_46 (hv' _ _), sr_54_47 (hv' _ _), ev_19, t_codeAt X (show t' ≤ 1000 by omega), t_sign, c1, c2]
      exact K x0 hx
    · have u1 := hup _ _ _ _ _ h2
      have u2 := hle _ _ _ _ _ h2
      have ih := ih t1 q1 (cbS (c t) f0 g) t' q' f (by omega) u2 h3 live b
      by_cases h4 : c t = 143
      · rw [e_220_6]
        simp (disch := omega) only [e_220_7, e_220_8, e_220_11, e_220_14, e_220_16, e_220_19, e_220_22, e_220_23, e_220_24, e_220_27, e_220_30, e_220_32, e_220_35, e_220_38, e_220_39, e_220_40, e_220_43, e_220_46, e_220_48, e_220_51, e_220_54, e_220_55, e_220_58, e_220_59, e_220_61, e_220_62, e_220_62n, e_220_63, e_220_66, e_220_67, e_220_68, e_220_71, e_220_72, e_220_73, n10, n01, Nat.lt_irrefl, Nat.not_lt_zero, ne_eq, Nat.add_zero, Nat.one_ne_zero, Nat.zero_ne_one, Nat.reduceEqDiff, bI_T, bI_F, bI_0, bI_1, bI_01, not_and_self, true_and, and_true, not_true_eq_false, not_false_eq_true, false_imp_iff, true_imp_iff, imp_self, gPv_n, gPv_i, gPv_r, gPv_0, Option.toList_some, Option.toList_none, List.singleton_append, List.cons_append, List.nil_append, List.length_nil, List.length_cons, Nat.zero_le, Nat.reduceAdd, Nat.reduceLeDiff, or_true, true_or, false_or, or_false, and_self, and_false, false_and, implies_true, Option.some.injEq, exists_eq_left', nL, nI_add, nI_mul, nI_clamp, nI_ltI, nI_leI, nI_eq, nI_pos, nI_pos', Nat.reduceAdd, Nat.reduceMul, Nat.reducePow, sk_54 (hv' _ _), sr_54_2 (hv' _ _), sr_54_3 (hv' _ _), sr_54_4 (hv' _ _), sr_54_5 (hv' _ _), sr_54_7 (hv' _ _), sr_54_8 (hv' _ _), sr_54_9 (hv' _ _), sr_54_12 (hv' _ _), sr_54_13 (hv' _ _), sr_54_14 (hv' _ _), sr_54_22 (hv' _ _), sr_54_25 (hv' _ _), sr_54_26 (hv' _ _), sr_54_27 (hv' _ _), sr_54_34 (hv' _ _), sr_54_35 (hv' _ _), sr_54_36 (hv' _ _), sr_54_37 (hv' _ _), sr_54_38 (hv' _ _), sr_54_40 (hv' _ _), sr_54_43 (hv' _ _), sr_54_44 (hv' _ _), sr_54_45 (hv' _ _), sr_54_46 (hv' _ _), sr_54_47 (hv' _ _), ev_19, ev_s19, t_codeAt X (show t ≤ 1000 by omega), t_sign, h4]
        refine hP _ _ _ _ _ h2 live _ _ ?_
        intro y hy
        have e3 : cbS (c t) = dOp 0 := by simp only [cbS, h4, if_true]
        rw [e3] at ih
        simp (disch := omega) only [e_220_76, e_220_78, e_220_79, e_220_81, e_220_84, e_220_85, e_220_87, e_220_88, e_220_91, e_220_92, e_220_94, e_220_95, e_220_96, e_220_99, e_220_100, n10, n01, Nat.lt_irrefl, Nat.not_lt_zero, ne_eq, Nat.add_zero, Nat.one_ne_zero, Nat.zero_ne_one, Nat.reduceEqDiff, bI_T, bI_F, bI_0, bI_1, bI_01, not_and_self, true_and, and_true, not_true_eq_false, not_false_eq_true, false_imp_iff, true_imp_iff, imp_self, gPv_n, gPv_i, gPv_r, gPv_0, Option.toList_some, Option.toList_none, List.singleton_append, List.cons_append, List.nil_append, List.length_nil, List.length_cons, Nat.zero_le, Nat.reduceAdd, Nat.reduceLeDiff, or_true, true_or, false_or, or_false, and_self, and_false, false_and, implies_true, Option.some.injEq, exists_eq_left', nL, nI_add, nI_mul, nI_clamp, nI_ltI, nI_leI, nI_eq, nI_pos, nI_pos', Nat.reduceAdd, Nat.reduceMul, Nat.reducePow, sk_54 (hv' _ _), sr_54_2 (hv' _ _), sr_54_3 (hv' _ _), sr_54_4 (hv' _ _), sr_54_5 (hv' _ _), sr_54_7 (hv' _ _), sr_54_8 (hv' _ _), sr_54_9 (hv' _ _), sr_54_12 (hv' _ _), sr_54_13 (hv' _ _), sr_54_14 (hv' _ _), sr_54_22 (hv' _ _), sr_54_25 (hv' _ _), sr_54_26 (hv' _ _), sr_54_27 (hv' _ _), sr_54_34 (hv' _ _), sr_54_35 (hv' _ _), sr_54_36 (hv' _ _), sr_54_37 (hv' _ _), sr_54_38 (hv' _ _), sr_54_40 (hv' _ _), sr_54_43 (hv' _ _), sr_54_44 (hv' _ _), sr_54_45 (hv' _ _), sr_54_46 (hv' _ _), sr_54_47 (hv' _ _), t_bounded hv]
        cases live
        · simp only [Bool.false_and, Bool.or_false, Bool.false_eq_true, false_imp_iff] at ih K ⊢
          exact ih _ _ _ _ Q trivial K
        · have op := op_fl (k := 0) (f0 := f0) (g := g) (W := W) (b := b) (x := x0) (y := y) (by simpa using hx) (by simpa using hy) (by omega)
          have ev2 : opv 0 x0 y = x0 + y := by simp [opv]
          rw [ev2] at op
          simp only [Bool.true_and] at ih K ⊢
          rw [op.1]
          refine ih _ _ _ _ Q ?_ K
          intro _ z
          rw [z]
          exact op.2 z
      · have h5 : c t = 145 := by omega
        rw [e_220_6]
        simp (disch := omega) only [e_220_7, e_220_8, e_220_11, e_220_14, e_220_16, e_220_19, e_220_22, e_220_23, e_220_24, e_220_27, e_220_30, e_220_32, e_220_35, e_220_38, e_220_39, e_220_40, e_220_43, e_220_46, e_220_48, e_220_51, e_220_54, e_220_55, e_220_58, e_220_59, e_220_61, e_220_62, e_220_62n, e_220_63, e_220_66, e_220_67, e_220_68, e_220_71, e_220_72, e_220_73, n10, n01, Nat.lt_irrefl, Nat.not_lt_zero, ne_eq, Nat.add_zero, Nat.one_ne_zero, Nat.zero_ne_one, Nat.reduceEqDiff, bI_T, bI_F, bI_0, bI_1, bI_01, not_and_self, true_and, and_true, not_true_eq_false, not_false_eq_true, false_imp_iff, true_imp_iff, imp_self, gPv_n, gPv_i, gPv_r, gPv_0, Option.toList_some, Option.toList_none, List.singleton_append, List.cons_append, List.nil_append, List.length_nil, List.length_cons, Nat.zero_le, Nat.reduceAdd, Nat.reduceLeDiff, or_true, true_or, false_or, or_false, and_self, and_false, false_and, implies_true, Option.some.injEq, exists_eq_left', nL, nI_add, nI_mul, nI_clamp, nI_ltI, nI_leI, nI_eq, nI_pos, nI_pos', Nat.reduceAdd, Nat.reduceMul, Nat.reducePow, sk_54 (hv' _ _), sr_54_2 (hv' _ _), sr_54_3 (hv' _ _), sr_54_4 (hv' _ _), sr_54_5 (hv' _ _), sr_54_7 (hv' _ _), sr_54_8 (hv' _ _), sr_54_9 (hv' _ _), sr_54_12 (hv' _ _), sr_54_13 (hv' _ _), sr_54_14 (hv' _ _), sr_54_22 (hv' _ _), sr_54_25 (hv' _ _), sr_54_26 (hv' _ _), sr_54_27 (hv' _ _), sr_54_34 (hv' _ _), sr_54_35 (hv' _ _), sr_54_36 (hv' _ _), sr_54_37 (hv' _ _), sr_54_38 (hv' _ _), sr_54_40 (hv' _ _), sr_54_43 (hv' _ _), sr_54_44 (hv' _ _), sr_54_45 (hv' _ _), sr_54_46 (hv' _ _), sr_54_47 (hv' _ _), ev_19, ev_s19, t_codeAt X (show t ≤ 1000 by omega), t_sign, h5]
        refine hP _ _ _ _ _ h2 live _ _ ?_
        intro y hy
        have e3 : cbS (c t) = dOp 1 := by simp only [cbS, h4, if_false]
        rw [e3] at ih
        simp (disch := omega) only [e_220_76, e_220_78, e_220_79, e_220_81, e_220_84, e_220_85, e_220_87, e_220_88, e_220_91, e_220_92, e_220_94, e_220_95, e_220_96, e_220_99, e_220_100, n10, n01, Nat.lt_irrefl, Nat.not_lt_zero, ne_eq, Nat.add_zero, Nat.one_ne_zero, Nat.zero_ne_one, Nat.reduceEqDiff, bI_T, bI_F, bI_0, bI_1, bI_01, not_and_self, true_and, and_true, not_true_eq_false, not_false_eq_true, false_imp_iff, true_imp_iff, imp_self, gPv_n, gPv_i, gPv_r, gPv_0, Option.toList_some, Option.toList_none, List.singleton_append, List.cons_append, List.nil_append, List.length_nil, List.length_cons, Nat.zero_le, Nat.reduceAdd, Nat.reduceLeDiff, or_true, true_or, false_or, or_false, and_self, and_false, false_and, implies_true, Option.some.injEq, exists_eq_left', nL, nI_add, nI_mul, nI_clamp, nI_ltI, nI_leI, nI_eq, nI_pos, nI_pos', Nat.reduceAdd, Nat.reduceMul, Nat.reducePow, sk_54 (hv' _ _), sr_54_2 (hv' _ _), sr_54_3 (hv' _ _), sr_54_4 (hv' _ _), sr_54_5 (hv' _ _), sr_54_7 (hv' _ _), sr_54_8 (hv' _ _), sr_54_9 (hv' _ _), sr_54_12 (hv' _ _), sr_54_13 (hv' _ _), sr_54_14 (hv' _ _), sr_54_22 (hv' _ _), sr_54_25 (hv' _ _), sr_54_26 (hv' _ _), sr_54_27 (hv' _ _), sr_54_34 (hv' _ _), sr_54_35 (hv' _ _), sr_54_36 (hv' _ _), sr_54_37 (hv' _ _), sr_54_38 (hv' _ _), sr_54_40 (hv' _ _), sr_54_43 (hv' _ _), sr_54_44 (hv' _ _), sr_54_45 (hv' _ _), sr_54_46 (hv' _ _), sr_54_47 (hv' _ _), t_bounded hv]
        cases live
        · simp only [Bool.false_and, Bool.or_false, Bool.false_eq_true, false_imp_iff] at ih K ⊢
          exact ih _ _ _ _ Q trivial K
        · have op := op_fl (k := 1) (f0 := f0) (g := g) (W := W) (b := b) (x := x0) (y := y) (by simpa using hx) (by simpa using hy) (by omega)
          have ev2 : opv 1 x0 y = x0 - y := by simp [opv]
          rw [ev2] at op
          simp only [Bool.true_and] at ih K ⊢
          rw [op.1]
          refine ih _ _ _ _ Q ?_ K
          intro _ z
          rw [z]
          exact op.2 z
theorem ev_sum1 {d F : Nat} {P : Nat → Nat → zR zS} (X : EvX B b0 n c v W σ) (hP : EvS B b0 W σ 221 (d + 2) P) (hup : pUp P) (hle : pLe n P) (hF : n < F) : EvS B b0 W σ 220 (d + 3) (pChain c 143 145 P cbS F) := by
  intro t q t' q' f h live b Q K
  obtain ⟨t1, q1, f1, h1, h2⟩ := pChain_r h
  have hv' := fun g b => ev_v (g := g) (b := b) X.1
  simp (disch := omega) only [c_220, e_220_0, e_220_1, e_220_2, e_220_5, n10, n01, Nat.lt_irrefl, Nat.not_lt_zero, ne_eq, Nat.add_zero, Nat.one_ne_zero, Nat.zero_ne_one, Nat.reduceEqDiff, bI_T, bI_F, bI_0, bI_1, bI_01, not_and_self, true_and, and_true, not_true_eq_false, not_false_eq_true, false_imp_iff, true_imp_iff, imp_self, gPv_n, gPv_i, gPv_r, gPv_0, Option.toList_some, Option.toList_none, List.singleton_append, List.cons_append, List.nil_append, List.length_nil, List.length_cons, Nat.zero_le, Nat.reduceAdd, Nat.reduceLeDiff, or_true, true_or, false_or, or_false, and_self, and_false, false_and, implies_true, Option.some.injEq, exists_eq_left', sk_54 (hv' _ _), sr_54_2 (hv' _ _), sr_54_3 (hv' _ _), sr_54_4 (hv' _ _), sr_54_5 (hv' _ _), sr_54_7 (hv' _ _), sr_54_8 (hv' _ _), sr_54_9 (hv' _ _), sr_54_12 (hv' _ _), sr_54_13 (hv' _ _), sr_54_14 (hv' _ _), sr_54_22 (hv' _ _), sr_54_25 (hv' _ _), sr_54_26 (hv' _ _), sr_54_27 (hv' _ _), sr_54_34 (hv' _ _), sr_54_35 (hv' _ _), sr_54_36 (hv' _ _), sr_54_37 (hv' _ _), sr_54_38 (hv' _ _), sr_54_40 (hv' _ _), sr_54_43 (hv' _ _), sr_54_44 (hv' _ _), sr_54_45 (hv' _ _), sr_54_46 (hv' _ _), sr_54_47 (hv' _ _)]
  refine hP _ _ _ _ _ h1 live b _ ?_
  intro x hx
  simp (disch := omega) only [e_220_5, n10, n01, Nat.lt_irrefl, Nat.not_lt_zero, ne_eq, Nat.add_zero, Nat.one_ne_zero, Nat.zero_ne_one, Nat.reduceEqDiff, bI_T, bI_F, bI_0, bI_1, bI_01, not_and_self, true_and, and_true, not_true_eq_false, not_false_eq_true, false_imp_iff, true_imp_iff, imp_self, gPv_n, gPv_i, gPv_r, gPv_0, Option.toList_some, Option.toList_none, List.singleton_append, List.cons_append, List.nil_append, List.length_nil, List.length_cons, Nat.zero_le, Nat.reduceAdd, Nat.reduceLeDiff, or_true, true_or, false_or, or_false, and_self, and_false, false_and, implies_true, Option.some.injEq, exists_eq_left']
  exact ev_sl X hP hup hle F t1 q1 f1 t' q' f (by omega) (hle _ _ _ _ _ h1) h2 live b x _ _ _ Q hx K
theorem ev_sum {F : Nat} (X : EvX B b0 n c v W σ) (hF : n < F) : ∀ r d, EvS B b0 W σ 220 (d + 3 * r + 6) (pSumD c v F r) := by
  have h0 := X.2.2.2.1
  intro r
  induction r with
  | zero =>
    intro d
    exact ev_sum1 (d := d + 3) X (ev_term (d := d + 2) X (ev_part (d := d) X (by intro t q t' q' f h; cases h)) (pPart_up pNo_up) (pPart_le h0) hF) (pChain_up (pPart_up pNo_up)) (pChain_le (pPart_le h0)) hF
  | succ r ih =>
    intro d
    exact ev_sum1 (d := d + 3 * r + 6) X (ev_term (d := d + 3 * r + 5) X (ev_part (d := d + 3 * r + 3) X (ih d)) (pPart_up (pSum_up r)) (pPart_le h0) hF) (pChain_up (pPart_up (pSum_up r))) (pChain_le (pPart_le h0)) hF
/-- a method of the model works out what a test means -/
def EvT (B b0 : Nat) (W : Nat → Int32) (σ : gS) (m e : Nat) (P : Nat → Nat → zR zT) : Prop := ∀ t q t' q' f, P t q = .inr (t', q', f) → ∀ (live b : Bool) (Q : Option Value → gS → Prop), (∀ x : Bool, (live = true → (b || (live && (f W).isNone)) = false → f W = some x) → Q (some (.int (bI (x = true)))) (ev σ B (b0 + t') (b || (live && (f W).isNone)))) → wc e m [.ref (B + 54), .int (bI (live = true))] (ev σ B (b0 + t) b) Q
end
