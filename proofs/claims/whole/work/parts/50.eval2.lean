/-! the model asks a law: terms, sums -/
def pLe (n : Nat) {α : Type} (P : Nat → Nat → zR α) : Prop := ∀ t q t' q' f, P t q = .inr (t', q', f) → t' ≤ n
section
variable {c v : Nat → Nat} {n : Nat}
theorem c_le (h0 : ∀ t, n ≤ t → c t = 0) {t : Nat} (h : c t ≠ 0) : t < n := by
  by_cases z : t < n
  · exact z
  · exact absurd (h0 t (by omega)) h
theorem pPart_le {S : Nat → Nat → zR zS} {b : Bool} (h0 : ∀ t, n ≤ t → c t = 0) : pLe n (pPart c v S b) := by
  intro t q t' q' f h
  rcases pPart_r h with ⟨_, t1, _, h3, rfl⟩ | ⟨_, h2, rfl, _⟩
  · have := c_le h0 (t := t1) (by omega)
    omega
  · have := c_le h0 (t := t) (by omega)
    omega
theorem pLoop_le {α : Type} {o1 o2 : Nat} {P : Nat → Nat → zR α} {cb : Nat → α → α → α} (hP : pLe n P) : ∀ m t q f0 t' q' f, t ≤ n → pLoop c o1 o2 P cb m t q f0 = .inr (t', q', f) → t' ≤ n := by
  intro m
  induction m with
  | zero =>
    intro t q f0 t' q' f ht h
    simp only [pLoop] at h
    cases h
    exact ht
  | succ m ih =>
    intro t q f0 t' q' f ht h
    rcases pLoop_r h with ⟨_, rfl, _⟩ | ⟨_, t1, q1, g, h1, h2⟩
    · exact ht
    · exact ih _ _ _ _ _ _ (hP _ _ _ _ _ h1) h2
theorem pChain_le {α : Type} {o1 o2 : Nat} {P : Nat → Nat → zR α} {cb : Nat → α → α → α} {F : Nat} (hP : pLe n P) : pLe n (pChain c o1 o2 P cb F) := by
  intro t q t' q' f h
  obtain ⟨t1, q1, f1, h1, h2⟩ := pChain_r h
  exact pLoop_le hP _ _ _ _ _ _ _ (hP _ _ _ _ _ h1) h2
theorem pSum_le {F : Nat} (h0 : ∀ t, n ≤ t → c t = 0) : ∀ r, pLe n (pSumD c v F r) := by
  intro r
  cases r with
  | zero => exact pChain_le (pChain_le (pPart_le h0))
  | succ r => exact pChain_le (pChain_le (pPart_le h0))
theorem pPlain_le {S : Nat → Nat → zR zS} {T : Nat → Nat → zR zT} {b : Bool} {F : Nat} (h0 : ∀ t, n ≤ t → c t = 0) (hS : pLe n S) : pLe n (pPlain c S T b F) := by
  intro t q t' q' f h
  obtain ⟨e1, h1, _⟩ := pPlain_r h
  rcases pPos_r h1 with ⟨_, t1, _, h3, rfl⟩ | ⟨_, t1, q1, f, g, h2, _, h3, _⟩
  · have := c_le h0 (t := t1) (by omega)
    omega
  · exact hS _ _ _ _ _ h3
theorem pTest_le {F : Nat} (h0 : ∀ t, n ≤ t → c t = 0) : ∀ r, pLe n (pTestD c v F r) := by
  intro r
  cases r with
  | zero => exact pChain_le (pChain_le (pPlain_le h0 (pSum_le h0 0)))
  | succ r => exact pChain_le (pChain_le (pPlain_le h0 (pSum_le h0 (r + 1))))
end
def opv (k : Nat) (a b : Int64) : Int64 := if k = 0 then a + b else if k = 1 then a - b else if k = 2 then a * b else a / b
theorem op_fl {k : Nat} {f0 g : zS} {W : Nat → Int32} {b : Bool} {x y : Int64} (hx : (b || (f0 W).isNone) = false → f0 W = some x) (hy : ((b || (f0 W).isNone) || (g W).isNone) = false → g W = some y) (hk : ¬ (k = 3 ∧ y = 0)) : (((b || (f0 W).isNone) || (g W).isNone) || out9 (opv k x y)) = (b || (dOp k f0 g W).isNone) ∧ ((b || (dOp k f0 g W).isNone) = false → dOp k f0 g W = some (opv k x y)) := by
  cases b
  · simp only [Bool.false_or] at hx hy ⊢
    simp only [dOp]
    cases hf : f0 W with
    | none => simp
    | some x1 =>
      have ex := hx (by rw [hf]; rfl)
      rw [hf] at ex
      cases ex
      cases hg : g W with
      | none => simp
      | some y1 =>
        have ey := hy (by rw [hf, hg]; rfl)
        rw [hg] at ey
        cases ey
        simp only [zOp, if_neg hk, Option.isNone_some, Bool.false_or, zLim_o]
        show out9 (opv k x y) = (if out9 (opv k x y) = true then none else some (opv k x y)).isNone ∧ ((if out9 (opv k x y) = true then none else some (opv k x y)).isNone = false → (if out9 (opv k x y) = true then none else some (opv k x y)) = some (opv k x y))
        cases out9 (opv k x y) <;> simp
  · simp
theorem op_fl0 {f0 g : zS} {W : Nat → Int32} {b : Bool} (hy : ((b || (f0 W).isNone) || (g W).isNone) = false → g W = some 0) : (b || (dOp 3 f0 g W).isNone) = true := by
  cases b
  · simp only [Bool.false_or] at hy ⊢
    simp only [dOp]
    cases hf : f0 W with
    | none => rfl
    | some x1 =>
      cases hg : g W with
      | none => rfl
      | some y1 =>
        have ey := hy (by rw [hf, hg]; rfl)
        rw [hg] at ey
        cases ey
        simp only [zOp, and_self, if_true, Option.isNone_none]
  · rfl
section
variable {B b0 n : Nat} {c v : Nat → Nat} {W : Nat → Int32} {σ : gS}
set_option maxHeartbeats 2000000 in
theorem ev_tl {d : Nat} {P : Nat → Nat → zR zS} (X : EvX B b0 n c v W σ) (hP : EvS B b0 W σ 222 (d + 2) P) (hup : pUp P) (hle : pLe n P) : ∀ m t q f0 t' q' f, n < t + m → t ≤ n → pLoop c 142 147 P cbT m t q f0 = .inr (t', q', f) → ∀ (live b : Bool) (x0 : Int64) (x4 x5 x6 : Option Value) (Q : Option Value → gS → Prop), (live = true → (b || (live && (f0 W).isNone)) = false → f0 W = some x0) →
    (∀ x : Int64, (live = true → (b || (live && (f W).isNone)) = false → f W = some x) → Q (some (.long x)) (ev σ B (b0 + t') (b || (live && (f W).isNone)))) →
    wp (d + 2) pr_221 Q 6 [some (.ref (B + 54)), some (.int (bI (live = true))), some (.long x0), none, x4, x5, x6] [] (ev σ B (b0 + t) (b || (live && (f0 W).isNone))) := by
  obtain ⟨hv, hE, hC, h0, hb, hn, hb0, hW⟩ := id X
  have hv' := fun g b => ev_v (g := g) (b := b) hv
  intro m
  induction m with
  | zero =>
    intro t q f0 t' q' f hm htn h live b x0 x4 x5 x6 Q hx K
    exact absurd htn (by omega)
  | succ m ih =>
    intro t q f0 t' q' f hm htn h live b x0 x4 x5 x6 Q hx K
    have hbt := hb t
    rcases pLoop_r h with ⟨h1, rfl, rfl, rfl⟩ | ⟨h1, t1, q1, g, h2, h3⟩
    · have c1 : ¬ c t' = 142 := fun z => h1 (Or.inl z)
      have c2 : ¬ c t' = 147 := fun z => h1 (Or.inr z)
      simp (disch := omega) only [e_221_6, e_221_7, e_221_8, e_221_11, e_221_14, e_221_16, e_221_19, e_221_22, e_221_23, e_221_24, e_221_27, e_221_30, e_221_32, e_221_35, e_221_138, e_221_139, n10, n01, Nat.lt_irrefl, Nat.not_lt_zero, ne_eq, Nat.add_zero, Nat.one_ne_zero, Nat.zero_ne_one, Nat.reduceEqDiff, bI_T, bI_F, bI_0, bI_1, bI_01, not_and_self, true_and, and_true, not_true_eq_false, not_false_eq_true, false_imp_iff, true_imp_iff, imp_self, gPv_n, gPv_i, gPv_r, gPv_0, Option.toList_some, Option.toList_none, List.singleton_append, List.cons_append, List.nil_append, List.length_nil, List.length_cons, Nat.zero_le, Nat.reduceAdd, Nat.reduceLeDiff, or_true, true_or, false_or, or_false, and_self, and_false, false_and, implies_true, Option.some.injEq, exists_eq_left', nL, nI_add, nI_mul, nI_clamp, nI_ltI, nI_leI, nI_eq, nI_pos, nI_pos', Nat.reduceAdd, Nat.reduceMul, Nat.reducePow, sk_54 (hv' _ _), sr_54_2 (hv' _ _), sr_54_3 (hv' _ _), sr_54_4 (hv' _ _), sr_54_5 (hv' _ _), sr_54_7 (hv' _ _), sr_54_8 (hv' _ _), sr_54_9 (hv' _ _), sr_54_12 (hv' _ _), sr_54_13 (hv' _ _), sr_54_14 (hv' _ _), sr_54_22 (hv' _ _), sr_54_25 (hv' _ _), sr_54_26 (hv' _ _), sr_54_27 (hv' _ _), sr_54_34 (hv' _ _), sr_54_35 (hv' _ _), sr_54_36 (hv' _ _), sr_54_37 (hv' _ _), sr_54_38 (hv' _ _), sr_54_40 (hv' _ _), sr_54_43 (hv' _ _), sr_54_44 (hv' _ _), sr_54_45 (hv' _ _), sr_54_46 (hv' _ _), sr_54_47 (hv' _ _), ev_19, t_codeAt X (show t' ≤ 1000 by omega), t_sign, c1, c2]
      exact K x0 hx
    · have u1 := hup _ _ _ _ _ h2
      have u2 := hle _ _ _ _ _ h2
      have ih := ih t1 q1 (cbT (c t) f0 g) t' q' f (by omega) u2 h3 live b
      by_cases h4 : c t = 142
      · rw [e_221_6]
        simp (disch := omega) only [e_221_7, e_221_8, e_221_11, e_221_14, e_221_16, e_221_19, e_221_22, e_221_23, e_221_24, e_221_27, e_221_30, e_221_32, e_221_35, e_221_38, e_221_39, e_221_40, e_221_43, e_221_46, e_221_48, e_221_51, e_221_54, e_221_55, e_221_58, e_221_59, e_221_61, e_221_62, e_221_62n, e_221_63, e_221_66, e_221_67, e_221_68, e_221_71, e_221_72, e_221_73, n10, n01, Nat.lt_irrefl, Nat.not_lt_zero, ne_eq, Nat.add_zero, Nat.one_ne_zero, Nat.zero_ne_one, Nat.reduceEqDiff, bI_T, bI_F, bI_0, bI_1, bI_01, not_and_self, true_and, and_true, not_true_eq_false, not_false_eq_true, false_imp_iff, true_imp_iff, imp_self, gPv_n, gPv_i, gPv_r, gPv_0, Option.toList_some, Option.toList_none, List.singleton_append, List.cons_append, List.nil_append, List.length_nil, List.length_cons, Nat.zero_le, Nat.reduceAdd, Nat.reduceLeDiff, or_true, true_or, false_or, or_false, and_self, and_false, false_and, implies_true, Option.some.injEq, exists_eq_left', nL, nI_add, nI_mul, nI_clamp, nI_ltI, nI_leI, nI_eq, nI_pos, nI_pos', Nat.reduceAdd, Nat.reduceMul, Nat.reducePow, sk_54 (hv' _ _), sr_54_2 (hv' _ _), sr_54_3 (hv' _ _), sr_54_4 (hv' _ _), sr_54_5 (hv' _ _), sr_54_7 (hv' _ _), sr_54_8 (hv' _ _), sr_54_9 (hv' _ _), sr_54_12 (hv' _ _), sr_54_13 (hv' _ _), sr_54_14 (hv' _ _), sr_54_22 (hv' _ _), sr_54_25 (hv' _ _), sr_54_26 (hv' _ _), sr_54_27 (hv' _ _), sr_54_34 (hv' _ _), sr_54_35 (hv' _ _), sr_54_36 (hv' _ _), sr_54_37 (hv' _ _), sr_54_38 (hv' _ _), sr_54_40 (hv' _ _), sr_54_43 (hv' _ _), sr_54_44 (hv' _ _), sr_54_45 (hv' _ _), sr_54_46 (hv' _ _), sr_54_47 (hv' _ _), ev_19, ev_s19, t_codeAt X (show t ≤ 1000 by omega), t_sign, h4]
        refine hP _ _ _ _ _ h2 live _ _ ?_
        intro y hy
        have e3 : cbT (c t) = dOp 2 := by simp only [cbT, h4, if_true]
        rw [e3] at ih
        simp (disch := omega) only [e_221_76, e_221_78, e_221_80, e_221_113, e_221_114, e_221_116, e_221_119, e_221_120, e_221_122, e_221_123, e_221_126, e_221_127, e_221_129, e_221_130, e_221_131, e_221_134, e_221_135, n10, n01, Nat.lt_irrefl, Nat.not_lt_zero, ne_eq, Nat.add_zero, Nat.one_ne_zero, Nat.zero_ne_one, Nat.reduceEqDiff, bI_T, bI_F, bI_0, bI_1, bI_01, not_and_self, true_and, and_true, not_true_eq_false, not_false_eq_true, false_imp_iff, true_imp_iff, imp_self, gPv_n, gPv_i, gPv_r, gPv_0, Option.toList_some, Option.toList_none, List.singleton_append, List.cons_append, List.nil_append, List.length_nil, List.length_cons, Nat.zero_le, Nat.reduceAdd, Nat.reduceLeDiff, or_true, true_or, false_or, or_false, and_self, and_false, false_and, implies_true, Option.some.injEq, exists_eq_left', nL, nI_add, nI_mul, nI_clamp, nI_ltI, nI_leI, nI_eq, nI_pos, nI_pos', Nat.reduceAdd, Nat.reduceMul, Nat.reducePow, sk_54 (hv' _ _), sr_54_2 (hv' _ _), sr_54_3 (hv' _ _), sr_54_4 (hv' _ _), sr_54_5 (hv' _ _), sr_54_7 (hv' _ _), sr_54_8 (hv' _ _), sr_54_9 (hv' _ _), sr_54_12 (hv' _ _), sr_54_13 (hv' _ _), sr_54_14 (hv' _ _), sr_54_22 (hv' _ _), sr_54_25 (hv' _ _), sr_54_26 (hv' _ _), sr_54_27 (hv' _ _), sr_54_34 (hv' _ _), sr_54_35 (hv' _ _), sr_54_36 (hv' _ _), sr_54_37 (hv' _ _), sr_54_38 (hv' _ _), sr_54_40 (hv' _ _), sr_54_43 (hv' _ _), sr_54_44 (hv' _ _), sr_54_45 (hv' _ _), sr_54_46 (hv' _ _), sr_54_47 (hv' _ _), t_bounded hv]
        cases live
        · simp only [Bool.false_and, Bool.or_false, Bool.false_eq_true, false_imp_iff] at ih K ⊢
          exact ih _ _ _ _ Q trivial K
        · have op := op_fl (k := 2) (f0 := f0) (g := g) (W := W) (b := b) (x := x0) (y := y) (by simpa using hx) (by simpa using hy) (by omega)
          have ev2 : opv 2 x0 y = x0 * y := by simp [opv]
          rw [ev2] at op
          simp only [Bool.true_and] at ih K ⊢
          rw [op.1]
          refine ih _ _ _ _ Q ?_ K
          intro _ z
          rw [z]
          exact op.2 z
      · have h5 : c t = 147 := by omega
        rw [e_221_6]
        simp (disch := omega) only [e_221_7, e_221_8, e_221_11, e_221_14, e_221_16, e_221_19, e_221_22, e_221_23, e_221_24, e_221_27, e_221_30, e_221_32, e_221_35, e_221_38, e_221_39, e_221_40, e_221_43, e_221_46, e_221_48, e_221_51, e_221_54, e_221_55, e_221_58, e_221_59, e_221_61, e_221_62, e_221_62n, e_221_63, e_221_66, e_221_67, e_221_68, e_221_71, e_221_72, e_221_73, n10, n01, Nat.lt_irrefl, Nat.not_lt_zero, ne_eq, Nat.add_zero, Nat.one_ne_zero, Nat.zero_ne_one, Nat.reduceEqDiff, bI_T, bI_F, bI_0, bI_1, bI_01, not_and_self, true_and, and_true, not_true_eq_false, not_false_eq_true, false_imp_iff, true_imp_iff, imp_self, gPv_n, gPv_i, gPv_r, gPv_0, Option.toList_some, Option.toList_none, List.singleton_append, List.cons_append, List.nil_append, List.length_nil, List.length_cons, Nat.zero_le, Nat.reduceAdd, Nat.reduceLeDiff, or_true, true_or, false_or, or_false, and_self, and_false, false_and, implies_true, Option.some.injEq, exists_eq_left', nL, nI_add, nI_mul, nI_clamp, nI_ltI, nI_leI, nI_eq, nI_pos, nI_pos', Nat.reduceAdd, Nat.reduceMul, Nat.reducePow, sk_54 (hv' _ _), sr_54_2 (hv' _ _), sr_54_3 (hv' _ _), sr_54_4 (hv' _ _), sr_54_5 (hv' _ _), sr_54_7 (hv' _ _), sr_54_8 (hv' _ _), sr_54_9 (hv' _ _), sr_54_12 (hv' _ _), sr_54_13 (hv' _ _), sr_54_14 (hv' _ _), sr_54_22 (hv' _ _), sr_54_25 (hv' _ _), sr_54_26 (hv' _ _), sr_54_27 (hv' _ _), sr_54_34 (hv' _ _), sr_54_35 (hv' _ _), sr_54_36 (hv' _ _), sr_54_37 (hv' _ _), sr_54_38 (hv' _ _), sr_54_40 (hv' _ _), sr_54_43 (hv' _ _), sr_54_44 (hv' _ _), sr_54_45 (hv' _ _), sr_54_46 (hv' _ _), sr_54_47 (hv' _ _), ev_19, ev_s19, t_codeAt X (show t ≤ 1000 by omega), t_sign, h5]
        refine hP _ _ _ _ _ h2 live _ _ ?_
        intro y hy
        have e3 : cbT (c t) = dOp 3 := by simp only [cbT, h4, if_false]
        rw [e3] at ih
        have n10' : ¬ (1 : Int64) = 0 := by decide
        by_cases y0 : y = 0
        · subst y0
          cases live
          · simp only [Bool.false_and, Bool.or_false, Bool.false_eq_true, false_imp_iff] at ih K ⊢
            cases b
            · simp (disch := omega) only [e_221_76, e_221_78, e_221_80, e_221_83, e_221_85, e_221_86, e_221_87, e_221_90, e_221_91, e_221_92, e_221_95, e_221_98, e_221_99, e_221_102, e_221_103, e_221_106, e_221_107, e_221_110, e_221_111, e_221_113, e_221_114, e_221_116, e_221_119, e_221_120, e_221_122, e_221_123, e_221_126, e_221_127, e_221_129, e_221_130, e_221_131, e_221_134, e_221_135, n10, n01, Nat.lt_irrefl, Nat.not_lt_zero, ne_eq, Nat.add_zero, Nat.one_ne_zero, Nat.zero_ne_one, Nat.reduceEqDiff, bI_T, bI_F, bI_0, bI_1, bI_01, not_and_self, true_and, and_true, not_true_eq_false, not_false_eq_true, false_imp_iff, true_imp_iff, imp_self, gPv_n, gPv_i, gPv_r, gPv_0, Option.toList_some, Option.toList_none, List.singleton_append, List.cons_append, List.nil_append, List.length_nil, List.length_cons, Nat.zero_le, Nat.reduceAdd, Nat.reduceLeDiff, or_true, true_or, false_or, or_false, and_self, and_false, false_and, implies_true, Option.some.injEq, exists_eq_left', nL, nI_add, nI_mul, nI_clamp, nI_ltI, nI_leI, nI_eq, nI_pos, nI_pos', Nat.reduceAdd, Nat.reduceMul, Nat.reducePow, sk_54 (hv' _ _), sr_54_2 (hv' _ _), sr_54_3 (hv' _ _), sr_54_4 (hv' _ _), sr_54_5 (hv' _ _), sr_54_7 (hv' _ _), sr_54_8 (hv' _ _), sr_54_9 (hv' _ _), sr_54_12 (hv' _ _), sr_54_13 (hv' _ _), sr_54_14 (hv' _ _), sr_54_22 (hv' _ _), sr_54_25 (hv' _ _), sr_54_26 (hv' _ _), sr_54_27 (hv' _ _), sr_54_34 (hv' _ _), sr_54_35 (hv' _ _), sr_54_36 (hv' _ _), sr_54_37 (hv' _ _), sr_54_38 (hv' _ _), sr_54_40 (hv' _ _), sr_54_43 (hv' _ _), sr_54_44 (hv' _ _), sr_54_45 (hv' _ _), sr_54_46 (hv' _ _), sr_54_47 (hv' _ _), lgc_eq, ev_21, ev_f, Bool.false_eq_true, n10']
              have tb := fun (Q : Option Value → gS → Prop) (x : Int64) => t_bounded (d := d + 1) (g := b0 + t1) (x := x) (live := false) (b := false) (Q := Q) hv
              simp only [Bool.false_and, Bool.or_false, Bool.false_eq_true, if_false, bI_F] at tb
              simp (disch := omega) only [e_221_134, e_221_135, n10, n01, Nat.lt_irrefl, Nat.not_lt_zero, ne_eq, Nat.add_zero, Nat.one_ne_zero, Nat.zero_ne_one, Nat.reduceEqDiff, bI_T, bI_F, bI_0, bI_1, bI_01, not_and_self, true_and, and_true, not_true_eq_false, not_false_eq_true, false_imp_iff, true_imp_iff, imp_self, gPv_n, gPv_i, gPv_r, gPv_0, Option.toList_some, Option.toList_none, List.singleton_append, List.cons_append, List.nil_append, List.length_nil, List.length_cons, Nat.zero_le, Nat.reduceAdd, Nat.reduceLeDiff, or_true, true_or, false_or, or_false, and_self, and_false, false_and, implies_true, Option.some.injEq, exists_eq_left', nL, nI_add, nI_mul, nI_clamp, nI_ltI, nI_leI, nI_eq, nI_pos, nI_pos', Nat.reduceAdd, Nat.reduceMul, Nat.reducePow, tb]
              simp only [bI_F] at ih
              exact ih _ _ _ _ Q trivial K
            · simp (disch := omega) only [e_221_76, e_221_78, e_221_80, e_221_83, e_221_85, e_221_86, e_221_87, e_221_90, e_221_91, e_221_92, e_221_95, e_221_98, e_221_99, e_221_102, e_221_103, e_221_106, e_221_107, e_221_110, e_221_111, e_221_113, e_221_114, e_221_116, e_221_119, e_221_120, e_221_122, e_221_123, e_221_126, e_221_127, e_221_129, e_221_130, e_221_131, e_221_134, e_221_135, n10, n01, Nat.lt_irrefl, Nat.not_lt_zero, ne_eq, Nat.add_zero, Nat.one_ne_zero, Nat.zero_ne_one, Nat.reduceEqDiff, bI_T, bI_F, bI_0, bI_1, bI_01, not_and_self, true_and, and_true, not_true_eq_false, not_false_eq_true, false_imp_iff, true_imp_iff, imp_self, gPv_n, gPv_i, gPv_r, gPv_0, Option.toList_some, Option.toList_none, List.singleton_append, List.cons_append, List.nil_append, List.length_nil, List.length_cons, Nat.zero_le, Nat.reduceAdd, Nat.reduceLeDiff, or_true, true_or, false_or, or_false, and_self, and_false, false_and, implies_true, Option.some.injEq, exists_eq_left', nL, nI_add, nI_mul, nI_clamp, nI_ltI, nI_leI, nI_eq, nI_pos, nI_pos', Nat.reduceAdd, Nat.reduceMul, Nat.reducePow, sk_54 (hv' _ _), sr_54_2 (hv' _ _), sr_54_3 (hv' _ _), sr_54_4 (hv' _ _), sr_54_5 (hv' _ _), sr_54_7 (hv' _ _), sr_54_8 (hv' _ _), sr_54_9 (hv' _ _), sr_54_12 (hv' _ _), sr_54_13 (hv' _ _), sr_54_14 (hv' _ _), sr_54_22 (hv' _ _), sr_54_25 (hv' _ _), sr_54_26 (hv' _ _), sr_54_27 (hv' _ _), sr_54_34 (hv' _ _), sr_54_35 (hv' _ _), sr_54_36 (hv' _ _), sr_54_37 (hv' _ _), sr_54_38 (hv' _ _), sr_54_40 (hv' _ _), sr_54_43 (hv' _ _), sr_54_44 (hv' _ _), sr_54_45 (hv' _ _), sr_54_46 (hv' _ _), sr_54_47 (hv' _ _), lgc_eq, ev_21, ev_t, Bool.false_eq_true, n10']
              have tb := fun (Q : Option Value → gS → Prop) (x : Int64) => t_bounded (d := d + 1) (g := b0 + t1) (x := x) (live := false) (b := true) (Q := Q) hv
              simp only [Bool.false_and, Bool.or_false, Bool.false_eq_true, if_true, bI_F] at tb
              simp (disch := omega) only [e_221_134, e_221_135, n10, n01, Nat.lt_irrefl, Nat.not_lt_zero, ne_eq, Nat.add_zero, Nat.one_ne_zero, Nat.zero_ne_one, Nat.reduceEqDiff, bI_T, bI_F, bI_0, bI_1, bI_01, not_and_self, true_and, and_true, not_true_eq_false, not_false_eq_true, false_imp_iff, true_imp_iff, imp_self, gPv_n, gPv_i, gPv_r, gPv_0, Option.toList_some, Option.toList_none, List.singleton_append, List.cons_append, List.nil_append, List.length_nil, List.length_cons, Nat.zero_le, Nat.reduceAdd, Nat.reduceLeDiff, or_true, true_or, false_or, or_false, and_self, and_false, false_and, implies_true, Option.some.injEq, exists_eq_left', nL, nI_add, nI_mul, nI_clamp, nI_ltI, nI_leI, nI_eq, nI_pos, nI_pos', Nat.reduceAdd, Nat.reduceMul, Nat.reducePow, tb]
              simp only [bI_F] at ih
              exact ih _ _ _ _ Q trivial K
          · have op := op_fl0 (f0 := f0) (g := g) (W := W) (b := b) (by simpa using hy)
            simp only [Bool.true_and] at ih K ⊢
            rw [op] at ih
            have tb := fun (Q : Option Value → gS → Prop) (x : Int64) => t_bounded (d := d + 1) (g := b0 + t1) (x := x) (live := true) (b := true) (Q := Q) hv
            simp only [Bool.true_or, if_true, bI_T] at tb
            simp only [bI_T] at ih
            cases hbb : (b || (f0 W).isNone || (g W).isNone)
            · simp (disch := omega) only [e_221_76, e_221_78, e_221_80, e_221_83, e_221_85, e_221_86, e_221_87, e_221_90, e_221_91, e_221_92, e_221_95, e_221_98, e_221_99, e_221_102, e_221_103, e_221_106, e_221_107, e_221_110, e_221_111, e_221_113, e_221_114, e_221_116, e_221_119, e_221_120, e_221_122, e_221_123, e_221_126, e_221_127, e_221_129, e_221_130, e_221_131, e_221_134, e_221_135, n10, n01, Nat.lt_irrefl, Nat.not_lt_zero, ne_eq, Nat.add_zero, Nat.one_ne_zero, Nat.zero_ne_one, Nat.reduceEqDiff, bI_T, bI_F, bI_0, bI_1, bI_01, not_and_self, true_and, and_true, not_true_eq_false, not_false_eq_true, false_imp_iff, true_imp_iff, imp_self, gPv_n, gPv_i, gPv_r, gPv_0, Option.toList_some, Option.toList_none, List.singleton_append, List.cons_append, List.nil_append, List.length_nil, List.length_cons, Nat.zero_le, Nat.reduceAdd, Nat.reduceLeDiff, or_true, true_or, false_or, or_false, and_self, and_false, false_and, implies_true, Option.some.injEq, exists_eq_left', nL, nI_add, nI_mul, nI_clamp, nI_ltI, nI_leI, nI_eq, nI_pos, nI_pos', Nat.reduceAdd, Nat.reduceMul, Nat.reducePow, sk_54 (hv' _ _), sr_54_2 (hv' _ _), sr_54_3 (hv' _ _), sr_54_4 (hv' _ _), sr_54_5 (hv' _ _), sr_54_7 (hv' _ _), sr_54_8 (hv' _ _), sr_54_9 (hv' _ _), sr_54_12 (hv' _ _), sr_54_13 (hv' _ _), sr_54_14 (hv' _ _), sr_54_22 (hv' _ _), sr_54_25 (hv' _ _), sr_54_26 (hv' _ _), sr_54_27 (hv' _ _), sr_54_34 (hv' _ _), sr_54_35 (hv' _ _), sr_54_36 (hv' _ _), sr_54_37 (hv' _ _), sr_54_38 (hv' _ _), sr_54_40 (hv' _ _), sr_54_43 (hv' _ _), sr_54_44 (hv' _ _), sr_54_45 (hv' _ _), sr_54_46 (hv' _ _), sr_54_47 (hv' _ _), lgc_eq, ev_21, ev_t, Bool.false_eq_true, n10', tb]
              exact ih _ _ _ _ Q (fun _ z => absurd z (by simp)) K
            · simp (disch := omega) only [e_221_76, e_221_78, e_221_80, e_221_83, e_221_85, e_221_86, e_221_87, e_221_90, e_221_91, e_221_92, e_221_95, e_221_98, e_221_99, e_221_102, e_221_103, e_221_106, e_221_107, e_221_110, e_221_111, e_221_113, e_221_114, e_221_116, e_221_119, e_221_120, e_221_122, e_221_123, e_221_126, e_221_127, e_221_129, e_221_130, e_221_131, e_221_134, e_221_135, n10, n01, Nat.lt_irrefl, Nat.not_lt_zero, ne_eq, Nat.add_zero, Nat.one_ne_zero, Nat.zero_ne_one, Nat.reduceEqDiff, bI_T, bI_F, bI_0, bI_1, bI_01, not_and_self, true_and, and_true, not_true_eq_false, not_false_eq_true, false_imp_iff, true_imp_iff, imp_self, gPv_n, gPv_i, gPv_r, gPv_0, Option.toList_some, Option.toList_none, List.singleton_append, List.cons_append, List.nil_append, List.length_nil, List.length_cons, Nat.zero_le, Nat.reduceAdd, Nat.reduceLeDiff, or_true, true_or, false_or, or_false, and_self, and_false, false_and, implies_true, Option.some.injEq, exists_eq_left', nL, nI_add, nI_mul, nI_clamp, nI_ltI, nI_leI, nI_eq, nI_pos, nI_pos', Nat.reduceAdd, Nat.reduceMul, Nat.reducePow, sk_54 (hv' _ _), sr_54_2 (hv' _ _), sr_54_3 (hv' _ _), sr_54_4 (hv' _ _), sr_54_5 (hv' _ _), sr_54_7 (hv' _ _), sr_54_8 (hv' _ _), sr_54_9 (hv' _ _), sr_54_12 (hv' _ _), sr_54_13 (hv' _ _), sr_54_14 (hv' _ _), sr_54_22 (hv' _ _), sr_54_25 (hv' _ _), sr_54_26 (hv' _ _), sr_54_27 (hv' _ _), sr_54_34 (hv' _ _), sr_54_35 (hv' _ _), sr_54_36 (hv' _ _), sr_54_37 (hv' _ _), sr_54_38 (hv' _ _), sr_54_40 (hv' _ _), sr_54_43 (hv' _ _), sr_54_44 (hv' _ _), sr_54_45 (hv' _ _), sr_54_46 (hv' _ _), sr_54_47 (hv' _ _), lgc_eq, ev_21, ev_t, Bool.false_eq_true, n10', tb]
              exact ih _ _ _ _ Q (fun _ z => absurd z (by simp)) K
        · simp (disch := omega) only [e_221_76, e_221_78, e_221_80, e_221_83, e_221_85, e_221_86, e_221_87, e_221_113, e_221_114, e_221_116, e_221_119, e_221_120, e_221_122, e_221_123, e_221_126, e_221_127, e_221_129, e_221_130, e_221_131, e_221_134, e_221_135, n10, n01, Nat.lt_irrefl, Nat.not_lt_zero, ne_eq, Nat.add_zero, Nat.one_ne_zero, Nat.zero_ne_one, Nat.reduceEqDiff, bI_T, bI_F, bI_0, bI_1, bI_01, not_and_self, true_and, and_true, not_true_eq_false, not_false_eq_true, false_imp_iff, true_imp_iff, imp_self, gPv_n, gPv_i, gPv_r, gPv_0, Option.toList_some, Option.toList_none, List.singleton_append, List.cons_append, List.nil_append, List.length_nil, List.length_cons, Nat.zero_le, Nat.reduceAdd, Nat.reduceLeDiff, or_true, true_or, false_or, or_false, and_self, and_false, false_and, implies_true, Option.some.injEq, exists_eq_left', nL, nI_add, nI_mul, nI_clamp, nI_ltI, nI_leI, nI_eq, nI_pos, nI_pos', Nat.reduceAdd, Nat.reduceMul, Nat.reducePow, sk_54 (hv' _ _), sr_54_2 (hv' _ _), sr_54_3 (hv' _ _), sr_54_4 (hv' _ _), sr_54_5 (hv' _ _), sr_54_7 (hv' _ _), sr_54_8 (hv' _ _), sr_54_9 (hv' _ _), sr_54_12 (hv' _ _), sr_54_13 (hv' _ _), sr_54_14 (hv' _ _), sr_54_22 (hv' _ _), sr_54_25 (hv' _ _), sr_54_26 (hv' _ _), sr_54_27 (hv' _ _), sr_54_34 (hv' _ _), sr_54_35 (hv' _ _), sr_54_36 (hv' _ _), sr_54_37 (hv' _ _), sr_54_38 (hv' _ _), sr_54_40 (hv' _ _), sr_54_43 (hv' _ _), sr_54_44 (hv' _ _), sr_54_45 (hv' _ _), sr_54_46 (hv' _ _), sr_54_47 (hv' _ _), lgc_eq, y0, t_bounded hv]
          cases live
          · simp only [Bool.false_and, Bool.or_false, Bool.false_eq_true, false_imp_iff] at ih K ⊢
            exact ih _ _ _ _ Q trivial K
          · have op := op_fl (k := 3) (f0 := f0) (g := g) (W := W) (b := b) (x := x0) (y := y) (by simpa using hx) (by simpa using hy) (fun z => y0 z.2)
            have ev2 : opv 3 x0 y = x0 / y := by simp [opv]
            rw [ev2] at op
            simp only [Bool.true_and] at ih K ⊢
            rw [op.1]
            refine ih _ _ _ _ Q ?_ K
            intro _ z
            rw [z]
            exact op.2 z
theorem ev_term {d F : Nat} {P : Nat → Nat → zR zS} (X : EvX B b0 n c v W σ) (hP : EvS B b0 W σ 222 (d + 2) P) (hup : pUp P) (hle : pLe n P) (hF : n < F) : EvS B b0 W σ 221 (d + 3) (pChain c 142 147 P cbT F) := by
  intro t q t' q' f h live b Q K
  obtain ⟨t1, q1, f1, h1, h2⟩ := pChain_r h
  have hv' := fun g b => ev_v (g := g) (b := b) X.1
  simp (disch := omega) only [c_221, e_221_0, e_221_1, e_221_2, e_221_5, n10, n01, Nat.lt_irrefl, Nat.not_lt_zero, ne_eq, Nat.add_zero, Nat.one_ne_zero, Nat.zero_ne_one, Nat.reduceEqDiff, bI_T, bI_F, bI_0, bI_1, bI_01, not_and_self, true_and, and_true, not_true_eq_false, not_false_eq_true, false_imp_iff, true_imp_iff, imp_self, gPv_n, gPv_i, gPv_r, gPv_0, Option.toList_some, Option.toList_none, List.singleton_append, List.cons_append, List.nil_append, List.length_nil, List.length_cons, Nat.zero_le, Nat.reduceAdd, Nat.reduceLeDiff, or_true, true_or, false_or, or_false, and_self, and_false, false_and, implies_true, Option.some.injEq, exists_eq_left', sk_54 (hv' _ _), sr_54_2 (hv' _ _), sr_54_3 (hv' _ _), sr_54_4 (hv' _ _), sr_54_5 (hv' _ _), sr_54_7 (hv' _ _), sr_54_8 (hv' _ _), sr_54_9 (hv' _ _), sr_54_12 (hv' _ _), sr_54_13 (hv' _ _), sr_54_14 (hv' _ _), sr_54_22 (hv' _ _), sr_54_25 (hv' _ _), sr_54_26 (hv' _ _), sr_54_27 (hv' _ _), sr_54_34 (hv' _ _), sr_54_35 (hv' _ _), sr_54_36 (hv' _ _), sr_54_37 (hv' _ _), sr_54_38 (hv' _ _), sr_54_40 (hv' _ _), sr_54_43 (hv' _ _), sr_54_44 (hv' _ _), sr_54_45 (hv' _ _), sr_54_46 (hv' _ _), sr_54_47 (hv' _ _)]
  refine hP _ _ _ _ _ h1 live b _ ?_
  intro x hx
  simp (disch := omega) only [e_221_5, n10, n01, Nat.lt_irrefl, Nat.not_lt_zero, ne_eq, Nat.add_zero, Nat.one_ne_zero, Nat.zero_ne_one, Nat.reduceEqDiff, bI_T, bI_F, bI_0, bI_1, bI_01, not_and_self, true_and, and_true, not_true_eq_false, not_false_eq_true, false_imp_iff, true_imp_iff, imp_self, gPv_n, gPv_i, gPv_r, gPv_0, Option.toList_some, Option.toList_none, List.singleton_append, List.cons_append, List.nil_append, List.length_nil, List.length_cons, Nat.zero_le, Nat.reduceAdd, Nat.reduceLeDiff, or_true, true_or, false_or, or_false, and_self, and_false, false_and, implies_true, Option.some.injEq, exists_eq_left']
  exact ev_tl X hP hup hle F t1 q1 f1 t' q' f (by omega) (hle _ _ _ _ _ h1) h2 live b x _ _ _ Q hx K
end
