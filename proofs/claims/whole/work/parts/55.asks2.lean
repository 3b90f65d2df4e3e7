/-! the model asks a law: the whole -/
section
variable {B b0 n : Nat} {c v : Nat → Nat} {W : Nat → Int32}
theorem ak_tail {d F g t1 t' q1 q' : Nat} {Q : Option Value → gS → Prop} {σ : gS} {tk y4 : Int32} {tb isT : Bool} {s : Int64} {x1 x2 x3 x6 x7 x8 x9 : Option Value} {f : zS} {e : zT} (X : EvX B b0 n c v W σ) (hF : n < F) (hg : g = b0 + t1) (ht1 : t1 ≤ n)
    (hc : (c t1 = 3 ∧ pTestD c v F 8 (t1 + 1) q1 = .inr (t', q', e)) ∨ (c t1 ≠ 3 ∧ t' = t1 ∧ e = fun _ => some true))
    (K : ∀ x (x9 : Option Value), ((e W).isNone = false → e W = some x) → wp (d + 66) pr_227 Q 173 [some (.ref (B + 54)), x1, x2, x3, some (.int y4), some (.int (bI (isT = false))), some (.long s), none, some (.int (bI ((f W).isNone = true))), x9] [] (ev (bs σ B (if (x && !(e W).isNone && !(f W).isNone && isT) = true then cl9 s else tk) (tb || (x && !(e W).isNone && !(f W).isNone && !isT))) B (b0 + t' + 1) (e W).isNone)) :
    wp (d + 66) pr_227 Q 232 [some (.ref (B + 54)), x1, x2, x3, some (.int y4), some (.int (bI (isT = false))), x6, x7, x8, x9] [.long s] (ev (bs σ B tk tb) B g (f W).isNone) := by
  subst hg
  have X' := EvX_bs (tk := tk) (tb := tb) X
  have hv' := fun g b => ev_v (g := g) (b := b) X'.1
  have hn := X.2.2.2.2.2.1
  rcases hc with ⟨h1, h2⟩ | ⟨h1, rfl, rfl⟩
  · have ht := ev_test X' hF 8 d _ _ _ _ _ h2 true false
    rw [show d + 7 * 8 + 10 = d + 66 from by omega] at ht
    simp only [Bool.true_and, Bool.false_or, bI_T, true_imp_iff] at ht
    simp (disch := omega) only [e_227_232, e_227_234, e_227_235, e_227_238, e_227_240, e_227_241, e_227_242, e_227_245, e_227_246, e_227_247, e_227_250, e_227_253, e_227_254, e_227_255, n10, n01, Nat.lt_irrefl, Nat.not_lt_zero, ne_eq, Nat.add_zero, Nat.one_ne_zero, Nat.zero_ne_one, Nat.reduceEqDiff, bI_T, bI_F, bI_0, bI_1, bI_01, not_and_self, true_and, and_true, not_true_eq_false, not_false_eq_true, false_imp_iff, true_imp_iff, imp_self, gPv_n, gPv_i, gPv_r, gPv_0, Option.toList_some, Option.toList_none, List.singleton_append, List.cons_append, List.nil_append, List.length_nil, List.length_cons, Nat.zero_le, Nat.reduceAdd, Nat.reduceLeDiff, or_true, true_or, false_or, or_false, and_self, and_false, false_and, implies_true, Option.some.injEq, exists_eq_left', nL, nI_add, nI_mul, nI_clamp, nI_ltI, nI_leI, nI_eq, nI_pos, nI_pos', Nat.reduceAdd, Nat.reduceMul, Nat.reducePow, sk_54 (hv' _ _), sr_54_2 (hv' _ _), sr_54_3 (hv' _ _), sr_54_4 (hv' _ _), sr_54_5 (hv' _ _), sr_54_7 (hv' _ _), sr_54_8 (hv' _ _), sr_54_9 (hv' _ _), sr_54_12 (hv' _ _), sr_54_13 (hv' _ _), sr_54_14 (hv' _ _), sr_54_22 (hv' _ _), sr_54_25 (hv' _ _), sr_54_26 (hv' _ _), sr_54_27 (hv' _ _), sr_54_34 (hv' _ _), sr_54_35 (hv' _ _), sr_54_36 (hv' _ _), sr_54_37 (hv' _ _), sr_54_38 (hv' _ _), sr_54_40 (hv' _ _), sr_54_43 (hv' _ _), sr_54_44 (hv' _ _), sr_54_45 (hv' _ _), sr_54_46 (hv' _ _), sr_54_47 (hv' _ _), ev_21, ev_f, t_passT X' (show t1 ≤ 1000 by omega) h1]
    refine ht _ ?_
    intro x hx
    have af := ak_fin (d := d + 66) (g := b0 + t') (Q := Q) (σ := σ) (tk := tk) (y4 := y4) (tb := tb) (x := x) (eN := (e W).isNone) (fN := (f W).isNone) (isT := isT) (s := s) (x1 := x1) (x2 := x2) (x3 := x3) (x9 := x9) X.1 (fun x9 => K x x9 hx)
    cases x
    · simp (disch := omega) only [e_227_258, e_227_261, e_227_262, e_227_265, n10, n01, Nat.lt_irrefl, Nat.not_lt_zero, ne_eq, Nat.add_zero, Nat.one_ne_zero, Nat.zero_ne_one, Nat.reduceEqDiff, bI_T, bI_F, bI_0, bI_1, bI_01, not_and_self, true_and, and_true, not_true_eq_false, not_false_eq_true, false_imp_iff, true_imp_iff, imp_self, gPv_n, gPv_i, gPv_r, gPv_0, Option.toList_some, Option.toList_none, List.singleton_append, List.cons_append, List.nil_append, List.length_nil, List.length_cons, Nat.zero_le, Nat.reduceAdd, Nat.reduceLeDiff, or_true, true_or, false_or, or_false, and_self, and_false, false_and, implies_true, Option.some.injEq, exists_eq_left', nL, nI_add, nI_mul, nI_clamp, nI_ltI, nI_leI, nI_eq, nI_pos, nI_pos', Nat.reduceAdd, Nat.reduceMul, Nat.reducePow, Bool.false_eq_true]
      simp only [Bool.false_eq_true, bI_F] at af
      exact af
    · simp (disch := omega) only [e_227_258, e_227_261, e_227_262, e_227_265, n10, n01, Nat.lt_irrefl, Nat.not_lt_zero, ne_eq, Nat.add_zero, Nat.one_ne_zero, Nat.zero_ne_one, Nat.reduceEqDiff, bI_T, bI_F, bI_0, bI_1, bI_01, not_and_self, true_and, and_true, not_true_eq_false, not_false_eq_true, false_imp_iff, true_imp_iff, imp_self, gPv_n, gPv_i, gPv_r, gPv_0, Option.toList_some, Option.toList_none, List.singleton_append, List.cons_append, List.nil_append, List.length_nil, List.length_cons, Nat.zero_le, Nat.reduceAdd, Nat.reduceLeDiff, or_true, true_or, false_or, or_false, and_self, and_false, false_and, implies_true, Option.some.injEq, exists_eq_left', nL, nI_add, nI_mul, nI_clamp, nI_ltI, nI_leI, nI_eq, nI_pos, nI_pos', Nat.reduceAdd, Nat.reduceMul, Nat.reducePow]
      simp only [bI_T] at af
      exact af
  · have af := ak_fin (d := d + 66) (g := b0 + t') (Q := Q) (σ := σ) (tk := tk) (y4 := y4) (tb := tb) (x := true) (eN := false) (fN := (f W).isNone) (isT := isT) (s := s) (x1 := x1) (x2 := x2) (x3 := x3) (x9 := x9) X.1 (fun x9 => K true x9 (fun _ => rfl))
    simp (disch := omega) only [e_227_232, e_227_234, e_227_235, e_227_238, e_227_240, e_227_241, e_227_242, e_227_245, e_227_246, e_227_247, e_227_250, e_227_253, e_227_254, e_227_255, e_227_258, e_227_261, e_227_262, e_227_265, n10, n01, Nat.lt_irrefl, Nat.not_lt_zero, ne_eq, Nat.add_zero, Nat.one_ne_zero, Nat.zero_ne_one, Nat.reduceEqDiff, bI_T, bI_F, bI_0, bI_1, bI_01, not_and_self, true_and, and_true, not_true_eq_false, not_false_eq_true, false_imp_iff, true_imp_iff, imp_self, gPv_n, gPv_i, gPv_r, gPv_0, Option.toList_some, Option.toList_none, List.singleton_append, List.cons_append, List.nil_append, List.length_nil, List.length_cons, Nat.zero_le, Nat.reduceAdd, Nat.reduceLeDiff, or_true, true_or, false_or, or_false, and_self, and_false, false_and, implies_true, Option.some.injEq, exists_eq_left', nL, nI_add, nI_mul, nI_clamp, nI_ltI, nI_leI, nI_eq, nI_pos, nI_pos', Nat.reduceAdd, Nat.reduceMul, Nat.reducePow, sk_54 (hv' _ _), sr_54_2 (hv' _ _), sr_54_3 (hv' _ _), sr_54_4 (hv' _ _), sr_54_5 (hv' _ _), sr_54_7 (hv' _ _), sr_54_8 (hv' _ _), sr_54_9 (hv' _ _), sr_54_12 (hv' _ _), sr_54_13 (hv' _ _), sr_54_14 (hv' _ _), sr_54_22 (hv' _ _), sr_54_25 (hv' _ _), sr_54_26 (hv' _ _), sr_54_27 (hv' _ _), sr_54_34 (hv' _ _), sr_54_35 (hv' _ _), sr_54_36 (hv' _ _), sr_54_37 (hv' _ _), sr_54_38 (hv' _ _), sr_54_40 (hv' _ _), sr_54_43 (hv' _ _), sr_54_44 (hv' _ _), sr_54_45 (hv' _ _), sr_54_46 (hv' _ _), sr_54_47 (hv' _ _), ev_21, ev_f, t_passF X' (show t' ≤ 1000 by omega) (show 3 < 1000 by omega) h1]
    simp only [bI_T] at af
    exact af
theorem pClause_r {F t q t' q' : Nat} {cl : zC} (h : pClause c v F t q = .inr (t', q', cl)) : ∃ t1 q1 f, ((c t = 1 ∧ pSumD c v F 8 (t + 1) q = .inr (t1, q1, f)) ∨ (c t = 2 ∧ t1 = t + 1 ∧ q1 = q ∧ f = fun _ => some 0)) ∧ ((c t1 = 3 ∧ ∃ e, pTestD c v F 8 (t1 + 1) q1 = .inr (t', q', e) ∧ cl = (decide (c t = 1), true, f, e)) ∨ (c t1 ≠ 3 ∧ t' = t1 ∧ q' = q1 ∧ cl = (decide (c t = 1), false, f, fun _ => some true))) := by
  simp only [pClause] at h
  cases hH : pHead c v F t q with
  | inl e => rw [hH] at h; cases h
  | inr x =>
    obtain ⟨t1, q1, f⟩ := x
    rw [hH] at h
    refine ⟨t1, q1, f, ?_, ?_⟩
    · simp only [pHead] at hH
      by_cases h1 : c t = 1
      · rw [if_pos h1] at hH
        exact Or.inl ⟨h1, hH⟩
      · rw [if_neg h1] at hH
        by_cases h2 : c t = 2
        · rw [if_pos h2] at hH
          cases hH
          exact Or.inr ⟨h2, rfl, rfl, rfl⟩
        · rw [if_neg h2] at hH; cases hH
    · simp only at h
      by_cases h3 : c t1 = 3
      · rw [if_pos h3] at h
        cases hT : pTestD c v F 8 (t1 + 1) q1 with
        | inl e => rw [hT] at h; cases h
        | inr y =>
          obtain ⟨t2, q2, e⟩ := y
          rw [hT] at h
          cases h
          exact Or.inl ⟨h3, e, rfl, rfl⟩
      · rw [if_neg h3] at h
        cases h
        exact Or.inr ⟨h3, rfl, rfl, rfl⟩
theorem pLawL_r {F k t q t' q' : Nat} {L : List zC} (h : pLawL c v F n (k + 1) t q = .inr (t', q', L)) : ∃ t1 q1 cl, pClause c v F t q = .inr (t1, q1, cl) ∧ ((c t1 = 159 ∧ ∃ L', pLawL c v F n k (t1 + 1) q1 = .inr (t', q', L') ∧ L = cl :: L') ∨ (c t1 ≠ 159 ∧ ¬ t1 < n ∧ t' = t1 ∧ q' = q1 ∧ L = [cl])) := by
  simp only [pLawL] at h
  cases hC : pClause c v F t q with
  | inl e => rw [hC] at h; cases h
  | inr x =>
    obtain ⟨t1, q1, cl⟩ := x
    rw [hC] at h
    refine ⟨t1, q1, cl, rfl, ?_⟩
    simp only at h
    by_cases h1 : c t1 = 159
    · rw [if_pos h1] at h
      cases hL : pLawL c v F n k (t1 + 1) q1 with
      | inl e => rw [hL] at h; cases h
      | inr y =>
        obtain ⟨t2, q2, L'⟩ := y
        rw [hL] at h
        cases h
        exact Or.inl ⟨h1, L', rfl, rfl⟩
    · rw [if_neg h1] at h
      by_cases h2 : t1 < n
      · rw [if_pos h2] at h; cases h
      · rw [if_neg h2] at h
        cases h
        exact Or.inr ⟨h1, h2, rfl, rfl, rfl⟩
theorem pLawL_ne {F k t q t' q' : Nat} {L : List zC} (h : pLawL c v F n k t q = .inr (t', q', L)) : c t = 1 ∨ c t = 2 := by
  cases k with
  | zero => cases h
  | succ k =>
    obtain ⟨t1, q1, cl, h1, _⟩ := pLawL_r h
    obtain ⟨t2, q2, f, h2, _⟩ := pClause_r h1
    rcases h2 with ⟨h2, _⟩ | ⟨h2, _⟩
    · exact Or.inl h2
    · exact Or.inr h2
theorem zHo_e {cl : zC} {W : Nat → Int32} {x : Bool} (hx : (cl.2.2.2 W).isNone = false → cl.2.2.2 W = some x) : (x && !(cl.2.2.2 W).isNone && !(cl.2.2.1 W).isNone) = zHo cl W := by
  simp only [zHo]
  cases he : cl.2.2.2 W with
  | none => simp
  | some y =>
    have := hx (by rw [he]; rfl)
    rw [he] at this
    cases this
    cases hf : cl.2.2.1 W <;> cases x <;> simp
theorem cl9_z {f : zS} {W : Nat → Int32} {s : Int64} (hs : (f W).isNone = false → f W = some s) (h : (f W).isNone = false) : cl9 s = zClp (f W) := by
  rw [hs h]
  rfl
theorem ak_loop {d F : Nat} {σ : gS} (X : EvX B b0 n c v W σ) (hF : n < F) : ∀ k t q t'' q'' L, pLawL c v F n k t q = .inr (t'', q'', L) → ∀ (tk y4 : Int32) (tb : Bool) (τ : gS) (x1 x2 x3 x5 x6 x7 x8 x9 : Option Value) (Q : Option Value → gS → Prop), sI τ (B + 54) 21 (nI 0) = ev (bs σ B tk tb) B (b0 + t) false → (∀ g b, Q none (ev (bs σ B (L.foldl (zTkF W) tk) (tb || zBar L W)) B g b)) →
    wp (d + 66) pr_227 Q 173 [some (.ref (B + 54)), x1, x2, x3, some (.int y4), x5, x6, x7, x8, x9] [] τ := by
  intro k
  induction k with
  | zero => intro t q t'' q'' L h; cases h
  | succ k ih =>
    intro t q t'' q'' L h tk y4 tb τ x1 x2 x3 x5 x6 x7 x8 x9 Q hτ K
    obtain ⟨t1, q1, cl, h1, h2⟩ := pLawL_r h
    obtain ⟨t2, q2, f, h3, h4⟩ := pClause_r h1
    have Xb := EvX_bs (tk := tk) (tb := tb) X
    have X0 : EvX B b0 n c v W τ := by
      have := EvX_ev (g := b0 + t) (b := false) Xb
      rw [← hτ, EvX_I (by omega)] at this
      exact this
    have hc0 := X.2.2.2.1
    have hn := X.2.2.2.2.2.1
    have hb0 := X.2.2.2.2.2.2.1
    have hct : c t = 1 ∨ c t = 2 := pLawL_ne h
    have ht : t < n := c_le hc0 (by omega)
    have g19 : gI τ (B + 54) 19 = nI (b0 + t) := by
      have : gI (sI τ (B + 54) 21 (nI 0)) (B + 54) 19 = nI (b0 + t) := by rw [hτ, ev_19]
      rw [rI_nk (by omega)] at this
      exact this
    have g20 := X0.2.1
    have hv' := fun g b => ev_v (g := g) (b := b) Xb.1
    have hvt := X0.1
    have z : ¬ b0 + n ≤ b0 + t := by omega
    have ht1n : t1 ≤ n := by
      rcases h4 with ⟨_, e, a, _⟩ | ⟨_, a, _⟩
      · exact pTest_le hc0 8 _ _ _ _ _ a
      · rcases h3 with ⟨_, b⟩ | ⟨_, b, _⟩
        · rw [a]; exact pSum_le hc0 8 _ _ _ _ _ b
        · omega
    have rest : ∀ (isT : Bool) (s : Int64) (x8 : Option Value) (x : Bool) (x9 : Option Value), isT = cl.1 → ((cl.2.2.1 W).isNone = false → cl.2.2.1 W = some s) → ((cl.2.2.2 W).isNone = false → cl.2.2.2 W = some x) → wp (d + 66) pr_227 Q 173 [some (.ref (B + 54)), x1, x2, x3, some (.int y4), some (.int (bI (isT = false))), some (.long s), none, x8, x9] [] (ev (bs σ B (if (x && !(cl.2.2.2 W).isNone && !(cl.2.2.1 W).isNone && isT) = true then cl9 s else tk) (tb || (x && !(cl.2.2.2 W).isNone && !(cl.2.2.1 W).isNone && !isT))) B (b0 + t1 + 1) (cl.2.2.2 W).isNone) := by
      intro isT s x8 x x9 hi hs hx
      subst hi
      rw [zHo_e hx]
      have etk : (if (zHo cl W && cl.1) = true then cl9 s else tk) = zTkF W tk cl := by
        simp only [zTkF, Bool.and_comm]
        by_cases hh : (cl.1 && zHo cl W) = true
        · rw [if_pos hh, if_pos hh]
          refine cl9_z hs ?_
          simp only [Bool.and_eq_true] at hh
          have := hh.2
          simp only [zHo, Bool.and_eq_true] at this
          cases hf : cl.2.2.1 W with
          | none => rw [hf] at this; exact absurd this.1 (by simp)
          | some _ => rfl
        · rw [if_neg hh, if_neg hh]
      rw [etk]
      rcases h2 with ⟨h5, L', h6, rfl⟩ | ⟨h5, h6, rfl, rfl, rfl⟩
      · refine ih (t1 + 1) q1 t'' q'' L' h6 (zTkF W tk cl) y4 (tb || (zHo cl W && !cl.1)) _ _ _ _ _ _ _ _ _ Q ?_ ?_
        · rw [ev_f]
          rfl
        · intro g b
          have := K g b
          simp only [List.foldl_cons, zBar, List.any_cons] at this
          simp only [zBar]
          rw [Bool.or_assoc, Bool.and_comm (zHo cl W)]
          exact this
      · have hv2 := fun tk tb g b => ev_v (g := g) (b := b) (bs_v (tk := tk) (tb := tb) X.1)
        have z2 : b0 + n ≤ b0 + t'' + 1 := by omega
        have e20 : ∀ tk tb g b, gI (ev (bs σ B tk tb) B g b) (B + 54) 20 = nI (b0 + n) := by
          intro tk tb g b
          rw [ev_k (by omega) (by omega)]
          simp (disch := omega) only [bs, rI_nk]
          exact X.2.1
        simp (disch := omega) only [e_227_173, e_227_174, e_227_177, e_227_178, e_227_181, e_227_356, n10, n01, Nat.lt_irrefl, Nat.not_lt_zero, ne_eq, Nat.add_zero, Nat.one_ne_zero, Nat.zero_ne_one, Nat.reduceEqDiff, bI_T, bI_F, bI_0, bI_1, bI_01, not_and_self, true_and, and_true, not_true_eq_false, not_false_eq_true, false_imp_iff, true_imp_iff, imp_self, gPv_n, gPv_i, gPv_r, gPv_0, Option.toList_some, Option.toList_none, List.singleton_append, List.cons_append, List.nil_append, List.length_nil, List.length_cons, Nat.zero_le, Nat.reduceAdd, Nat.reduceLeDiff, or_true, true_or, false_or, or_false, and_self, and_false, false_and, implies_true, Option.some.injEq, exists_eq_left', nL, nI_add, nI_mul, nI_clamp, nI_ltI, nI_leI, nI_eq, nI_pos, nI_pos', Nat.reduceAdd, Nat.reduceMul, Nat.reducePow, sk_54 (hv2 _ _ _ _), sr_54_2 (hv2 _ _ _ _), sr_54_3 (hv2 _ _ _ _), sr_54_4 (hv2 _ _ _ _), sr_54_5 (hv2 _ _ _ _), sr_54_7 (hv2 _ _ _ _), sr_54_8 (hv2 _ _ _ _), sr_54_9 (hv2 _ _ _ _), sr_54_12 (hv2 _ _ _ _), sr_54_13 (hv2 _ _ _ _), sr_54_14 (hv2 _ _ _ _), sr_54_22 (hv2 _ _ _ _), sr_54_25 (hv2 _ _ _ _), sr_54_26 (hv2 _ _ _ _), sr_54_27 (hv2 _ _ _ _), sr_54_34 (hv2 _ _ _ _), sr_54_35 (hv2 _ _ _ _), sr_54_36 (hv2 _ _ _ _), sr_54_37 (hv2 _ _ _ _), sr_54_38 (hv2 _ _ _ _), sr_54_40 (hv2 _ _ _ _), sr_54_43 (hv2 _ _ _ _), sr_54_44 (hv2 _ _ _ _), sr_54_45 (hv2 _ _ _ _), sr_54_46 (hv2 _ _ _ _), sr_54_47 (hv2 _ _ _ _), ev_19, e20, z2]
        have := K (b0 + t'' + 1) (cl.2.2.2 W).isNone
        simp only [List.foldl_cons, List.foldl_nil, zBar, List.any_cons, List.any_nil, Bool.or_false] at this
        rw [Bool.and_comm (zHo cl W)]
        exact this
    rw [e_227_173]
    rcases h3 with ⟨h3, hs⟩ | ⟨h3, rfl, rfl, rfl⟩
    · have es := ev_sum Xb hF 8 (d + 36) _ _ _ _ _ hs true false
      rw [show d + 36 + 3 * 8 + 6 = d + 66 from by omega] at es
      simp only [Bool.true_and, Bool.false_or, bI_T, true_imp_iff] at es
      have ht2 := pSum_le hc0 8 _ _ _ _ _ hs
      simp (disch := omega) only [e_227_174, e_227_177, e_227_178, e_227_181, e_227_184, e_227_185, e_227_186, e_227_189, e_227_192, e_227_193, e_227_196, e_227_197, e_227_200, e_227_201, e_227_203, e_227_204, e_227_205, e_227_208, e_227_209, e_227_209n, e_227_210, e_227_213, e_227_214, e_227_215, e_227_218, e_227_220, e_227_223, e_227_224, e_227_227, e_227_228, e_227_229, n10, n01, Nat.lt_irrefl, Nat.not_lt_zero, ne_eq, Nat.add_zero, Nat.one_ne_zero, Nat.zero_ne_one, Nat.reduceEqDiff, bI_T, bI_F, bI_0, bI_1, bI_01, not_and_self, true_and, and_true, not_true_eq_false, not_false_eq_true, false_imp_iff, true_imp_iff, imp_self, gPv_n, gPv_i, gPv_r, gPv_0, Option.toList_some, Option.toList_none, List.singleton_append, List.cons_append, List.nil_append, List.length_nil, List.length_cons, Nat.zero_le, Nat.reduceAdd, Nat.reduceLeDiff, or_true, true_or, false_or, or_false, and_self, and_false, false_and, implies_true, Option.some.injEq, exists_eq_left', nL, nI_add, nI_mul, nI_clamp, nI_ltI, nI_leI, nI_eq, nI_pos, nI_pos', Nat.reduceAdd, Nat.reduceMul, Nat.reducePow, sk_54 hvt, sr_54_2 hvt, sr_54_3 hvt, sr_54_4 hvt, sr_54_5 hvt, sr_54_7 hvt, sr_54_8 hvt, sr_54_9 hvt, sr_54_12 hvt, sr_54_13 hvt, sr_54_14 hvt, sr_54_22 hvt, sr_54_25 hvt, sr_54_26 hvt, sr_54_27 hvt, sr_54_34 hvt, sr_54_35 hvt, sr_54_36 hvt, sr_54_37 hvt, sr_54_38 hvt, sr_54_40 hvt, sr_54_43 hvt, sr_54_44 hvt, sr_54_45 hvt, sr_54_46 hvt, sr_54_47 hvt, sk_54 (hv' _ _), sr_54_2 (hv' _ _), sr_54_3 (hv' _ _), sr_54_4 (hv' _ _), sr_54_5 (hv' _ _), sr_54_7 (hv' _ _), sr_54_8 (hv' _ _), sr_54_9 (hv' _ _), sr_54_12 (hv' _ _), sr_54_13 (hv' _ _), sr_54_14 (hv' _ _), sr_54_22 (hv' _ _), sr_54_25 (hv' _ _), sr_54_26 (hv' _ _), sr_54_27 (hv' _ _), sr_54_34 (hv' _ _), sr_54_35 (hv' _ _), sr_54_36 (hv' _ _), sr_54_37 (hv' _ _), sr_54_38 (hv' _ _), sr_54_40 (hv' _ _), sr_54_43 (hv' _ _), sr_54_44 (hv' _ _), sr_54_45 (hv' _ _), sr_54_46 (hv' _ _), sr_54_47 (hv' _ _), g19, g20, z, t_codeAt0 X0 ht, h3, hτ, ev_19, ev_s19]
      refine es _ ?_
      intro s hs2
      simp (disch := omega) only [n10, n01, Nat.lt_irrefl, Nat.not_lt_zero, ne_eq, Nat.add_zero, Nat.one_ne_zero, Nat.zero_ne_one, Nat.reduceEqDiff, bI_T, bI_F, bI_0, bI_1, bI_01, not_and_self, true_and, and_true, not_true_eq_false, not_false_eq_true, false_imp_iff, true_imp_iff, imp_self, gPv_n, gPv_i, gPv_r, gPv_0, Option.toList_some, Option.toList_none, List.singleton_append, List.cons_append, List.nil_append, List.length_nil, List.length_cons, Nat.zero_le, Nat.reduceAdd, Nat.reduceLeDiff, or_true, true_or, false_or, or_false, and_self, and_false, false_and, implies_true, Option.some.injEq, exists_eq_left']
      have tl := ak_tail (d := d) (F := F) (g := b0 + t2) (t1 := t2) (t' := t1) (q1 := q2) (q' := q1) (Q := Q) (tk := tk) (y4 := y4) (tb := tb) (isT := true) (s := s) (x1 := x1) (x2 := x2) (x3 := x3) (x6 := x6) (x7 := x7) (x8 := x8) (x9 := x9) (f := f) (e := cl.2.2.2) X hF rfl ht2
      simp only [Bool.true_eq_false, bI_F] at tl
      have hcl : cl.1 = true ∧ cl.2.2.1 = f := by
        rcases h4 with ⟨_, e, _, rfl⟩ | ⟨_, _, _, rfl⟩ <;> exact ⟨decide_eq_true h3, rfl⟩
      refine tl ?_ ?_
      · rcases h4 with ⟨a1, e, a2, rfl⟩ | ⟨a1, a2, a3, rfl⟩
        · exact Or.inl ⟨a1, a2⟩
        · exact Or.inr ⟨a1, a2, rfl⟩
      · intro x x9 hx
        have := rest true s (some (.int (bI ((f W).isNone = true)))) x x9 hcl.1.symm (by rw [hcl.2]; exact hs2) hx
        rw [hcl.2] at this
        simp only [Bool.true_eq_false, bI_F] at this
        exact this
    · simp (disch := omega) only [e_227_174, e_227_177, e_227_178, e_227_181, e_227_184, e_227_185, e_227_186, e_227_189, e_227_192, e_227_193, e_227_196, e_227_197, e_227_200, e_227_201, e_227_203, e_227_204, e_227_205, e_227_208, e_227_209, e_227_209n, e_227_210, e_227_213, e_227_214, e_227_215, e_227_218, e_227_220, e_227_223, e_227_224, e_227_227, e_227_228, e_227_229, n10, n01, Nat.lt_irrefl, Nat.not_lt_zero, ne_eq, Nat.add_zero, Nat.one_ne_zero, Nat.zero_ne_one, Nat.reduceEqDiff, bI_T, bI_F, bI_0, bI_1, bI_01, not_and_self, true_and, and_true, not_true_eq_false, not_false_eq_true, false_imp_iff, true_imp_iff, imp_self, gPv_n, gPv_i, gPv_r, gPv_0, Option.toList_some, Option.toList_none, List.singleton_append, List.cons_append, List.nil_append, List.length_nil, List.length_cons, Nat.zero_le, Nat.reduceAdd, Nat.reduceLeDiff, or_true, true_or, false_or, or_false, and_self, and_false, false_and, implies_true, Option.some.injEq, exists_eq_left', nL, nI_add, nI_mul, nI_clamp, nI_ltI, nI_leI, nI_eq, nI_pos, nI_pos', Nat.reduceAdd, Nat.reduceMul, Nat.reducePow, sk_54 hvt, sr_54_2 hvt, sr_54_3 hvt, sr_54_4 hvt, sr_54_5 hvt, sr_54_7 hvt, sr_54_8 hvt, sr_54_9 hvt, sr_54_12 hvt, sr_54_13 hvt, sr_54_14 hvt, sr_54_22 hvt, sr_54_25 hvt, sr_54_26 hvt, sr_54_27 hvt, sr_54_34 hvt, sr_54_35 hvt, sr_54_36 hvt, sr_54_37 hvt, sr_54_38 hvt, sr_54_40 hvt, sr_54_43 hvt, sr_54_44 hvt, sr_54_45 hvt, sr_54_46 hvt, sr_54_47 hvt, sk_54 (hv' _ _), sr_54_2 (hv' _ _), sr_54_3 (hv' _ _), sr_54_4 (hv' _ _), sr_54_5 (hv' _ _), sr_54_7 (hv' _ _), sr_54_8 (hv' _ _), sr_54_9 (hv' _ _), sr_54_12 (hv' _ _), sr_54_13 (hv' _ _), sr_54_14 (hv' _ _), sr_54_22 (hv' _ _), sr_54_25 (hv' _ _), sr_54_26 (hv' _ _), sr_54_27 (hv' _ _), sr_54_34 (hv' _ _), sr_54_35 (hv' _ _), sr_54_36 (hv' _ _), sr_54_37 (hv' _ _), sr_54_38 (hv' _ _), sr_54_40 (hv' _ _), sr_54_43 (hv' _ _), sr_54_44 (hv' _ _), sr_54_45 (hv' _ _), sr_54_46 (hv' _ _), sr_54_47 (hv' _ _), g19, g20, z, t_codeAt0 X0 ht, h3, hτ, ev_19, ev_s19]
      have tl := ak_tail (d := d) (F := F) (g := b0 + (t + 1)) (t1 := t + 1) (t' := t1) (q1 := q2) (q' := q1) (Q := Q) (tk := tk) (y4 := y4) (tb := tb) (isT := false) (s := 0) (x1 := x1) (x2 := x2) (x3 := x3) (x6 := x6) (x7 := x7) (x8 := x8) (x9 := x9) (f := fun _ => some 0) (e := cl.2.2.2) X hF rfl (by omega)
      simp only [bI_T, Option.isNone_some] at tl
      have hcl : cl.1 = false ∧ cl.2.2.1 = fun _ => some 0 := by
        rcases h4 with ⟨_, e, _, rfl⟩ | ⟨_, _, _, rfl⟩ <;> exact ⟨decide_eq_false (by omega), rfl⟩
      refine tl ?_ ?_
      · rcases h4 with ⟨a1, e, a2, rfl⟩ | ⟨a1, a2, a3, rfl⟩
        · exact Or.inl ⟨a1, a2⟩
        · exact Or.inr ⟨a1, a2, rfl⟩
      · intro x x9 hx
        have := rest false 0 (some (.int (bI (false = true)))) x x9 hcl.1.symm (by rw [hcl.2]; exact fun _ => rfl) hx
        rw [hcl.2] at this
        simp only [bI_T, Option.isNone_some] at this
        exact this
end
