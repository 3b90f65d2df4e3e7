/-! the model asks a law: tests -/
theorem cp_fl {k : Nat} {f g : zS} {W : Nat → Int32} {b : Bool} {x y : Int64} (hx : (b || (f W).isNone) = false → f W = some x) (hy : ((b || (f W).isNone) || (g W).isNone) = false → g W = some y) : ((b || (f W).isNone) || (g W).isNone) = (b || (dCmp k f g W).isNone) ∧ ((b || (dCmp k f g W).isNone) = false → dCmp k f g W = some (zCp k x y)) := by
  cases b
  · simp only [Bool.false_or] at hx hy ⊢
    simp only [dCmp]
    cases hf : f W with
    | none => simp
    | some x1 =>
      have ex := hx (by rw [hf]; rfl)
      rw [hf] at ex
      cases ex
      cases hg : g W with
      | none => simp
      | some y1 =>
        have ey := hy (by rw [hf, hg]; rfl)
        rw [hg] at ey
        cases ey
        simp
  · simp
theorem an_fl {f g : zT} {W : Nat → Int32} {b x y : Bool} (hx : (b || (f W).isNone) = false → f W = some x) (hy : x = true → ((b || (f W).isNone) || (x && (g W).isNone)) = false → g W = some y) : ((b || (f W).isNone) || (x && (g W).isNone)) = (b || (dAnd f g W).isNone) ∧ ((b || (dAnd f g W).isNone) = false → dAnd f g W = some (x && y)) := by
  cases b
  · simp only [Bool.false_or] at hx hy ⊢
    simp only [dAnd]
    cases hf : f W with
    | none => simp
    | some x1 =>
      have ex := hx (by rw [hf]; rfl)
      rw [hf] at ex
      cases ex
      cases x
      · simp
      · cases hg : g W with
        | none => simp
        | some y1 =>
          have ey := hy rfl (by rw [hf, hg]; rfl)
          rw [hg] at ey
          cases ey
          simp
  · simp
theorem or_fl {f g : zT} {W : Nat → Int32} {b x y : Bool} (hx : (b || (f W).isNone) = false → f W = some x) (hy : x = false → ((b || (f W).isNone) || (!x && (g W).isNone)) = false → g W = some y) : ((b || (f W).isNone) || (!x && (g W).isNone)) = (b || (dOr f g W).isNone) ∧ ((b || (dOr f g W).isNone) = false → dOr f g W = some (x || y)) := by
  cases b
  · simp only [Bool.false_or] at hx hy ⊢
    simp only [dOr]
    cases hf : f W with
    | none => simp
    | some x1 =>
      have ex := hx (by rw [hf]; rfl)
      rw [hf] at ex
      cases ex
      cases x
      · cases hg : g W with
        | none => simp
        | some y1 =>
          have ey := hy rfl (by rw [hf, hg]; rfl)
          rw [hg] at ey
          cases ey
          simp
      · simp
  · simp
section
variable {B b0 n : Nat} {c v : Nat → Nat} {W : Nat → Int32} {σ : gS}
set_option maxHeartbeats 2000000 in
theorem ev_pos {d : Nat} {S : Nat → Nat → zR zS} {T : Nat → Nat → zR zT} {bb : Bool} (X : EvX B b0 n c v W σ) (hS : EvS B b0 W σ 220 (d + 2) S) (hT : EvT B b0 W σ 223 (d + 2) T) (hup : pUp S) (hle : pLe n S) : EvT B b0 W σ 226 (d + 3) (pPos c S T bb) := by
  intro t q t' q' f h live b Q K
  obtain ⟨hv, hE, hC, h0, hb, hn, hb0, hW⟩ := id X
  have hv' := fun g b => ev_v (g := g) (b := b) hv
  rcases pPos_r h with ⟨h1, t1, h2, h3, rfl⟩ | ⟨h1, t1, q1, f1, g1, h2, h3, h4, rfl⟩
  · have ht := ev_lt X (t := t) (by omega)
    have ht1 := ev_lt X (t := t1) (by omega)
    simp (disch := omega) only [c_226, e_226_0, e_226_1, e_226_3, e_226_6, e_226_9, e_226_12, e_226_13, e_226_14, n10, n01, Nat.lt_irrefl, Nat.not_lt_zero, ne_eq, Nat.add_zero, Nat.one_ne_zero, Nat.zero_ne_one, Nat.reduceEqDiff, bI_T, bI_F, bI_0, bI_1, bI_01, not_and_self, true_and, and_true, not_true_eq_false, not_false_eq_true, false_imp_iff, true_imp_iff, imp_self, gPv_n, gPv_i, gPv_r, gPv_0, Option.toList_some, Option.toList_none, List.singleton_append, List.cons_append, List.nil_append, List.length_nil, List.length_cons, Nat.zero_le, Nat.reduceAdd, Nat.reduceLeDiff, or_true, true_or, false_or, or_false, and_self, and_false, false_and, implies_true, Option.some.injEq, exists_eq_left', nL, nI_add, nI_mul, nI_clamp, nI_ltI, nI_leI, nI_eq, nI_pos, nI_pos', Nat.reduceAdd, Nat.reduceMul, Nat.reducePow, sk_54 (hv' _ _), sr_54_2 (hv' _ _), sr_54_3 (hv' _ _), sr_54_4 (hv' _ _), sr_54_5 (hv' _ _), sr_54_7 (hv' _ _), sr_54_8 (hv' _ _), sr_54_9 (hv' _ _), sr_54_12 (hv' _ _), sr_54_13 (hv' _ _), sr_54_14 (hv' _ _), sr_54_22 (hv' _ _), sr_54_25 (hv' _ _), sr_54_26 (hv' _ _), sr_54_27 (hv' _ _), sr_54_34 (hv' _ _), sr_54_35 (hv' _ _), sr_54_36 (hv' _ _), sr_54_37 (hv' _ _), sr_54_38 (hv' _ _), sr_54_40 (hv' _ _), sr_54_43 (hv' _ _), sr_54_44 (hv' _ _), sr_54_45 (hv' _ _), sr_54_46 (hv' _ _), sr_54_47 (hv' _ _), t_sign, t_passT X (show t ≤ 1000 by omega) h1]
    refine hT _ _ _ _ _ h2 live b _ ?_
    intro x hx
    simp (disch := omega) only [e_226_17, e_226_18, e_226_19, e_226_19n, e_226_20, e_226_23, e_226_24, e_226_25, e_226_28, e_226_29, n10, n01, Nat.lt_irrefl, Nat.not_lt_zero, ne_eq, Nat.add_zero, Nat.one_ne_zero, Nat.zero_ne_one, Nat.reduceEqDiff, bI_T, bI_F, bI_0, bI_1, bI_01, not_and_self, true_and, and_true, not_true_eq_false, not_false_eq_true, false_imp_iff, true_imp_iff, imp_self, gPv_n, gPv_i, gPv_r, gPv_0, Option.toList_some, Option.toList_none, List.singleton_append, List.cons_append, List.nil_append, List.length_nil, List.length_cons, Nat.zero_le, Nat.reduceAdd, Nat.reduceLeDiff, or_true, true_or, false_or, or_false, and_self, and_false, false_and, implies_true, Option.some.injEq, exists_eq_left', nL, nI_add, nI_mul, nI_clamp, nI_ltI, nI_leI, nI_eq, nI_pos, nI_pos', Nat.reduceAdd, Nat.reduceMul, Nat.reducePow, sk_54 (hv' _ _), sr_54_2 (hv' _ _), sr_54_3 (hv' _ _), sr_54_4 (hv' _ _), sr_54_5 (hv' _ _), sr_54_7 (hv' _ _), sr_54_8 (hv' _ _), sr_54_9 (hv' _ _), sr_54_12 (hv' _ _), sr_54_13 (hv' _ _), sr_54_14 (hv' _ _), sr_54_22 (hv' _ _), sr_54_25 (hv' _ _), sr_54_26 (hv' _ _), sr_54_27 (hv' _ _), sr_54_34 (hv' _ _), sr_54_35 (hv' _ _), sr_54_36 (hv' _ _), sr_54_37 (hv' _ _), sr_54_38 (hv' _ _), sr_54_40 (hv' _ _), sr_54_43 (hv' _ _), sr_54_44 (hv' _ _), sr_54_45 (hv' _ _), sr_54_46 (hv' _ _), sr_54_47 (hv' _ _), ev_19, ev_s19]
    exact ⟨(Decidable.em (x = true)).symm, K x hx⟩
  · have ht1 := hle _ _ _ _ _ h2
    have ht2 := hle _ _ _ _ _ h4
    have htt : t ≤ 1000 := by
      have := (hup _ _ _ _ _ h2).1
      omega
    have hb1 := hb t1
    simp (disch := omega) only [c_226, e_226_0, e_226_1, e_226_3, e_226_6, e_226_9, e_226_30, e_226_31, e_226_32, n10, n01, Nat.lt_irrefl, Nat.not_lt_zero, ne_eq, Nat.add_zero, Nat.one_ne_zero, Nat.zero_ne_one, Nat.reduceEqDiff, bI_T, bI_F, bI_0, bI_1, bI_01, not_and_self, true_and, and_true, not_true_eq_false, not_false_eq_true, false_imp_iff, true_imp_iff, imp_self, gPv_n, gPv_i, gPv_r, gPv_0, Option.toList_some, Option.toList_none, List.singleton_append, List.cons_append, List.nil_append, List.length_nil, List.length_cons, Nat.zero_le, Nat.reduceAdd, Nat.reduceLeDiff, or_true, true_or, false_or, or_false, and_self, and_false, false_and, implies_true, Option.some.injEq, exists_eq_left', nL, nI_add, nI_mul, nI_clamp, nI_ltI, nI_leI, nI_eq, nI_pos, nI_pos', Nat.reduceAdd, Nat.reduceMul, Nat.reducePow, sk_54 (hv' _ _), sr_54_2 (hv' _ _), sr_54_3 (hv' _ _), sr_54_4 (hv' _ _), sr_54_5 (hv' _ _), sr_54_7 (hv' _ _), sr_54_8 (hv' _ _), sr_54_9 (hv' _ _), sr_54_12 (hv' _ _), sr_54_13 (hv' _ _), sr_54_14 (hv' _ _), sr_54_22 (hv' _ _), sr_54_25 (hv' _ _), sr_54_26 (hv' _ _), sr_54_27 (hv' _ _), sr_54_34 (hv' _ _), sr_54_35 (hv' _ _), sr_54_36 (hv' _ _), sr_54_37 (hv' _ _), sr_54_38 (hv' _ _), sr_54_40 (hv' _ _), sr_54_43 (hv' _ _), sr_54_44 (hv' _ _), sr_54_45 (hv' _ _), sr_54_46 (hv' _ _), sr_54_47 (hv' _ _), t_sign, t_passF X htt (show 140 < 1000 by omega) h1]
    refine hS _ _ _ _ _ h2 live b _ ?_
    intro x hx
    simp (disch := omega) only [e_226_35, e_226_36, e_226_37, e_226_38, e_226_41, e_226_44, e_226_46, e_226_47, e_226_47n, e_226_48, e_226_51, e_226_52, e_226_53, e_226_56, e_226_57, e_226_58, n10, n01, Nat.lt_irrefl, Nat.not_lt_zero, ne_eq, Nat.add_zero, Nat.one_ne_zero, Nat.zero_ne_one, Nat.reduceEqDiff, bI_T, bI_F, bI_0, bI_1, bI_01, not_and_self, true_and, and_true, not_true_eq_false, not_false_eq_true, false_imp_iff, true_imp_iff, imp_self, gPv_n, gPv_i, gPv_r, gPv_0, Option.toList_some, Option.toList_none, List.singleton_append, List.cons_append, List.nil_append, List.length_nil, List.length_cons, Nat.zero_le, Nat.reduceAdd, Nat.reduceLeDiff, or_true, true_or, false_or, or_false, and_self, and_false, false_and, implies_true, Option.some.injEq, exists_eq_left', nL, nI_add, nI_mul, nI_clamp, nI_ltI, nI_leI, nI_eq, nI_pos, nI_pos', Nat.reduceAdd, Nat.reduceMul, Nat.reducePow, sk_54 (hv' _ _), sr_54_2 (hv' _ _), sr_54_3 (hv' _ _), sr_54_4 (hv' _ _), sr_54_5 (hv' _ _), sr_54_7 (hv' _ _), sr_54_8 (hv' _ _), sr_54_9 (hv' _ _), sr_54_12 (hv' _ _), sr_54_13 (hv' _ _), sr_54_14 (hv' _ _), sr_54_22 (hv' _ _), sr_54_25 (hv' _ _), sr_54_26 (hv' _ _), sr_54_27 (hv' _ _), sr_54_34 (hv' _ _), sr_54_35 (hv' _ _), sr_54_36 (hv' _ _), sr_54_37 (hv' _ _), sr_54_38 (hv' _ _), sr_54_40 (hv' _ _), sr_54_43 (hv' _ _), sr_54_44 (hv' _ _), sr_54_45 (hv' _ _), sr_54_46 (hv' _ _), sr_54_47 (hv' _ _), ev_19, ev_s19, t_codeAt X (show t1 ≤ 1000 by omega)]
    refine hS _ _ _ _ _ h4 live _ _ ?_
    intro y hy
    cases live
    · simp only [Bool.false_and, Bool.or_false, Bool.false_eq_true, false_imp_iff, true_imp_iff] at K ⊢
      have K := K false
      simp (disch := omega) only [e_226_61, e_226_63, e_226_64, e_226_125, e_226_126, n10, n01, Nat.lt_irrefl, Nat.not_lt_zero, ne_eq, Nat.add_zero, Nat.one_ne_zero, Nat.zero_ne_one, Nat.reduceEqDiff, bI_T, bI_F, bI_0, bI_1, bI_01, not_and_self, true_and, and_true, not_true_eq_false, not_false_eq_true, false_imp_iff, true_imp_iff, imp_self, gPv_n, gPv_i, gPv_r, gPv_0, Option.toList_some, Option.toList_none, List.singleton_append, List.cons_append, List.nil_append, List.length_nil, List.length_cons, Nat.zero_le, Nat.reduceAdd, Nat.reduceLeDiff, or_true, true_or, false_or, or_false, and_self, and_false, false_and, implies_true, Option.some.injEq, exists_eq_left', nL, nI_add, nI_mul, nI_clamp, nI_ltI, nI_leI, nI_eq, nI_pos, nI_pos', Nat.reduceAdd, Nat.reduceMul, Nat.reducePow]
      simp only [Bool.false_eq_true, bI_F] at K
      exact K
    · have cp := cp_fl (k := c t1) (f := f1) (g := g1) (W := W) (b := b) (x := x) (y := y) (by simpa using hx) (by simpa using hy)
      simp only [Bool.true_and, true_imp_iff] at K ⊢
      rw [← cp.1] at K cp
      cases hbb : (b || (f1 W).isNone || (g1 W).isNone)
      · have K := K (zCp (c t1) x y) (fun z => cp.2 z)
        rw [hbb] at K
        rcases h3 with h3 | h3 | h3
        · rw [h3] at K ⊢
          by_cases z : x < y
          · have z2 : ¬ (y ≤ x) := Int64.not_le.mpr z
            have e : zCp 160 x y = true := by simp [zCp, z]
            rw [e] at K
            simp (disch := omega) only [e_226_61, e_226_63, e_226_64, e_226_67, e_226_68, e_226_71, e_226_74, e_226_76, e_226_78, e_226_81, e_226_84, e_226_85, e_226_87, e_226_88, e_226_91, e_226_94, e_226_96, e_226_98, e_226_101, e_226_104, e_226_105, e_226_107, e_226_108, e_226_111, e_226_114, e_226_115, e_226_117, e_226_118, e_226_121, e_226_122, e_226_125, e_226_126, n10, n01, Nat.lt_irrefl, Nat.not_lt_zero, ne_eq, Nat.add_zero, Nat.one_ne_zero, Nat.zero_ne_one, Nat.reduceEqDiff, bI_T, bI_F, bI_0, bI_1, bI_01, not_and_self, true_and, and_true, not_true_eq_false, not_false_eq_true, false_imp_iff, true_imp_iff, imp_self, gPv_n, gPv_i, gPv_r, gPv_0, Option.toList_some, Option.toList_none, List.singleton_append, List.cons_append, List.nil_append, List.length_nil, List.length_cons, Nat.zero_le, Nat.reduceAdd, Nat.reduceLeDiff, or_true, true_or, false_or, or_false, and_self, and_false, false_and, implies_true, Option.some.injEq, exists_eq_left', nL, nI_add, nI_mul, nI_clamp, nI_ltI, nI_leI, nI_eq, nI_pos, nI_pos', Nat.reduceAdd, Nat.reduceMul, Nat.reducePow, sk_54 (hv' _ _), sr_54_2 (hv' _ _), sr_54_3 (hv' _ _), sr_54_4 (hv' _ _), sr_54_5 (hv' _ _), sr_54_7 (hv' _ _), sr_54_8 (hv' _ _), sr_54_9 (hv' _ _), sr_54_12 (hv' _ _), sr_54_13 (hv' _ _), sr_54_14 (hv' _ _), sr_54_22 (hv' _ _), sr_54_25 (hv' _ _), sr_54_26 (hv' _ _), sr_54_27 (hv' _ _), sr_54_34 (hv' _ _), sr_54_35 (hv' _ _), sr_54_36 (hv' _ _), sr_54_37 (hv' _ _), sr_54_38 (hv' _ _), sr_54_40 (hv' _ _), sr_54_43 (hv' _ _), sr_54_44 (hv' _ _), sr_54_45 (hv' _ _), sr_54_46 (hv' _ _), sr_54_47 (hv' _ _), t_sign, ev_21, Bool.false_eq_true, lgc_ge, z2]
            simpa only [bI_T] using K
          · have z2 : y ≤ x := Int64.not_lt.mp z
            have e : zCp 160 x y = false := by simp [zCp, z]
            rw [e] at K
            simp (disch := omega) only [e_226_61, e_226_63, e_226_64, e_226_67, e_226_68, e_226_71, e_226_74, e_226_76, e_226_78, e_226_81, e_226_84, e_226_85, e_226_87, e_226_88, e_226_91, e_226_94, e_226_96, e_226_98, e_226_101, e_226_104, e_226_105, e_226_107, e_226_108, e_226_111, e_226_114, e_226_115, e_226_117, e_226_118, e_226_121, e_226_122, e_226_125, e_226_126, n10, n01, Nat.lt_irrefl, Nat.not_lt_zero, ne_eq, Nat.add_zero, Nat.one_ne_zero, Nat.zero_ne_one, Nat.reduceEqDiff, bI_T, bI_F, bI_0, bI_1, bI_01, not_and_self, true_and, and_true, not_true_eq_false, not_false_eq_true, false_imp_iff, true_imp_iff, imp_self, gPv_n, gPv_i, gPv_r, gPv_0, Option.toList_some, Option.toList_none, List.singleton_append, List.cons_append, List.nil_append, List.length_nil, List.length_cons, Nat.zero_le, Nat.reduceAdd, Nat.reduceLeDiff, or_true, true_or, false_or, or_false, and_self, and_false, false_and, implies_true, Option.some.injEq, exists_eq_left', nL, nI_add, nI_mul, nI_clamp, nI_ltI, nI_leI, nI_eq, nI_pos, nI_pos', Nat.reduceAdd, Nat.reduceMul, Nat.reducePow, sk_54 (hv' _ _), sr_54_2 (hv' _ _), sr_54_3 (hv' _ _), sr_54_4 (hv' _ _), sr_54_5 (hv' _ _), sr_54_7 (hv' _ _), sr_54_8 (hv' _ _), sr_54_9 (hv' _ _), sr_54_12 (hv' _ _), sr_54_13 (hv' _ _), sr_54_14 (hv' _ _), sr_54_22 (hv' _ _), sr_54_25 (hv' _ _), sr_54_26 (hv' _ _), sr_54_27 (hv' _ _), sr_54_34 (hv' _ _), sr_54_35 (hv' _ _), sr_54_36 (hv' _ _), sr_54_37 (hv' _ _), sr_54_38 (hv' _ _), sr_54_40 (hv' _ _), sr_54_43 (hv' _ _), sr_54_44 (hv' _ _), sr_54_45 (hv' _ _), sr_54_46 (hv' _ _), sr_54_47 (hv' _ _), t_sign, ev_21, Bool.false_eq_true, lgc_ge, z2]
            simpa only [Bool.false_eq_true, bI_F] using K
        · rw [h3] at K ⊢
          by_cases z : y < x
          · have z2 : ¬ (x ≤ y) := Int64.not_le.mpr z
            have e : zCp 162 x y = true := by simp [zCp, z]
            rw [e] at K
            simp (disch := omega) only [e_226_61, e_226_63, e_226_64, e_226_67, e_226_68, e_226_71, e_226_74, e_226_76, e_226_78, e_226_81, e_226_84, e_226_85, e_226_87, e_226_88, e_226_91, e_226_94, e_226_96, e_226_98, e_226_101, e_226_104, e_226_105, e_226_107, e_226_108, e_226_111, e_226_114, e_226_115, e_226_117, e_226_118, e_226_121, e_226_122, e_226_125, e_226_126, n10, n01, Nat.lt_irrefl, Nat.not_lt_zero, ne_eq, Nat.add_zero, Nat.one_ne_zero, Nat.zero_ne_one, Nat.reduceEqDiff, bI_T, bI_F, bI_0, bI_1, bI_01, not_and_self, true_and, and_true, not_true_eq_false, not_false_eq_true, false_imp_iff, true_imp_iff, imp_self, gPv_n, gPv_i, gPv_r, gPv_0, Option.toList_some, Option.toList_none, List.singleton_append, List.cons_append, List.nil_append, List.length_nil, List.length_cons, Nat.zero_le, Nat.reduceAdd, Nat.reduceLeDiff, or_true, true_or, false_or, or_false, and_self, and_false, false_and, implies_true, Option.some.injEq, exists_eq_left', nL, nI_add, nI_mul, nI_clamp, nI_ltI, nI_leI, nI_eq, nI_pos, nI_pos', Nat.reduceAdd, Nat.reduceMul, Nat.reducePow, sk_54 (hv' _ _), sr_54_2 (hv' _ _), sr_54_3 (hv' _ _), sr_54_4 (hv' _ _), sr_54_5 (hv' _ _), sr_54_7 (hv' _ _), sr_54_8 (hv' _ _), sr_54_9 (hv' _ _), sr_54_12 (hv' _ _), sr_54_13 (hv' _ _), sr_54_14 (hv' _ _), sr_54_22 (hv' _ _), sr_54_25 (hv' _ _), sr_54_26 (hv' _ _), sr_54_27 (hv' _ _), sr_54_34 (hv' _ _), sr_54_35 (hv' _ _), sr_54_36 (hv' _ _), sr_54_37 (hv' _ _), sr_54_38 (hv' _ _), sr_54_40 (hv' _ _), sr_54_43 (hv' _ _), sr_54_44 (hv' _ _), sr_54_45 (hv' _ _), sr_54_46 (hv' _ _), sr_54_47 (hv' _ _), t_sign, ev_21, Bool.false_eq_true, lgc_le, z2]
            simpa only [bI_T] using K
          · have z2 : x ≤ y := Int64.not_lt.mp z
            have e : zCp 162 x y = false := by simp [zCp, z]
            rw [e] at K
            simp (disch := omega) only [e_226_61, e_226_63, e_226_64, e_226_67, e_226_68, e_226_71, e_226_74, e_226_76, e_226_78, e_226_81, e_226_84, e_226_85, e_226_87, e_226_88, e_226_91, e_226_94, e_226_96, e_226_98, e_226_101, e_226_104, e_226_105, e_226_107, e_226_108, e_226_111, e_226_114, e_226_115, e_226_117, e_226_118, e_226_121, e_226_122, e_226_125, e_226_126, n10, n01, Nat.lt_irrefl, Nat.not_lt_zero, ne_eq, Nat.add_zero, Nat.one_ne_zero, Nat.zero_ne_one, Nat.reduceEqDiff, bI_T, bI_F, bI_0, bI_1, bI_01, not_and_self, true_and, and_true, not_true_eq_false, not_false_eq_true, false_imp_iff, true_imp_iff, imp_self, gPv_n, gPv_i, gPv_r, gPv_0, Option.toList_some, Option.toList_none, List.singleton_append, List.cons_append, List.nil_append, List.length_nil, List.length_cons, Nat.zero_le, Nat.reduceAdd, Nat.reduceLeDiff, or_true, true_or, false_or, or_false, and_self, and_false, false_and, implies_true, Option.some.injEq, exists_eq_left', nL, nI_add, nI_mul, nI_clamp, nI_ltI, nI_leI, nI_eq, nI_pos, nI_pos', Nat.reduceAdd, Nat.reduceMul, Nat.reducePow, sk_54 (hv' _ _), sr_54_2 (hv' _ _), sr_54_3 (hv' _ _), sr_54_4 (hv' _ _), sr_54_5 (hv' _ _), sr_54_7 (hv' _ _), sr_54_8 (hv' _ _), sr_54_9 (hv' _ _), sr_54_12 (hv' _ _), sr_54_13 (hv' _ _), sr_54_14 (hv' _ _), sr_54_22 (hv' _ _), sr_54_25 (hv' _ _), sr_54_26 (hv' _ _), sr_54_27 (hv' _ _), sr_54_34 (hv' _ _), sr_54_35 (hv' _ _), sr_54_36 (hv' _ _), sr_54_37 (hv' _ _), sr_54_38 (hv' _ _), sr_54_40 (hv' _ _), sr_54_43 (hv' _ _), sr_54_44 (hv' _ _), sr_54_45 (hv' _ _), sr_54_46 (hv' _ _), sr_54_47 (hv' _ _), t_sign, ev_21, Bool.false_eq_true, lgc_le, z2]
            simpa only [Bool.false_eq_true, bI_F] using K
        · rw [h3] at K ⊢
          by_cases z : x = y
          · have e : zCp 161 x y = true := by simp [zCp, z]
            rw [e] at K
            simp (disch := omega) only [e_226_61, e_226_63, e_226_64, e_226_67, e_226_68, e_226_71, e_226_74, e_226_76, e_226_78, e_226_81, e_226_84, e_226_85, e_226_87, e_226_88, e_226_91, e_226_94, e_226_96, e_226_98, e_226_101, e_226_104, e_226_105, e_226_107, e_226_108, e_226_111, e_226_114, e_226_115, e_226_117, e_226_118, e_226_121, e_226_122, e_226_125, e_226_126, n10, n01, Nat.lt_irrefl, Nat.not_lt_zero, ne_eq, Nat.add_zero, Nat.one_ne_zero, Nat.zero_ne_one, Nat.reduceEqDiff, bI_T, bI_F, bI_0, bI_1, bI_01, not_and_self, true_and, and_true, not_true_eq_false, not_false_eq_true, false_imp_iff, true_imp_iff, imp_self, gPv_n, gPv_i, gPv_r, gPv_0, Option.toList_some, Option.toList_none, List.singleton_append, List.cons_append, List.nil_append, List.length_nil, List.length_cons, Nat.zero_le, Nat.reduceAdd, Nat.reduceLeDiff, or_true, true_or, false_or, or_false, and_self, and_false, false_and, implies_true, Option.some.injEq, exists_eq_left', nL, nI_add, nI_mul, nI_clamp, nI_ltI, nI_leI, nI_eq, nI_pos, nI_pos', Nat.reduceAdd, Nat.reduceMul, Nat.reducePow, sk_54 (hv' _ _), sr_54_2 (hv' _ _), sr_54_3 (hv' _ _), sr_54_4 (hv' _ _), sr_54_5 (hv' _ _), sr_54_7 (hv' _ _), sr_54_8 (hv' _ _), sr_54_9 (hv' _ _), sr_54_12 (hv' _ _), sr_54_13 (hv' _ _), sr_54_14 (hv' _ _), sr_54_22 (hv' _ _), sr_54_25 (hv' _ _), sr_54_26 (hv' _ _), sr_54_27 (hv' _ _), sr_54_34 (hv' _ _), sr_54_35 (hv' _ _), sr_54_36 (hv' _ _), sr_54_37 (hv' _ _), sr_54_38 (hv' _ _), sr_54_40 (hv' _ _), sr_54_43 (hv' _ _), sr_54_44 (hv' _ _), sr_54_45 (hv' _ _), sr_54_46 (hv' _ _), sr_54_47 (hv' _ _), t_sign, ev_21, Bool.false_eq_true, lgc_eq, z]
            simpa only [bI_T] using K
          · have e : zCp 161 x y = false := by simp [zCp, z]
            rw [e] at K
            simp (disch := omega) only [e_226_61, e_226_63, e_226_64, e_226_67, e_226_68, e_226_71, e_226_74, e_226_76, e_226_78, e_226_81, e_226_84, e_226_85, e_226_87, e_226_88, e_226_91, e_226_94, e_226_96, e_226_98, e_226_101, e_226_104, e_226_105, e_226_107, e_226_108, e_226_111, e_226_114, e_226_115, e_226_117, e_226_118, e_226_121, e_226_122, e_226_125, e_226_126, n10, n01, Nat.lt_irrefl, Nat.not_lt_zero, ne_eq, Nat.add_zero, Nat.one_ne_zero, Nat.zero_ne_one, Nat.reduceEqDiff, bI_T, bI_F, bI_0, bI_1, bI_01, not_and_self, true_and, and_true, not_true_eq_false, not_false_eq_true, false_imp_iff, true_imp_iff, imp_self, gPv_n, gPv_i, gPv_r, gPv_0, Option.toList_some, Option.toList_none, List.singleton_append, List.cons_append, List.nil_append, List.length_nil, List.length_cons, Nat.zero_le, Nat.reduceAdd, Nat.reduceLeDiff, or_true, true_or, false_or, or_false, and_self, and_false, false_and, implies_true, Option.some.injEq, exists_eq_left', nL, nI_add, nI_mul, nI_clamp, nI_ltI, nI_leI, nI_eq, nI_pos, nI_pos', Nat.reduceAdd, Nat.reduceMul, Nat.reducePow, sk_54 (hv' _ _), sr_54_2 (hv' _ _), sr_54_3 (hv' _ _), sr_54_4 (hv' _ _), sr_54_5 (hv' _ _), sr_54_7 (hv' _ _), sr_54_8 (hv' _ _), sr_54_9 (hv' _ _), sr_54_12 (hv' _ _), sr_54_13 (hv' _ _), sr_54_14 (hv' _ _), sr_54_22 (hv' _ _), sr_54_25 (hv' _ _), sr_54_26 (hv' _ _), sr_54_27 (hv' _ _), sr_54_34 (hv' _ _), sr_54_35 (hv' _ _), sr_54_36 (hv' _ _), sr_54_37 (hv' _ _), sr_54_38 (hv' _ _), sr_54_40 (hv' _ _), sr_54_43 (hv' _ _), sr_54_44 (hv' _ _), sr_54_45 (hv' _ _), sr_54_46 (hv' _ _), sr_54_47 (hv' _ _), t_sign, ev_21, Bool.false_eq_true, lgc_eq, z]
            simpa only [Bool.false_eq_true, bI_F] using K
      · have K := K false (fun z => absurd (z.symm.trans hbb) Bool.false_ne_true)
        rw [hbb] at K
        simp (disch := omega) only [e_226_61, e_226_63, e_226_64, e_226_67, e_226_68, e_226_71, e_226_125, e_226_126, n10, n01, Nat.lt_irrefl, Nat.not_lt_zero, ne_eq, Nat.add_zero, Nat.one_ne_zero, Nat.zero_ne_one, Nat.reduceEqDiff, bI_T, bI_F, bI_0, bI_1, bI_01, not_and_self, true_and, and_true, not_true_eq_false, not_false_eq_true, false_imp_iff, true_imp_iff, imp_self, gPv_n, gPv_i, gPv_r, gPv_0, Option.toList_some, Option.toList_none, List.singleton_append, List.cons_append, List.nil_append, List.length_nil, List.length_cons, Nat.zero_le, Nat.reduceAdd, Nat.reduceLeDiff, or_true, true_or, false_or, or_false, and_self, and_false, false_and, implies_true, Option.some.injEq, exists_eq_left', nL, nI_add, nI_mul, nI_clamp, nI_ltI, nI_leI, nI_eq, nI_pos, nI_pos', Nat.reduceAdd, Nat.reduceMul, Nat.reducePow, sk_54 (hv' _ _), sr_54_2 (hv' _ _), sr_54_3 (hv' _ _), sr_54_4 (hv' _ _), sr_54_5 (hv' _ _), sr_54_7 (hv' _ _), sr_54_8 (hv' _ _), sr_54_9 (hv' _ _), sr_54_12 (hv' _ _), sr_54_13 (hv' _ _), sr_54_14 (hv' _ _), sr_54_22 (hv' _ _), sr_54_25 (hv' _ _), sr_54_26 (hv' _ _), sr_54_27 (hv' _ _), sr_54_34 (hv' _ _), sr_54_35 (hv' _ _), sr_54_36 (hv' _ _), sr_54_37 (hv' _ _), sr_54_38 (hv' _ _), sr_54_40 (hv' _ _), sr_54_43 (hv' _ _), sr_54_44 (hv' _ _), sr_54_45 (hv' _ _), sr_54_46 (hv' _ _), sr_54_47 (hv' _ _), ev_21]
        simpa only [Bool.false_eq_true, bI_F] using K
theorem ev_nots {e : Nat} {live b : Bool} {Q : Option Value → gS → Prop} (X : EvX B b0 n c v W σ) : ∀ m t (nb : Bool), n < t + m → t ≤ n → wp (e + 2) pr_225 Q 24 [some (.ref (B + 54)), some (.int (bI (live = true))), some (.int (bI ((pNots c m t nb).2 = true)))] [] (ev σ B (b0 + (pNots c m t nb).1) b) → wp (e + 2) pr_225 Q 2 [some (.ref (B + 54)), some (.int (bI (live = true))), some (.int (bI (nb = true)))] [] (ev σ B (b0 + t) b) := by
  have hv' := fun g b => ev_v (g := g) (b := b) X.1
  have hn := X.2.2.2.2.2.1
  intro m
  induction m with
  | zero => intro t nb h1 h2 _; exact absurd h2 (by omega)
  | succ m ih =>
    intro t nb h1 h2 K
    by_cases h6 : c t = 6
    · have ep : pNots c (m + 1) t nb = pNots c m (t + 1) (!nb) := if_pos h6
      rw [ep] at K
      have ht := ev_lt X (t := t) (by omega)
      have ih := ih (t + 1) (!nb) (by omega) (by omega) K
      rw [e_225_2]
      cases nb
      · simp (disch := omega) only [e_225_3, e_225_5, e_225_8, e_225_11, e_225_12, e_225_15, e_225_16, e_225_19, e_225_20, e_225_21, n10, n01, Nat.lt_irrefl, Nat.not_lt_zero, ne_eq, Nat.add_zero, Nat.one_ne_zero, Nat.zero_ne_one, Nat.reduceEqDiff, bI_T, bI_F, bI_0, bI_1, bI_01, not_and_self, true_and, and_true, not_true_eq_false, not_false_eq_true, false_imp_iff, true_imp_iff, imp_self, gPv_n, gPv_i, gPv_r, gPv_0, Option.toList_some, Option.toList_none, List.singleton_append, List.cons_append, List.nil_append, List.length_nil, List.length_cons, Nat.zero_le, Nat.reduceAdd, Nat.reduceLeDiff, or_true, true_or, false_or, or_false, and_self, and_false, false_and, implies_true, Option.some.injEq, exists_eq_left', nL, nI_add, nI_mul, nI_clamp, nI_ltI, nI_leI, nI_eq, nI_pos, nI_pos', Nat.reduceAdd, Nat.reduceMul, Nat.reducePow, sk_54 (hv' _ _), sr_54_2 (hv' _ _), sr_54_3 (hv' _ _), sr_54_4 (hv' _ _), sr_54_5 (hv' _ _), sr_54_7 (hv' _ _), sr_54_8 (hv' _ _), sr_54_9 (hv' _ _), sr_54_12 (hv' _ _), sr_54_13 (hv' _ _), sr_54_14 (hv' _ _), sr_54_22 (hv' _ _), sr_54_25 (hv' _ _), sr_54_26 (hv' _ _), sr_54_27 (hv' _ _), sr_54_34 (hv' _ _), sr_54_35 (hv' _ _), sr_54_36 (hv' _ _), sr_54_37 (hv' _ _), sr_54_38 (hv' _ _), sr_54_40 (hv' _ _), sr_54_43 (hv' _ _), sr_54_44 (hv' _ _), sr_54_45 (hv' _ _), sr_54_46 (hv' _ _), sr_54_47 (hv' _ _), t_passT X (show t ≤ 1000 by omega) h6, Bool.false_eq_true]
        simp only [Bool.not_false, bI_T] at ih
        exact ih
      · simp (disch := omega) only [e_225_3, e_225_5, e_225_8, e_225_11, e_225_12, e_225_15, e_225_16, e_225_19, e_225_20, e_225_21, n10, n01, Nat.lt_irrefl, Nat.not_lt_zero, ne_eq, Nat.add_zero, Nat.one_ne_zero, Nat.zero_ne_one, Nat.reduceEqDiff, bI_T, bI_F, bI_0, bI_1, bI_01, not_and_self, true_and, and_true, not_true_eq_false, not_false_eq_true, false_imp_iff, true_imp_iff, imp_self, gPv_n, gPv_i, gPv_r, gPv_0, Option.toList_some, Option.toList_none, List.singleton_append, List.cons_append, List.nil_append, List.length_nil, List.length_cons, Nat.zero_le, Nat.reduceAdd, Nat.reduceLeDiff, or_true, true_or, false_or, or_false, and_self, and_false, false_and, implies_true, Option.some.injEq, exists_eq_left', nL, nI_add, nI_mul, nI_clamp, nI_ltI, nI_leI, nI_eq, nI_pos, nI_pos', Nat.reduceAdd, Nat.reduceMul, Nat.reducePow, sk_54 (hv' _ _), sr_54_2 (hv' _ _), sr_54_3 (hv' _ _), sr_54_4 (hv' _ _), sr_54_5 (hv' _ _), sr_54_7 (hv' _ _), sr_54_8 (hv' _ _), sr_54_9 (hv' _ _), sr_54_12 (hv' _ _), sr_54_13 (hv' _ _), sr_54_14 (hv' _ _), sr_54_22 (hv' _ _), sr_54_25 (hv' _ _), sr_54_26 (hv' _ _), sr_54_27 (hv' _ _), sr_54_34 (hv' _ _), sr_54_35 (hv' _ _), sr_54_36 (hv' _ _), sr_54_37 (hv' _ _), sr_54_38 (hv' _ _), sr_54_40 (hv' _ _), sr_54_43 (hv' _ _), sr_54_44 (hv' _ _), sr_54_45 (hv' _ _), sr_54_46 (hv' _ _), sr_54_47 (hv' _ _), t_passT X (show t ≤ 1000 by omega) h6]
        simp only [Bool.not_true, Bool.false_eq_true, bI_F] at ih
        exact ih
    · have ep : pNots c (m + 1) t nb = (t, nb) := if_neg h6
      rw [ep] at K
      rw [e_225_2]
      simp (disch := omega) only [e_225_3, e_225_5, e_225_8, e_225_11, e_225_12, e_225_15, e_225_16, e_225_19, e_225_20, e_225_21, n10, n01, Nat.lt_irrefl, Nat.not_lt_zero, ne_eq, Nat.add_zero, Nat.one_ne_zero, Nat.zero_ne_one, Nat.reduceEqDiff, bI_T, bI_F, bI_0, bI_1, bI_01, not_and_self, true_and, and_true, not_true_eq_false, not_false_eq_true, false_imp_iff, true_imp_iff, imp_self, gPv_n, gPv_i, gPv_r, gPv_0, Option.toList_some, Option.toList_none, List.singleton_append, List.cons_append, List.nil_append, List.length_nil, List.length_cons, Nat.zero_le, Nat.reduceAdd, Nat.reduceLeDiff, or_true, true_or, false_or, or_false, and_self, and_false, false_and, implies_true, Option.some.injEq, exists_eq_left', nL, nI_add, nI_mul, nI_clamp, nI_ltI, nI_leI, nI_eq, nI_pos, nI_pos', Nat.reduceAdd, Nat.reduceMul, Nat.reducePow, sk_54 (hv' _ _), sr_54_2 (hv' _ _), sr_54_3 (hv' _ _), sr_54_4 (hv' _ _), sr_54_5 (hv' _ _), sr_54_7 (hv' _ _), sr_54_8 (hv' _ _), sr_54_9 (hv' _ _), sr_54_12 (hv' _ _), sr_54_13 (hv' _ _), sr_54_14 (hv' _ _), sr_54_22 (hv' _ _), sr_54_25 (hv' _ _), sr_54_26 (hv' _ _), sr_54_27 (hv' _ _), sr_54_34 (hv' _ _), sr_54_35 (hv' _ _), sr_54_36 (hv' _ _), sr_54_37 (hv' _ _), sr_54_38 (hv' _ _), sr_54_40 (hv' _ _), sr_54_43 (hv' _ _), sr_54_44 (hv' _ _), sr_54_45 (hv' _ _), sr_54_46 (hv' _ _), sr_54_47 (hv' _ _), t_passF X (show t ≤ 1000 by omega) (show 6 < 1000 by omega) h6]
      exact K
theorem dNot_n {tn : Bool} {e : zT} {W : Nat → Int32} : (dNot tn e W).isNone = (e W).isNone := by
  simp only [dNot]
  cases e W <;> rfl
theorem ev_plain {d F : Nat} {S : Nat → Nat → zR zS} {T : Nat → Nat → zR zT} {bb : Bool} (X : EvX B b0 n c v W σ) (hP : EvT B b0 W σ 226 (d + 2) (pPos c S T bb)) (hle : pLe n (pPlain c S T bb F)) (hup : pUp (pPlain c S T bb F)) (hF : n < F) : EvT B b0 W σ 225 (d + 3) (pPlain c S T bb F) := by
  intro t q t' q' f h live b Q K
  have hv' := fun g b => ev_v (g := g) (b := b) X.1
  have a1 := hle _ _ _ _ _ h
  have a2 := hup _ _ _ _ _ h
  obtain ⟨e1, h1, rfl⟩ := pPlain_r h
  simp (disch := omega) only [c_225, e_225_0, e_225_1, n10, n01, Nat.lt_irrefl, Nat.not_lt_zero, ne_eq, Nat.add_zero, Nat.one_ne_zero, Nat.zero_ne_one, Nat.reduceEqDiff, bI_T, bI_F, bI_0, bI_1, bI_01, not_and_self, true_and, and_true, not_true_eq_false, not_false_eq_true, false_imp_iff, true_imp_iff, imp_self, gPv_n, gPv_i, gPv_r, gPv_0, Option.toList_some, Option.toList_none, List.singleton_append, List.cons_append, List.nil_append, List.length_nil, List.length_cons, Nat.zero_le, Nat.reduceAdd, Nat.reduceLeDiff, or_true, true_or, false_or, or_false, and_self, and_false, false_and, implies_true, Option.some.injEq, exists_eq_left', nL]
  have en := ev_nots (e := d) (live := live) (b := b) (Q := Q) X F t false (by omega) (by omega)
  simp only [Bool.false_eq_true, bI_F] at en
  refine en ?_
  simp (disch := omega) only [e_225_24, e_225_25, e_225_26, n10, n01, Nat.lt_irrefl, Nat.not_lt_zero, ne_eq, Nat.add_zero, Nat.one_ne_zero, Nat.zero_ne_one, Nat.reduceEqDiff, bI_T, bI_F, bI_0, bI_1, bI_01, not_and_self, true_and, and_true, not_true_eq_false, not_false_eq_true, false_imp_iff, true_imp_iff, imp_self, gPv_n, gPv_i, gPv_r, gPv_0, Option.toList_some, Option.toList_none, List.singleton_append, List.cons_append, List.nil_append, List.length_nil, List.length_cons, Nat.zero_le, Nat.reduceAdd, Nat.reduceLeDiff, or_true, true_or, false_or, or_false, and_self, and_false, false_and, implies_true, Option.some.injEq, exists_eq_left', sk_54 (hv' _ _), sr_54_2 (hv' _ _), sr_54_3 (hv' _ _), sr_54_4 (hv' _ _), sr_54_5 (hv' _ _), sr_54_7 (hv' _ _), sr_54_8 (hv' _ _), sr_54_9 (hv' _ _), sr_54_12 (hv' _ _), sr_54_13 (hv' _ _), sr_54_14 (hv' _ _), sr_54_22 (hv' _ _), sr_54_25 (hv' _ _), sr_54_26 (hv' _ _), sr_54_27 (hv' _ _), sr_54_34 (hv' _ _), sr_54_35 (hv' _ _), sr_54_36 (hv' _ _), sr_54_37 (hv' _ _), sr_54_38 (hv' _ _), sr_54_40 (hv' _ _), sr_54_43 (hv' _ _), sr_54_44 (hv' _ _), sr_54_45 (hv' _ _), sr_54_46 (hv' _ _), sr_54_47 (hv' _ _)]
  refine hP _ _ _ _ _ h1 live b _ ?_
  intro x hx
  simp only [dNot_n] at K
  have K := K (x != (pNots c F t false).2) (fun z1 z2 => by simp only [dNot, hx z1 z2, Option.map_some])
  cases hx2 : (pNots c F t false).2 <;> cases x <;> simp only [hx2, bne_self_eq_false, Bool.bne_true, Bool.bne_false, Bool.not_true, Bool.not_false, Bool.false_eq_true, bI_F, bI_T] at K ⊢ <;> simp (disch := omega) only [e_225_29, e_225_30, e_225_33, e_225_34, e_225_37, e_225_38, n10, n01, Nat.lt_irrefl, Nat.not_lt_zero, ne_eq, Nat.add_zero, Nat.one_ne_zero, Nat.zero_ne_one, Nat.reduceEqDiff, bI_T, bI_F, bI_0, bI_1, bI_01, not_and_self, true_and, and_true, not_true_eq_false, not_false_eq_true, false_imp_iff, true_imp_iff, imp_self, gPv_n, gPv_i, gPv_r, gPv_0, Option.toList_some, Option.toList_none, List.singleton_append, List.cons_append, List.nil_append, List.length_nil, List.length_cons, Nat.zero_le, Nat.reduceAdd, Nat.reduceLeDiff, or_true, true_or, false_or, or_false, and_self, and_false, false_and, implies_true, Option.some.injEq, exists_eq_left', nL, nI_add, nI_mul, nI_clamp, nI_ltI, nI_leI, nI_eq, nI_pos, nI_pos', Nat.reduceAdd, Nat.reduceMul, Nat.reducePow] <;> exact K
end
