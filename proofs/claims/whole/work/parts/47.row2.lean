/-! rows of houses: the model's, the obligation -/
def mst (σ : gS) (B : Nat) (A : Nat → Int32) (rn : Nat) : gS := sI (sIr σ (B + 56) A) (B + 54) 6 (nI rn)
theorem mst_A {σ : gS} {B rn : Nat} {A A' : Nat → Int32} : sIr (mst σ B A rn) (B + 56) A' = mst σ B A' rn := sIr_I_r (by omega)
theorem mst_r {σ : gS} {B rn rn' : Nat} {A : Nat → Int32} : sI (mst σ B A rn) (B + 54) 6 (nI rn') = mst σ B A rn' := sI_sI
theorem mst_v {σ : gS} {B rn : Nat} {A : Nat → Int32} (hv : IvS B σ) : IvS B (mst σ B A rn) := by simp only [mst, IvS_I, IvS_r]; exact hv
theorem mst_56 {σ : gS} {B rn : Nat} {A : Nat → Int32} : gI (mst σ B A rn) (B + 56) = A := by simp (disch := omega) only [mst, rI_ne, rr_eq]
theorem mst_60 {σ : gS} {B rn : Nat} {A : Nat → Int32} : gI (mst σ B A rn) (B + 60) = gI σ (B + 60) := by simp (disch := omega) only [mst, rI_ne, rr_ne]
theorem mst_6 {σ : gS} {B rn : Nat} {A : Nat → Int32} : gI (mst σ B A rn) (B + 54) 6 = nI rn := by simp only [mst, rI_eq]
theorem mst_1 {σ : gS} {B rn : Nat} {A : Nat → Int32} : gI (mst σ B A rn) (B + 54) 1 = gI σ (B + 54) 1 := by simp (disch := omega) only [mst, rI_nk, rr_ne]
set_option maxHeartbeats 4000000 in
theorem t_rowL {d : Nat} {Q : Option Value → gS → Prop} {B q m : Nat} {σ : gS} {T : Nat → Nat} (hv : IvS B σ) (hT : ∀ j, T j < 256) (ht : ∀ j, j < q → gI σ (B + 60) j = sb (T j)) (hq : q ≤ 400) (hm : m < 5) : ∀ n p cm rn A x4, p + 5 * n + m = q → rn + n ≤ 100 → cm + n ≤ 100 → Wh A →
    (wp (d + 5) pr_192 Q 40 [some (.ref (B + 54)), some (.int (nI q)), some (.int (nI cm)), some (.int (nI p)), x4] [] (mst σ B A rn) ↔ Q (some (.int (nI (cm + rwC T n p A)))) (sI (sI (mst σ B (rwA T n p A) (rn + (n - rwC T n p A))) (B + 54) 0 (nI 0)) (B + 54) 1 (gI σ (B + 54) 1 + nI 1))) := by
  intro n
  induction n with
  | zero =>
    intro p cm rn A x4 hp h1 h2 wh
    have z : q < p + 5 := by omega
    have hvM := mst_v (rn := rn) (A := A) hv
    simp (disch := omega) only [e_192_40, e_192_41, e_192_42, e_192_43, e_192_44, e_192_239, e_192_240, e_192_241, e_192_244, n10, n01, Nat.lt_irrefl, Nat.not_lt_zero, ne_eq, Nat.add_zero, Nat.one_ne_zero, Nat.zero_ne_one, Nat.reduceEqDiff, bI_T, bI_F, bI_0, bI_1, bI_01, not_and_self, true_and, and_true, not_true_eq_false, not_false_eq_true, false_imp_iff, true_imp_iff, imp_self, gPv_n, gPv_i, gPv_r, gPv_0, Option.toList_some, Option.toList_none, List.singleton_append, List.cons_append, List.nil_append, List.length_nil, List.length_cons, Nat.zero_le, Nat.reduceAdd, Nat.reduceLeDiff, or_true, true_or, false_or, or_false, and_self, and_false, false_and, implies_true, Option.some.injEq, exists_eq_left', nL, nI_add, nI_mul, nI_clamp, nI_ltI, nI_leI, nI_eq, nI_pos, nI_pos', Nat.reduceAdd, Nat.reduceMul, Nat.reducePow, sk_54 hvM, sr_54_2 hvM, sr_54_3 hvM, sr_54_4 hvM, sr_54_5 hvM, sr_54_7 hvM, sr_54_8 hvM, sr_54_9 hvM, sr_54_12 hvM, sr_54_13 hvM, sr_54_14 hvM, sr_54_22 hvM, sr_54_25 hvM, sr_54_26 hvM, sr_54_27 hvM, sr_54_34 hvM, sr_54_35 hvM, sr_54_36 hvM, sr_54_37 hvM, sr_54_38 hvM, sr_54_40 hvM, sr_54_43 hvM, sr_54_44 hvM, sr_54_45 hvM, sr_54_46 hvM, sr_54_47 hvM, z, t_good hvM, mst_1, rwC, rwA, Nat.add_zero, Nat.sub_zero]
  | succ n ih =>
    intro p cm rn A x4 hp h1 h2 wh
    have z : ¬ q < p + 5 := by omega
    have hvM := mst_v (rn := rn) (A := A) hv
    have k60 : gK (mst σ B A rn) (B + 60) = 20 ∨ gK (mst σ B A rn) (B + 60) = 23 := Or.inl (sk_60 hvM)
    have hc := rwC_le T n (p + 5) (adR A T p)
    have hn2 := hn_eq wh
    have h12' := hn_le wh
    have y0 : p < 400 := by omega
    have y1 : p + 1 < 400 := by omega
    have y2 : p + 2 < 400 := by omega
    have y3 : p + 3 < 400 := by omega
    have y4 : p + 4 < 400 := by omega
    have e0 := ht p (by omega)
    have e1 := ht (p + 1) (by omega)
    have e2 := ht (p + 2) (by omega)
    have e3 := ht (p + 3) (by omega)
    have e4 := ht (p + 4) (by omega)
    have kN : adR A T p = A → canR A T p = false → (wp (d + 5) pr_192 Q 40 [some (.ref (B + 54)), some (.int (nI q)), some (.int (nI (cm + 0))), some (.int (nI (p + 5))), some (.int (nI 0))] [] (mst σ B A (rn + 1)) ↔ Q (some (.int (nI (cm + rwC T (n + 1) p A)))) (sI (sI (mst σ B (rwA T (n + 1) p A) (rn + (n + 1 - rwC T (n + 1) p A))) (B + 54) 0 (nI 0)) (B + 54) 1 (gI σ (B + 54) 1 + nI 1))) := by
      intro ea ca
      rw [ea] at hc
      rw [Nat.add_zero cm, ih (p + 5) cm (rn + 1) A _ (by omega) (by omega) (by omega) wh]
      simp only [rwC, rwA, ca, ea, Bool.false_eq_true, if_false, Nat.zero_add]
      rw [show rn + 1 + (n - rwC T n (p + 5) A) = rn + (n + 1 - rwC T n (p + 5) A) from by omega]
    rw [e_192_40]
    by_cases h12 : hn A < 12
    · by_cases ok : okH (nI (T p)) (nI (T (p + 1))) (nI (T (p + 2))) (nI (T (p + 3))) (nI (T (p + 4)))
      · obtain ⟨q1, q2, q3, q4, q5, q6, q7⟩ := okH_b (hT _) (hT _) (hT _) (hT _) (hT _) ok
        have s0 : sb (T p) = nI (T p) := sb_lt (by omega)
        have s1 : sb (T (p + 1)) = nI (T (p + 1)) := sb_lt (by omega)
        have s2 : sb (T (p + 2)) = nI (T (p + 2)) := sb_lt (by omega)
        have s3 : sb (T (p + 3)) = nI (T (p + 3)) := sb_lt (by omega)
        have s4 : sb (T (p + 4)) = nI (T (p + 4)) := sb_lt (by omega)
        have z12 : ¬ 12 ≤ hn A := by omega
        have z1 : nI 8 - nI (T (p + 2)) = nI (8 - T (p + 2)) := nI_sub (by omega)
        have z2 : nI 8 - nI (T (p + 3)) = nI (8 - T (p + 3)) := nI_sub (by omega)
        have z3 : T p ≤ 8 - T (p + 2) := by omega
        have z4 : T (p + 1) ≤ 8 - T (p + 3) := by omega
        have tF := fun (d : Nat) (Q : Option Value → gS → Prop) => t_isFree (d := d) (Q := Q) (σ := mst σ B A rn) hvM (by rw [mst_56]; exact wh) q5 q6 q1 q2 q3 q4
        simp only [mst_56] at tF
        by_cases ov : anyB (ovB A (T p) (T (p + 1)) (T (p + 2)) (T (p + 3))) (hn A) 0 = true
        · have ca : canR A T p = false := by simp only [canR, ov, Bool.not_true, Bool.false_and, Bool.and_false]
          have ea : adR A T p = A := if_neg (by rw [ca]; exact Bool.false_ne_true)
          simp (disch := first | omega | assumption) only [e_192_41, e_192_42, e_192_43, e_192_44, e_192_47, e_192_48, e_192_51, e_192_53, e_192_56, e_192_57, e_192_60, e_192_61, e_192_61n, e_192_62, e_192_63, e_192_66, e_192_67, e_192_68, e_192_69, e_192_69n, e_192_70, e_192_71, e_192_74, e_192_75, e_192_76, e_192_77, e_192_77n, e_192_78, e_192_79, e_192_82, e_192_83, e_192_84, e_192_85, e_192_85n, e_192_86, e_192_89, e_192_92, e_192_93, e_192_96, e_192_97, e_192_98, e_192_99, e_192_99n, e_192_100, e_192_101, e_192_103, e_192_106, e_192_109, e_192_110, e_192_111, e_192_114, e_192_115, e_192_115n, e_192_116, e_192_117, e_192_120, e_192_121, e_192_122, e_192_123, e_192_123n, e_192_124, e_192_125, e_192_128, e_192_129, e_192_130, e_192_131, e_192_131n, e_192_132, e_192_133, e_192_136, e_192_137, e_192_138, e_192_139, e_192_139n, e_192_140, e_192_143, e_192_146, e_192_147, e_192_150, e_192_151, e_192_153, e_192_155, e_192_201, e_192_202, e_192_204, e_192_207, e_192_208, e_192_211, e_192_212, e_192_213, e_192_214, e_192_215, e_192_215n, e_192_216, e_192_219, e_192_221, e_192_224, e_192_225, e_192_228, e_192_229, e_192_230, e_192_233, e_192_236, n10, n01, Nat.lt_irrefl, Nat.not_lt_zero, ne_eq, Nat.add_zero, Nat.one_ne_zero, Nat.zero_ne_one, Nat.reduceEqDiff, bI_T, bI_F, bI_0, bI_1, bI_01, not_and_self, true_and, and_true, not_true_eq_false, not_false_eq_true, false_imp_iff, true_imp_iff, imp_self, gPv_n, gPv_i, gPv_r, gPv_0, Option.toList_some, Option.toList_none, List.singleton_append, List.cons_append, List.nil_append, List.length_nil, List.length_cons, Nat.zero_le, Nat.reduceAdd, Nat.reduceLeDiff, or_true, true_or, false_or, or_false, and_self, and_false, false_and, implies_true, Option.some.injEq, exists_eq_left', nL, nI_add, nI_mul, nI_clamp, nI_ltI, nI_leI, nI_eq, nI_pos, nI_pos', Nat.reduceAdd, Nat.reduceMul, Nat.reducePow, sk_54 hvM, sr_54_2 hvM, sr_54_3 hvM, sr_54_4 hvM, sr_54_5 hvM, sr_54_7 hvM, sr_54_8 hvM, sr_54_9 hvM, sr_54_12 hvM, sr_54_13 hvM, sr_54_14 hvM, sr_54_22 hvM, sr_54_25 hvM, sr_54_26 hvM, sr_54_27 hvM, sr_54_34 hvM, sr_54_35 hvM, sr_54_36 hvM, sr_54_37 hvM, sr_54_38 hvM, sr_54_40 hvM, sr_54_43 hvM, sr_54_44 hvM, sr_54_45 hvM, sr_54_46 hvM, sr_54_47 hvM, sk_60 hvM, sn_60 hvM, z, t_houses hvM, mst_56, hn2, z12, mst_60, e0, e1, e2, e3, e4, s0, s1, s2, s3, s4, y0, y1, y2, y3, y4, t_canBe, t_lies, z1, z2, z3, z4, q1, q2, q3, q4, q7, tF, ov, Bool.true_eq_false, mst_6, mst_r]
          exact kN ea ca
        · have ov : anyB (ovB A (T p) (T (p + 1)) (T (p + 2)) (T (p + 3))) (hn A) 0 = false := by simpa using ov
          have ca : canR A T p = true := canR_1 ok ov h12
          have ea : adR A T p = addH A (T p) (T (p + 1)) (T (p + 2)) (T (p + 3)) (T (p + 4)) := if_pos ca
          have wh' : Wh (adR A T p) := by rw [ea]; exact add_Wh wh h12 q1 q2 q3 q4 q5 q6 q7 ov
          have tA := fun (d : Nat) (Q : Option Value → gS → Prop) => t_adds (d := d) (Q := Q) (l := T p) (t := T (p + 1)) (w := T (p + 2)) (e := T (p + 3)) (r := T (p + 4)) (σ := mst σ B A rn) hvM mst_56 wh h12
          simp only [mst_A] at tA
          have hvN := mst_v (rn := rn) (A := addH A (T p) (T (p + 1)) (T (p + 2)) (T (p + 3)) (T (p + 4))) hv
          simp (disch := first | omega | assumption) only [e_192_41, e_192_42, e_192_43, e_192_44, e_192_47, e_192_48, e_192_51, e_192_53, e_192_56, e_192_57, e_192_60, e_192_61, e_192_61n, e_192_62, e_192_63, e_192_66, e_192_67, e_192_68, e_192_69, e_192_69n, e_192_70, e_192_71, e_192_74, e_192_75, e_192_76, e_192_77, e_192_77n, e_192_78, e_192_79, e_192_82, e_192_83, e_192_84, e_192_85, e_192_85n, e_192_86, e_192_89, e_192_92, e_192_93, e_192_96, e_192_97, e_192_98, e_192_99, e_192_99n, e_192_100, e_192_101, e_192_103, e_192_106, e_192_109, e_192_110, e_192_111, e_192_114, e_192_115, e_192_115n, e_192_116, e_192_117, e_192_120, e_192_121, e_192_122, e_192_123, e_192_123n, e_192_124, e_192_125, e_192_128, e_192_129, e_192_130, e_192_131, e_192_131n, e_192_132, e_192_133, e_192_136, e_192_137, e_192_138, e_192_139, e_192_139n, e_192_140, e_192_143, e_192_146, e_192_147, e_192_150, e_192_151, e_192_153, e_192_155, e_192_158, e_192_159, e_192_160, e_192_163, e_192_164, e_192_164n, e_192_165, e_192_166, e_192_169, e_192_170, e_192_171, e_192_172, e_192_172n, e_192_173, e_192_174, e_192_177, e_192_178, e_192_179, e_192_180, e_192_180n, e_192_181, e_192_182, e_192_185, e_192_186, e_192_187, e_192_188, e_192_188n, e_192_189, e_192_190, e_192_193, e_192_194, e_192_195, e_192_196, e_192_196n, e_192_197, e_192_200, e_192_200n, e_192_201, e_192_202, e_192_204, e_192_207, e_192_208, e_192_211, e_192_212, e_192_213, e_192_214, e_192_215, e_192_215n, e_192_216, e_192_219, e_192_221, e_192_224, e_192_225, e_192_228, e_192_229, e_192_230, e_192_233, e_192_236, n10, n01, Nat.lt_irrefl, Nat.not_lt_zero, ne_eq, Nat.add_zero, Nat.one_ne_zero, Nat.zero_ne_one, Nat.reduceEqDiff, bI_T, bI_F, bI_0, bI_1, bI_01, not_and_self, true_and, and_true, not_true_eq_false, not_false_eq_true, false_imp_iff, true_imp_iff, imp_self, gPv_n, gPv_i, gPv_r, gPv_0, Option.toList_some, Option.toList_none, List.singleton_append, List.cons_append, List.nil_append, List.length_nil, List.length_cons, Nat.zero_le, Nat.reduceAdd, Nat.reduceLeDiff, or_true, true_or, false_or, or_false, and_self, and_false, false_and, implies_true, Option.some.injEq, exists_eq_left', nL, nI_add, nI_mul, nI_clamp, nI_ltI, nI_leI, nI_eq, nI_pos, nI_pos', Nat.reduceAdd, Nat.reduceMul, Nat.reducePow, sk_54 hvM, sr_54_2 hvM, sr_54_3 hvM, sr_54_4 hvM, sr_54_5 hvM, sr_54_7 hvM, sr_54_8 hvM, sr_54_9 hvM, sr_54_12 hvM, sr_54_13 hvM, sr_54_14 hvM, sr_54_22 hvM, sr_54_25 hvM, sr_54_26 hvM, sr_54_27 hvM, sr_54_34 hvM, sr_54_35 hvM, sr_54_36 hvM, sr_54_37 hvM, sr_54_38 hvM, sr_54_40 hvM, sr_54_43 hvM, sr_54_44 hvM, sr_54_45 hvM, sr_54_46 hvM, sr_54_47 hvM, sk_60 hvM, sn_60 hvM, sk_54 hvN, sr_54_2 hvN, sr_54_3 hvN, sr_54_4 hvN, sr_54_5 hvN, sr_54_7 hvN, sr_54_8 hvN, sr_54_9 hvN, sr_54_12 hvN, sr_54_13 hvN, sr_54_14 hvN, sr_54_22 hvN, sr_54_25 hvN, sr_54_26 hvN, sr_54_27 hvN, sr_54_34 hvN, sr_54_35 hvN, sr_54_36 hvN, sr_54_37 hvN, sr_54_38 hvN, sr_54_40 hvN, sr_54_43 hvN, sr_54_44 hvN, sr_54_45 hvN, sr_54_46 hvN, sr_54_47 hvN, z, t_houses hvM, mst_56, hn2, z12, mst_60, e0, e1, e2, e3, e4, s0, s1, s2, s3, s4, y0, y1, y2, y3, y4, t_canBe, t_lies, z1, z2, z3, z4, q1, q2, q3, q4, q7, tF, tA, ov, mst_6, mst_r, Nat.add_zero]
          rw [← ea, ih (p + 5) (cm + 1) rn (adR A T p) _ (by omega) (by omega) (by omega) wh']
          simp only [rwC, rwA, ca, if_true]
          rw [show cm + 1 + rwC T n (p + 5) (adR A T p) = cm + (1 + rwC T n (p + 5) (adR A T p)) from by omega, show n + 1 - (1 + rwC T n (p + 5) (adR A T p)) = n - rwC T n (p + 5) (adR A T p) from by omega]
      · have ca : canR A T p = false := canR_0 ok
        have ea : adR A T p = A := if_neg (by rw [ca]; exact Bool.false_ne_true)
        have ok' : ¬ okH (sb (T p)) (sb (T (p + 1))) (sb (T (p + 2))) (sb (T (p + 3))) (sb (T (p + 4))) := fun z => ok ((okH_sb (hT _) (hT _) (hT _) (hT _) (hT _)).mp z)
        have z12 : ¬ 12 ≤ hn A := by omega
        by_cases c1 : (((nI 1 ≤ sb (T (p + 2)) ∧ sb (T (p + 2)) ≤ nI 3) ∧ (nI 1 ≤ sb (T (p + 3)) ∧ sb (T (p + 3)) ≤ nI 3)) ∧ (nI 0 ≤ sb (T p) ∧ sb (T p) ≤ nI 8 - sb (T (p + 2))) ∧ (nI 0 ≤ sb (T (p + 1)) ∧ sb (T (p + 1)) ≤ nI 8 - sb (T (p + 3))))
        · have c2 : ¬ (nI 0 ≤ sb (T (p + 4)) ∧ sb (T (p + 4)) ≤ nI 9) := fun z => ok' ⟨c1.1, z, c1.2⟩
          simp (disch := first | omega | assumption) only [e_192_41, e_192_42, e_192_43, e_192_44, e_192_47, e_192_48, e_192_51, e_192_53, e_192_56, e_192_57, e_192_60, e_192_61, e_192_61n, e_192_62, e_192_63, e_192_66, e_192_67, e_192_68, e_192_69, e_192_69n, e_192_70, e_192_71, e_192_74, e_192_75, e_192_76, e_192_77, e_192_77n, e_192_78, e_192_79, e_192_82, e_192_83, e_192_84, e_192_85, e_192_85n, e_192_86, e_192_89, e_192_92, e_192_93, e_192_96, e_192_97, e_192_98, e_192_99, e_192_99n, e_192_100, e_192_101, e_192_103, e_192_106, e_192_150, e_192_151, e_192_153, e_192_155, e_192_201, e_192_202, e_192_204, e_192_207, e_192_208, e_192_211, e_192_212, e_192_213, e_192_214, e_192_215, e_192_215n, e_192_216, e_192_219, e_192_221, e_192_224, e_192_225, e_192_228, e_192_229, e_192_230, e_192_233, e_192_236, n10, n01, Nat.lt_irrefl, Nat.not_lt_zero, ne_eq, Nat.add_zero, Nat.one_ne_zero, Nat.zero_ne_one, Nat.reduceEqDiff, bI_T, bI_F, bI_0, bI_1, bI_01, not_and_self, true_and, and_true, not_true_eq_false, not_false_eq_true, false_imp_iff, true_imp_iff, imp_self, gPv_n, gPv_i, gPv_r, gPv_0, Option.toList_some, Option.toList_none, List.singleton_append, List.cons_append, List.nil_append, List.length_nil, List.length_cons, Nat.zero_le, Nat.reduceAdd, Nat.reduceLeDiff, or_true, true_or, false_or, or_false, and_self, and_false, false_and, implies_true, Option.some.injEq, exists_eq_left', nL, nI_add, nI_mul, nI_clamp, nI_ltI, nI_leI, nI_eq, nI_pos, nI_pos', Nat.reduceAdd, Nat.reduceMul, Nat.reducePow, sk_54 hvM, sr_54_2 hvM, sr_54_3 hvM, sr_54_4 hvM, sr_54_5 hvM, sr_54_7 hvM, sr_54_8 hvM, sr_54_9 hvM, sr_54_12 hvM, sr_54_13 hvM, sr_54_14 hvM, sr_54_22 hvM, sr_54_25 hvM, sr_54_26 hvM, sr_54_27 hvM, sr_54_34 hvM, sr_54_35 hvM, sr_54_36 hvM, sr_54_37 hvM, sr_54_38 hvM, sr_54_40 hvM, sr_54_43 hvM, sr_54_44 hvM, sr_54_45 hvM, sr_54_46 hvM, sr_54_47 hvM, sk_60 hvM, sn_60 hvM, z, t_houses hvM, mst_56, hn2, z12, mst_60, e0, e1, e2, e3, e4, y0, y1, y2, y3, y4, t_canBe, t_lies, bI_t c1, c2, mst_6, mst_r]
          exact kN ea ca
        · simp (disch := first | omega | assumption) only [e_192_41, e_192_42, e_192_43, e_192_44, e_192_47, e_192_48, e_192_51, e_192_53, e_192_56, e_192_57, e_192_60, e_192_61, e_192_61n, e_192_62, e_192_63, e_192_66, e_192_67, e_192_68, e_192_69, e_192_69n, e_192_70, e_192_71, e_192_74, e_192_75, e_192_76, e_192_77, e_192_77n, e_192_78, e_192_79, e_192_82, e_192_83, e_192_84, e_192_85, e_192_85n, e_192_86, e_192_89, e_192_150, e_192_151, e_192_153, e_192_155, e_192_201, e_192_202, e_192_204, e_192_207, e_192_208, e_192_211, e_192_212, e_192_213, e_192_214, e_192_215, e_192_215n, e_192_216, e_192_219, e_192_221, e_192_224, e_192_225, e_192_228, e_192_229, e_192_230, e_192_233, e_192_236, n10, n01, Nat.lt_irrefl, Nat.not_lt_zero, ne_eq, Nat.add_zero, Nat.one_ne_zero, Nat.zero_ne_one, Nat.reduceEqDiff, bI_T, bI_F, bI_0, bI_1, bI_01, not_and_self, true_and, and_true, not_true_eq_false, not_false_eq_true, false_imp_iff, true_imp_iff, imp_self, gPv_n, gPv_i, gPv_r, gPv_0, Option.toList_some, Option.toList_none, List.singleton_append, List.cons_append, List.nil_append, List.length_nil, List.length_cons, Nat.zero_le, Nat.reduceAdd, Nat.reduceLeDiff, or_true, true_or, false_or, or_false, and_self, and_false, false_and, implies_true, Option.some.injEq, exists_eq_left', nL, nI_add, nI_mul, nI_clamp, nI_ltI, nI_leI, nI_eq, nI_pos, nI_pos', Nat.reduceAdd, Nat.reduceMul, Nat.reducePow, sk_54 hvM, sr_54_2 hvM, sr_54_3 hvM, sr_54_4 hvM, sr_54_5 hvM, sr_54_7 hvM, sr_54_8 hvM, sr_54_9 hvM, sr_54_12 hvM, sr_54_13 hvM, sr_54_14 hvM, sr_54_22 hvM, sr_54_25 hvM, sr_54_26 hvM, sr_54_27 hvM, sr_54_34 hvM, sr_54_35 hvM, sr_54_36 hvM, sr_54_37 hvM, sr_54_38 hvM, sr_54_40 hvM, sr_54_43 hvM, sr_54_44 hvM, sr_54_45 hvM, sr_54_46 hvM, sr_54_47 hvM, sk_60 hvM, sn_60 hvM, z, t_houses hvM, mst_56, hn2, z12, mst_60, e0, e1, e2, e3, e4, y0, y1, y2, y3, y4, t_canBe, t_lies, bI_f c1, mst_6, mst_r]
          exact kN ea ca
    · have ca : canR A T p = false := by simp only [canR, h12, decide_false, Bool.and_false]
      have ea : adR A T p = A := if_neg (by rw [ca]; exact Bool.false_ne_true)
      have z12 : 12 ≤ hn A := by omega
      simp (disch := omega) only [e_192_41, e_192_42, e_192_43, e_192_44, e_192_47, e_192_48, e_192_51, e_192_53, e_192_150, e_192_151, e_192_153, e_192_155, e_192_201, e_192_202, e_192_204, e_192_207, e_192_208, e_192_211, e_192_212, e_192_213, e_192_214, e_192_215, e_192_215n, e_192_216, e_192_219, e_192_221, e_192_224, e_192_225, e_192_228, e_192_229, e_192_230, e_192_233, e_192_236, n10, n01, Nat.lt_irrefl, Nat.not_lt_zero, ne_eq, Nat.add_zero, Nat.one_ne_zero, Nat.zero_ne_one, Nat.reduceEqDiff, bI_T, bI_F, bI_0, bI_1, bI_01, not_and_self, true_and, and_true, not_true_eq_false, not_false_eq_true, false_imp_iff, true_imp_iff, imp_self, gPv_n, gPv_i, gPv_r, gPv_0, Option.toList_some, Option.toList_none, List.singleton_append, List.cons_append, List.nil_append, List.length_nil, List.length_cons, Nat.zero_le, Nat.reduceAdd, Nat.reduceLeDiff, or_true, true_or, false_or, or_false, and_self, and_false, false_and, implies_true, Option.some.injEq, exists_eq_left', nL, nI_add, nI_mul, nI_clamp, nI_ltI, nI_leI, nI_eq, nI_pos, nI_pos', Nat.reduceAdd, Nat.reduceMul, Nat.reducePow, sk_54 hvM, sr_54_2 hvM, sr_54_3 hvM, sr_54_4 hvM, sr_54_5 hvM, sr_54_7 hvM, sr_54_8 hvM, sr_54_9 hvM, sr_54_12 hvM, sr_54_13 hvM, sr_54_14 hvM, sr_54_22 hvM, sr_54_25 hvM, sr_54_26 hvM, sr_54_27 hvM, sr_54_34 hvM, sr_54_35 hvM, sr_54_36 hvM, sr_54_37 hvM, sr_54_38 hvM, sr_54_40 hvM, sr_54_43 hvM, sr_54_44 hvM, sr_54_45 hvM, sr_54_46 hvM, sr_54_47 hvM, sk_60 hvM, sn_60 hvM, z, t_houses hvM, mst_56, hn2, z12, mst_6, mst_r]
      exact kN ea ca
section
variable {LS : (Nat → Int32) → (Nat → Int32) → Nat → (Nat → Int32) → Nat → (Nat → Int32) → Nat → (Nat → Int32) → (Nat → Int32) → Nat → Prop} {CV : Nat → (Nat → Int32) → (Nat → Nat → Int32) → Prop} {MV : (Nat → Int32) → Int32 → (Nat → Int32) → (Nat → Int32) → (Nat → Int32) → Prop}
set_option maxHeartbeats 4000000 in
theorem ob_row {G : gG} : gOb (Inv LS CV MV G) (gb G) (gB G) (gB G + 54) 124 192 0 := by
  intro σ k as hl hk hI
  obtain rfl := len0 hl
  have hv := Inv_Sh hI
  have hb := Inv_b hI
  obtain ⟨own, ⟨w1, w2, w3, w4, w5⟩, ⟨t1, t2, t3, t4, t5⟩, lw⟩ := Inv_i4 hI
  obtain ⟨q, q1, q2, q3, q4⟩ := Inv_i6 hI
  have hT : ∃ T : Nat → Nat, (∀ j, T j < 256) ∧ (∀ j, j < q → gI σ (gB G + 19) j = nI (T j)) ∧ ∀ j, j < q → gI σ (gB G + 60) j = sb (T j) := by
    have key : ∀ j b, b < 256 → gI σ (gB G + 19) j = nI b → (gI σ (gB G + 19) j).toNatClampNeg % 256 = b := by
      intro j b h1 h2
      rw [h2, nI_clamp (by omega), Nat.mod_eq_of_lt h1]
    refine ⟨fun j => (gI σ (gB G + 19) j).toNatClampNeg % 256, fun j => Nat.mod_lt _ (by omega), ?_, ?_⟩
    · intro j hj
      obtain ⟨b, b1, b2, b3⟩ := q4 j hj
      show _ = nI ((gI σ (gB G + 19) j).toNatClampNeg % 256)
      rw [key j b b1 b2]
      exact b2
    · intro j hj
      obtain ⟨b, b1, b2, b3⟩ := q4 j hj
      show _ = sb ((gI σ (gB G + 19) j).toNatClampNeg % 256)
      rw [key j b b1 b2]
      exact b3
  obtain ⟨T, hT, ht, hu⟩ := hT
  by_cases hq0 : q = 0
  · subst hq0
    have e10 : sI (sI (sI σ (gB G) 8 (-nI 6)) (gB G + 24) 4 (gI σ (gB G + 24) 4 + nI 1)) (gB G + 54) 10 (nI 0) = sI (sI σ (gB G) 8 (-nI 6)) (gB G + 24) 4 (gI σ (gB G + 24) 4 + nI 1) := sI_id (by simp (disch := omega) only [rI_ne]; exact q3)
    simp (disch := first | omega | (simp only [IvS_I, IvS_J, IvS_r]; assumption)) only [List.map_cons, List.map_nil, Value.int.injEq, gSc_r, gSc_I, n10, n01, Nat.lt_irrefl, Nat.not_lt_zero, ne_eq, Nat.add_zero, Nat.one_ne_zero, Nat.zero_ne_one, Nat.reduceEqDiff, bI_T, bI_F, bI_0, bI_1, bI_01, not_and_self, true_and, and_true, not_true_eq_false, not_false_eq_true, false_imp_iff, true_imp_iff, imp_self, gPv_n, gPv_i, gPv_r, gPv_0, Option.toList_some, Option.toList_none, List.singleton_append, List.cons_append, List.nil_append, List.length_nil, List.length_cons, Nat.zero_le, Nat.reduceAdd, Nat.reduceLeDiff, or_true, true_or, false_or, or_false, and_self, and_false, false_and, implies_true, Option.some.injEq, exists_eq_left', n_K_I, n_K_J, n_K_R, n_K_r, n_N_I, n_N_J, n_N_R, n_N_r, n_R_I, n_R_J, n_R_r, n_J_I, n_J_R, n_J_r, n_I_J, n_I_R, n_n_I, n_n_J, n_n_R, n_n_r, n_w_I, n_w_J, n_w_R, n_w_r, n_T_I, n_T_J, n_T_R, n_T_r, rI_ne, rI_nk, rI_eq, rr_ne, rr_eq, n_J_J, n_R_R, Nat.add_left_cancel_iff, Nat.add_right_cancel_iff, Nat.add_eq_left, Nat.left_eq_add, Nat.reduceEqDiff, Nat.reduceAdd, Nat.zero_ne_one, Nat.one_ne_zero, false_and, and_false, true_and, and_true, and_self, if_false, if_true, ↓reduceIte, c_124, e_124_0, e_124_1, e_124_4, e_124_7, e_124_8, e_124_10, e_124_13, c_192, e_192_0, e_192_1, e_192_4, e_192_5, e_192_6, e_192_7, e_192_10, e_192_11, e_192_14, e_192_15, e_192_17, e_192_20, sk_0 hv, sr_0_0 hv, sr_0_1 hv, sr_0_2 hv, sr_0_4 hv, sr_0_7 hv, sr_0_9 hv, sr_0_10 hv, sr_0_11 hv, sr_0_12 hv, sr_0_13 hv, sr_0_14 hv, sk_54 hv, sr_54_2 hv, sr_54_3 hv, sr_54_4 hv, sr_54_5 hv, sr_54_7 hv, sr_54_8 hv, sr_54_9 hv, sr_54_12 hv, sr_54_13 hv, sr_54_14 hv, sr_54_22 hv, sr_54_25 hv, sr_54_26 hv, sr_54_27 hv, sr_54_34 hv, sr_54_35 hv, sr_54_36 hv, sr_54_37 hv, sr_54_38 hv, sr_54_40 hv, sr_54_43 hv, sr_54_44 hv, sr_54_45 hv, sr_54_46 hv, sr_54_47 hv, nL, nI_add, nI_mul, nI_clamp, nI_ltI, nI_leI, nI_eq, nI_pos, nI_pos', Nat.reduceAdd, Nat.reduceMul, Nat.reducePow, q2, q3, s_refuse_6, t_refuses_6, e10]
    exact Inv_ref_6 hk hI
  · have z0 : ¬ q = 0 := hq0
    simp (disch := first | omega | (simp only [IvS_I, IvS_J, IvS_r]; assumption)) only [List.map_cons, List.map_nil, Value.int.injEq, gSc_r, gSc_I, n10, n01, Nat.lt_irrefl, Nat.not_lt_zero, ne_eq, Nat.add_zero, Nat.one_ne_zero, Nat.zero_ne_one, Nat.reduceEqDiff, bI_T, bI_F, bI_0, bI_1, bI_01, not_and_self, true_and, and_true, not_true_eq_false, not_false_eq_true, false_imp_iff, true_imp_iff, imp_self, gPv_n, gPv_i, gPv_r, gPv_0, Option.toList_some, Option.toList_none, List.singleton_append, List.cons_append, List.nil_append, List.length_nil, List.length_cons, Nat.zero_le, Nat.reduceAdd, Nat.reduceLeDiff, or_true, true_or, false_or, or_false, and_self, and_false, false_and, implies_true, Option.some.injEq, exists_eq_left', n_K_I, n_K_J, n_K_R, n_K_r, n_N_I, n_N_J, n_N_R, n_N_r, n_R_I, n_R_J, n_R_r, n_J_I, n_J_R, n_J_r, n_I_J, n_I_R, n_n_I, n_n_J, n_n_R, n_n_r, n_w_I, n_w_J, n_w_R, n_w_r, n_T_I, n_T_J, n_T_R, n_T_r, rI_ne, rI_nk, rI_eq, rr_ne, rr_eq, n_J_J, n_R_R, Nat.add_left_cancel_iff, Nat.add_right_cancel_iff, Nat.add_eq_left, Nat.left_eq_add, Nat.reduceEqDiff, Nat.reduceAdd, Nat.zero_ne_one, Nat.one_ne_zero, false_and, and_false, true_and, and_true, and_self, if_false, if_true, ↓reduceIte, c_124, e_124_0, e_124_1, e_124_4, e_124_7, e_124_8, e_124_10, e_124_13, e_124_14, e_124_15, e_124_18, e_124_19, e_124_20, e_124_21, e_124_22, e_124_23, e_124_24, e_124_25, e_124_28, e_124_29, sk_0 hv, sr_0_0 hv, sr_0_1 hv, sr_0_2 hv, sr_0_4 hv, sr_0_7 hv, sr_0_9 hv, sr_0_10 hv, sr_0_11 hv, sr_0_12 hv, sr_0_13 hv, sr_0_14 hv, nL, nI_add, nI_mul, nI_clamp, nI_ltI, nI_leI, nI_eq, nI_pos, nI_pos', Nat.reduceAdd, Nat.reduceMul, Nat.reducePow, q2, z0]
    refine s_rowL (d := 995) (σ := sI σ (gB G) 3 (nI 0)) (A0 := gI σ (gB G + 56)) (m := q % 5) (IvS_I.mpr hv) hT (by intro j hj; rw [rI_ne (by omega)]; exact ht j hj) q1 (Nat.mod_lt _ (by omega)) (q / 5) 0 0 0 0 _ (gI σ (gB G + 56)) (by omega) (by omega) (by omega) ?_ ?_
    · refine ⟨Sm_refl _ _, ⟨w1, w2, ?_, ?_⟩, fun _ _ => rfl, ?_, fun _ => ⟨rfl, rfl⟩, fun _ _ _ => rfl, Nat.le_refl _⟩
      · exact fr_Th ⟨by rw [rI_ne (by omega)], by rw [rI_ne (by omega)]⟩ (fun o _ _ => by rw [rI_ne (by omega)]) (fun _ _ => rfl) rfl (hn_le w1) t1
      · exact fr_Td (by rw [rI_ne (by omega)]) (by rw [rI_ne (by omega)]) (fun _ _ _ => rfl) rfl (hn_le w1) t2
      · exact (Int32.add_zero _).symm
    · intro τ x4 hR
      have hC := rwC_le T (q / 5) 0 (gI σ (gB G + 56))
      obtain ⟨hS, ⟨w1', w2', t1', t2'⟩, hf, hcc, h00, hA, hnn⟩ := hR
      simp only [Nat.zero_add] at hcc h00 ⊢
      generalize hr0 : (q / 5 - rwC T (q / 5) 0 (gI σ (gB G + 56)) + if q % 5 = 0 then 0 else 1) = r0
      generalize hrc : rwC T (q / 5) 0 (gI σ (gB G + 56)) = rc at *
      generalize hA' : rwA T (q / 5) 0 (gI σ (gB G + 56)) = A' at *
      have hvt : IvS (gB G) τ := fr_IvS hS.1 hS.2.1 hS.2.2.1 (IvS_I.mpr hv)
      have sO : ∀ a, ¬ (gB G + 1 ≤ a ∧ a ≤ gB G + 7) → a ≠ gB G → gI τ a = gI σ a := fun a ha h0 => (hS.2.2.2.2.2.2.1 a ha).trans (rI_ne h0)
      have sB : ∀ j, j ≠ 3 → gI τ (gB G) j = gI σ (gB G) j := fun j hj => by rw [hS.2.2.2.2.2.2.1 (gB G) (by omega), rI_nk hj]
      have sB3 : gI τ (gB G) 3 = nI 0 := by rw [hS.2.2.2.2.2.2.1 (gB G) (by omega), rI_eq]
      simp (disch := first | omega | (simp only [IvS_I, IvS_J, IvS_r]; assumption)) only [List.map_cons, List.map_nil, Value.int.injEq, gSc_r, gSc_I, n10, n01, Nat.lt_irrefl, Nat.not_lt_zero, ne_eq, Nat.add_zero, Nat.one_ne_zero, Nat.zero_ne_one, Nat.reduceEqDiff, bI_T, bI_F, bI_0, bI_1, bI_01, not_and_self, true_and, and_true, not_true_eq_false, not_false_eq_true, false_imp_iff, true_imp_iff, imp_self, gPv_n, gPv_i, gPv_r, gPv_0, Option.toList_some, Option.toList_none, List.singleton_append, List.cons_append, List.nil_append, List.length_nil, List.length_cons, Nat.zero_le, Nat.reduceAdd, Nat.reduceLeDiff, or_true, true_or, false_or, or_false, and_self, and_false, false_and, implies_true, Option.some.injEq, exists_eq_left', n_K_I, n_K_J, n_K_R, n_K_r, n_N_I, n_N_J, n_N_R, n_N_r, n_R_I, n_R_J, n_R_r, n_J_I, n_J_R, n_J_r, n_I_J, n_I_R, n_n_I, n_n_J, n_n_R, n_n_r, n_w_I, n_w_J, n_w_R, n_w_r, n_T_I, n_T_J, n_T_R, n_T_r, rI_ne, rI_nk, rI_eq, rr_ne, rr_eq, n_J_J, n_R_R, Nat.add_left_cancel_iff, Nat.add_right_cancel_iff, Nat.add_eq_left, Nat.left_eq_add, Nat.reduceEqDiff, Nat.reduceAdd, Nat.zero_ne_one, Nat.one_ne_zero, false_and, and_false, true_and, and_true, and_self, if_false, if_true, ↓reduceIte, e_124_69, e_124_70, e_124_71, e_124_74, e_124_75, e_124_76, e_124_79, sk_0 hvt, sr_0_0 hvt, sr_0_1 hvt, sr_0_2 hvt, sr_0_4 hvt, sr_0_7 hvt, sr_0_9 hvt, sr_0_10 hvt, sr_0_11 hvt, sr_0_12 hvt, sr_0_13 hvt, sr_0_14 hvt, s_accept]
      have hv1 : IvS (gB G) (sI (sI (sI τ (gB G) 6 (nI r0)) (gB G) 8 (nI 0)) (gB G + 54) 10 (nI 0)) := by simp only [IvS_I]; exact hvt
      have hS1 : Sm (fun a => gB G ≤ a ∧ a < gB G + 80) σ τ := Sm_trans (Sm_B0 (Sm_refl _ _)) (Sm_mono hS (fun a ha => ⟨by omega, by omega⟩))
      have hm10 : gI τ (gB G + 54) 10 = nI q := by rw [sO _ (by omega) (by omega)]; exact q3
      have w56 : gI τ (gB G + 56) = gI σ (gB G + 56) := sO _ (by omega) (by omega)
      refine ⟨⟨?_, ?_⟩, ?_⟩
      · exact gSc_S hS1 (by omega)
      · exact sk_54 hvt
      have tl := fun (Q : Option Value → gS → Prop) (r : Nat) (hr : r ≤ 1) (x4 : Option Value) => t_rowL (d := 994) (Q := Q) (m := q % 5) hv1 hT (by intro j hj; simp (disch := omega) only [rI_ne]; rw [sO _ (by omega) (by omega)]; exact hu j hj) q1 (Nat.mod_lt _ (by omega)) (q / 5) 0 0 r (gI σ (gB G + 56)) x4 (by omega) (by omega) (by omega) w1
      have em : ∀ r, sI (sI (sI (sI τ (gB G) 6 (nI r0)) (gB G) 8 (nI 0)) (gB G + 54) 10 (nI 0)) (gB G + 54) 6 (nI r) = mst (sI (sI (sI τ (gB G) 6 (nI r0)) (gB G) 8 (nI 0)) (gB G + 54) 10 (nI 0)) (gB G) (gI σ (gB G + 56)) r := by
        intro r
        have : gI (sI (sI (sI τ (gB G) 6 (nI r0)) (gB G) 8 (nI 0)) (gB G + 54) 10 (nI 0)) (gB G + 56) = gI σ (gB G + 56) := by simp (disch := omega) only [rI_ne]; exact w56
        rw [mst, ← this, sIr_id]
      have kF : Inv LS CV MV G (sI (sI (mst (sI (sI (sI τ (gB G) 6 (nI r0)) (gB G) 8 (nI 0)) (gB G + 54) 10 (nI 0)) (gB G) A' r0) (gB G + 54) 0 (nI 0)) (gB G + 54) 1 (gI (sI (sI (sI τ (gB G) 6 (nI r0)) (gB G) 8 (nI 0)) (gB G + 54) 10 (nI 0)) (gB G + 54) 1 + nI 1)) (k + 1) := by
        have hSm : Sm (fun a => gB G ≤ a ∧ a < gB G + 80) σ (sI (sI (mst (sI (sI (sI τ (gB G) 6 (nI r0)) (gB G) 8 (nI 0)) (gB G + 54) 10 (nI 0)) (gB G) A' r0) (gB G + 54) 0 (nI 0)) (gB G + 54) 1 (gI (sI (sI (sI τ (gB G) 6 (nI r0)) (gB G) 8 (nI 0)) (gB G + 54) 10 (nI 0)) (gB G + 54) 1 + nI 1)) := by
          unfold mst
          exact Sm_B (Sm_B (Sm_B (Sm_r (Sm_B (Sm_B0 (Sm_B0 hS1)) (by decide)) ⟨by omega, by omega⟩) (by decide)) (by decide)) (by decide)
        have h6 : I6 (gB G) (sI (sI (mst (sI (sI (sI τ (gB G) 6 (nI r0)) (gB G) 8 (nI 0)) (gB G + 54) 10 (nI 0)) (gB G) A' r0) (gB G + 54) 0 (nI 0)) (gB G + 54) 1 (gI (sI (sI (sI τ (gB G) 6 (nI r0)) (gB G) 8 (nI 0)) (gB G + 54) 10 (nI 0)) (gB G + 54) 1 + nI 1)) := by
          refine ⟨0, by omega, ?_, ?_, fun j hj => absurd hj (by omega)⟩
          · simp (disch := omega) only [mst, rI_ne, rI_nk, rr_ne]
            exact sB3
          · simp (disch := omega) only [mst, rI_ne, rI_nk, rI_eq, rr_ne]
        have h7 : I7 (gB G) σ → I7 (gB G) (sI (sI (mst (sI (sI (sI τ (gB G) 6 (nI r0)) (gB G) 8 (nI 0)) (gB G + 54) 10 (nI 0)) (gB G) A' r0) (gB G + 54) 0 (nI 0)) (gB G + 54) 1 (gI (sI (sI (sI τ (gB G) 6 (nI r0)) (gB G) 8 (nI 0)) (gB G + 54) 10 (nI 0)) (gB G + 54) 1 + nI 1)) := by
          intro h
          simp only [I7] at h ⊢
          have e24 := sO (gB G + 24) (by omega) (by omega)
          have e55 := sO (gB G + 55) (by omega) (by omega)
          have e54 := sO (gB G + 54) (by omega) (by omega)
          simp (disch := omega) only [mst, rI_ne, rI_nk, rI_eq, rr_ne, sB, e24, e55, e54, h, and_self]
        by_cases hz : rc = 0
        · obtain ⟨hτ, hAA⟩ := h00 hz
          subst hAA
          subst hτ
          refine Inv_same6 hSm hI ?_ (fun _ => h6) ?_ ?_ h7 hk
          · intro o h1 h2 h3 h4 h5 h6 _
            by_cases h56 : o = 56
            · subst h56
              simp (disch := omega) only [mst, rI_ne, rr_eq]
            · simp (disch := omega) only [mst, rI_ne, rr_ne]
          · intro j hj
            simp (disch := omega) only [mst, rI_ne, rI_nk, rr_ne]
          · right
            simp (disch := omega) only [mst, rI_ne, rI_nk, rI_eq, rr_ne]
        · refine Inv_A hSm hI ?_ (fun _ => h6) ?_ ⟨rc, by omega, by omega, ?_⟩ ?_ h7 ?_ hk
          · intro o ho
            simp (disch := omega) only [mst, rI_ne, rr_ne]
            exact sO _ (by omega) (by omega)
          · intro j hj
            simp (disch := omega) only [mst, rI_ne, rI_nk, rr_ne]
            rw [sO _ (by omega) (by omega)]
          · simp (disch := omega) only [mst, rI_ne, rr_ne]
            rw [hcc, rI_ne (by omega)]
          · simp (disch := omega) only [mst, rI_ne, rI_nk, rI_eq, rr_ne]
            rw [sO _ (by omega) (by omega)]
          · intro own hl i4
            have e56 : gI (sI (sI (mst (sI (sI (sI τ (gB G) 6 (nI r0)) (gB G) 8 (nI 0)) (gB G + 54) 10 (nI 0)) (gB G) A' r0) (gB G + 54) 0 (nI 0)) (gB G + 54) 1 (gI (sI (sI (sI τ (gB G) 6 (nI r0)) (gB G) 8 (nI 0)) (gB G + 54) 10 (nI 0)) (gB G + 54) 1 + nI 1)) (gB G + 56) = A' := by simp (disch := omega) only [mst, rI_ne, rr_eq]
            have eo : ∀ o, 1 ≤ o → o < 54 → gI (sI (sI (mst (sI (sI (sI τ (gB G) 6 (nI r0)) (gB G) 8 (nI 0)) (gB G + 54) 10 (nI 0)) (gB G) A' r0) (gB G + 54) 0 (nI 0)) (gB G + 54) 1 (gI (sI (sI (sI τ (gB G) 6 (nI r0)) (gB G) 8 (nI 0)) (gB G + 54) 10 (nI 0)) (gB G + 54) 1 + nI 1)) (gB G + o) = gI τ (gB G + o) := by
              intro o h1 h2
              simp (disch := omega) only [mst, rI_ne, rr_ne]
            rw [e56]
            refine I4_a hSm.1 hSm.2.1 hSm.2.2.1 hl ?_ ?_ hA hnn i4 w1' w2' ?_ ?_
            · intro j hj
              rw [eo 1 (by omega) (by omega), hf j hj, rI_ne (by omega)]
            · intro o h1 h2
              rw [Nat.add_assoc, eo (1 + o) (by omega) (by omega)]
              exact sO _ (by omega) (by omega)
            · refine fr_Th ⟨?_, ?_⟩ ?_ (fun _ _ => rfl) rfl (hn_le w1') t1'
              · rw [eo 1 (by omega) (by omega)]
              · rw [eo 1 (by omega) (by omega)]
              · intro o h1 h2
                rw [Nat.add_assoc, eo (1 + o) (by omega) (by omega)]
            · refine fr_Td ?_ ?_ (fun _ _ _ => rfl) rfl (hn_le w1') t2'
              · rw [eo 1 (by omega) (by omega)]
              · rw [Nat.add_assoc, eo (1 + 6) (by omega) (by omega)]
      have z5 : ¬ 5 = 0 := by omega
      by_cases h5 : q % 5 = 0
      · have t0 := tl
        simp (disch := first | omega | (simp only [IvS_I, IvS_J, IvS_r]; assumption)) only [List.map_cons, List.map_nil, Value.int.injEq, gSc_r, gSc_I, n10, n01, Nat.lt_irrefl, Nat.not_lt_zero, ne_eq, Nat.add_zero, Nat.one_ne_zero, Nat.zero_ne_one, Nat.reduceEqDiff, bI_T, bI_F, bI_0, bI_1, bI_01, not_and_self, true_and, and_true, not_true_eq_false, not_false_eq_true, false_imp_iff, true_imp_iff, imp_self, gPv_n, gPv_i, gPv_r, gPv_0, Option.toList_some, Option.toList_none, List.singleton_append, List.cons_append, List.nil_append, List.length_nil, List.length_cons, Nat.zero_le, Nat.reduceAdd, Nat.reduceLeDiff, or_true, true_or, false_or, or_false, and_self, and_false, false_and, implies_true, Option.some.injEq, exists_eq_left', n_K_I, n_K_J, n_K_R, n_K_r, n_N_I, n_N_J, n_N_R, n_N_r, n_R_I, n_R_J, n_R_r, n_J_I, n_J_R, n_J_r, n_I_J, n_I_R, n_n_I, n_n_J, n_n_R, n_n_r, n_w_I, n_w_J, n_w_R, n_w_r, n_T_I, n_T_J, n_T_R, n_T_r, rI_ne, rI_nk, rI_eq, rr_ne, rr_eq, n_J_J, n_R_R, Nat.add_left_cancel_iff, Nat.add_right_cancel_iff, Nat.add_eq_left, Nat.left_eq_add, Nat.reduceEqDiff, Nat.reduceAdd, Nat.zero_ne_one, Nat.one_ne_zero, false_and, and_false, true_and, and_true, and_self, if_false, if_true, ↓reduceIte, c_192, e_192_0, e_192_1, e_192_4, e_192_5, e_192_6, e_192_7, e_192_10, e_192_11, e_192_14, e_192_15, e_192_17, e_192_20, e_192_21, e_192_22, e_192_23, e_192_24, e_192_25, e_192_26, e_192_27, e_192_30, e_192_31, e_192_34, e_192_35, e_192_38, e_192_39, sk_54 hvt, sr_54_2 hvt, sr_54_3 hvt, sr_54_4 hvt, sr_54_5 hvt, sr_54_7 hvt, sr_54_8 hvt, sr_54_9 hvt, sr_54_12 hvt, sr_54_13 hvt, sr_54_14 hvt, sr_54_22 hvt, sr_54_25 hvt, sr_54_26 hvt, sr_54_27 hvt, sr_54_34 hvt, sr_54_35 hvt, sr_54_36 hvt, sr_54_37 hvt, sr_54_38 hvt, sr_54_40 hvt, sr_54_43 hvt, sr_54_44 hvt, sr_54_45 hvt, sr_54_46 hvt, sr_54_47 hvt, nL, nI_add, nI_mul, nI_clamp, nI_ltI, nI_leI, nI_eq, nI_pos, nI_pos', Nat.reduceAdd, Nat.reduceMul, Nat.reducePow, hm10, z0, nI_div, nI_rem, z5, h5, em]
        rw [tl _ 0 (by omega), hrc, hA']
        rw [h5, if_pos rfl, Nat.add_zero] at hr0
        rw [Nat.zero_add, Nat.zero_add, hr0]
        exact ⟨rfl, kF⟩
      · simp (disch := first | omega | (simp only [IvS_I, IvS_J, IvS_r]; assumption)) only [List.map_cons, List.map_nil, Value.int.injEq, gSc_r, gSc_I, n10, n01, Nat.lt_irrefl, Nat.not_lt_zero, ne_eq, Nat.add_zero, Nat.one_ne_zero, Nat.zero_ne_one, Nat.reduceEqDiff, bI_T, bI_F, bI_0, bI_1, bI_01, not_and_self, true_and, and_true, not_true_eq_false, not_false_eq_true, false_imp_iff, true_imp_iff, imp_self, gPv_n, gPv_i, gPv_r, gPv_0, Option.toList_some, Option.toList_none, List.singleton_append, List.cons_append, List.nil_append, List.length_nil, List.length_cons, Nat.zero_le, Nat.reduceAdd, Nat.reduceLeDiff, or_true, true_or, false_or, or_false, and_self, and_false, false_and, implies_true, Option.some.injEq, exists_eq_left', n_K_I, n_K_J, n_K_R, n_K_r, n_N_I, n_N_J, n_N_R, n_N_r, n_R_I, n_R_J, n_R_r, n_J_I, n_J_R, n_J_r, n_I_J, n_I_R, n_n_I, n_n_J, n_n_R, n_n_r, n_w_I, n_w_J, n_w_R, n_w_r, n_T_I, n_T_J, n_T_R, n_T_r, rI_ne, rI_nk, rI_eq, rr_ne, rr_eq, n_J_J, n_R_R, Nat.add_left_cancel_iff, Nat.add_right_cancel_iff, Nat.add_eq_left, Nat.left_eq_add, Nat.reduceEqDiff, Nat.reduceAdd, Nat.zero_ne_one, Nat.one_ne_zero, false_and, and_false, true_and, and_true, and_self, if_false, if_true, ↓reduceIte, c_192, e_192_0, e_192_1, e_192_4, e_192_5, e_192_6, e_192_7, e_192_10, e_192_11, e_192_14, e_192_15, e_192_17, e_192_20, e_192_21, e_192_22, e_192_23, e_192_24, e_192_25, e_192_26, e_192_27, e_192_30, e_192_31, e_192_34, e_192_35, e_192_38, e_192_39, sk_54 hvt, sr_54_2 hvt, sr_54_3 hvt, sr_54_4 hvt, sr_54_5 hvt, sr_54_7 hvt, sr_54_8 hvt, sr_54_9 hvt, sr_54_12 hvt, sr_54_13 hvt, sr_54_14 hvt, sr_54_22 hvt, sr_54_25 hvt, sr_54_26 hvt, sr_54_27 hvt, sr_54_34 hvt, sr_54_35 hvt, sr_54_36 hvt, sr_54_37 hvt, sr_54_38 hvt, sr_54_40 hvt, sr_54_43 hvt, sr_54_44 hvt, sr_54_45 hvt, sr_54_46 hvt, sr_54_47 hvt, nL, nI_add, nI_mul, nI_clamp, nI_ltI, nI_leI, nI_eq, nI_pos, nI_pos', Nat.reduceAdd, Nat.reduceMul, Nat.reducePow, hm10, z0, nI_div, nI_rem, z5, h5, em]
        rw [tl _ 1 (by omega), hrc, hA']
        rw [if_neg h5] at hr0
        rw [Nat.zero_add, show 1 + (q / 5 - rc) = r0 from by omega]
        exact ⟨rfl, kF⟩
end
