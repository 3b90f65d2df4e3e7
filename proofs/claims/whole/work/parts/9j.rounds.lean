/-! rounds: the model -/
section
variable {B : Nat} {own : Nat → Nat} {σ : gS} {A : Nat → Int32} {d v : Nat} {Q : Option Value → gS → Prop}
abbrev lrA (A : Nat → Int32) (hm td a : Nat) : Nat := lr (dM A) hm (hn A) td a
def TbI (B : Nat) (A : Nat → Int32) (hm hs td a : Nat) (τ : gS) : Prop := ∀ t b, b < hn A → ad t hs = 0 → (t < td ∨ t = td ∧ b < a) → gI τ (B + 77) (12 * t + b) = nI (lrA A hm t b)
def pvN (A : Nat → Int32) (hm td a k : Nat) : Nat := if td = 0 then dM A a hm else mnF (fun j => td.testBit j) (fun j => dM A a j + lrA A hm (ad td (2 ^ j)) j) k
theorem lrA_le {hm td a : Nat} : lrA A hm td a ≤ 1000000 := lr_le (fun _ _ => dM_le)
theorem pvN_le {hm td a k : Nat} : pvN A hm td a k ≤ 1000000 := by
  rw [pvN]
  split
  · exact dM_le
  · exact mnF_le
theorem ad_sub {t hs j : Nat} (h : ad t hs = 0) : ad (ad t (2 ^ j)) hs = 0 := by
  refine Nat.eq_of_testBit_eq (fun i => ?_)
  have := congrArg (fun x => x.testBit i) h
  simp only [tb_ad, Nat.zero_testBit] at this ⊢
  cases q : t.testBit i
  · simp
  · rw [q] at this
    simp only [Bool.true_and] at this
    rw [this]
    simp
theorem ad_le {t hs : Nat} (h : ad t hs = 0) : t ≤ hs := by
  have e : t &&& hs = t := by
    refine Nat.eq_of_testBit_eq (fun i => ?_)
    have := congrArg (fun x => x.testBit i) h
    simp only [tb_ad, Nat.zero_testBit] at this
    rw [Nat.testBit_and]
    cases q : t.testBit i
    · simp
    · rw [q] at this
      simp only [Bool.true_and, Bool.not_eq_false'] at this
      rw [this]
      rfl
  rw [← e]
  exact Nat.and_le_right
set_option maxHeartbeats 1000000 in
theorem t_le1 {hm hs td a : Nat} (X : MX B σ A) (hL : LbO B A σ) (hT : TbI B A hm hs td 0 σ) (hm1 : hm < hn A) (ha : a < hn A) (htd : td < 4096) (hsub : ad td hs = 0) (K : ∀ x6 x7, wp (d + 1) pr_265 Q 147 [some (.ref (B + 54)), some (.int (nI hm)), some (.int (nI hs)), some (.int (nI td)), some (.int (nI a)), some (.int (nI (pvN A hm td a (hn A)))), x6, x7] [] σ) : ∀ m k x7, k + m = hn A → wp (d + 1) pr_265 Q 69 [some (.ref (B + 54)), some (.int (nI hm)), some (.int (nI hs)), some (.int (nI td)), some (.int (nI a)), some (.int (nI (pvN A hm td a k))), some (.int (nI k)), x7] [] σ := by
  obtain ⟨hv, hA, wh, wd, wl⟩ := id X
  have h12 := hn_le wh
  have hn2 := hn_eq wh
  intro m
  induction m with
  | zero =>
    intro k x7 hk
    have e : k = hn A := by omega
    subst e
    simp (disch := omega) only [e_265_69, e_265_71, e_265_72, e_265_75, n10, n01, Nat.lt_irrefl, Nat.not_lt_zero, ne_eq, Nat.add_zero, Nat.one_ne_zero, Nat.zero_ne_one, Nat.reduceEqDiff, bI_T, bI_F, bI_0, bI_1, bI_01, not_and_self, true_and, and_true, not_true_eq_false, not_false_eq_true, false_imp_iff, true_imp_iff, imp_self, gPv_n, gPv_i, gPv_r, gPv_0, Option.toList_some, Option.toList_none, List.singleton_append, List.cons_append, List.nil_append, List.length_nil, List.length_cons, Nat.zero_le, Nat.reduceAdd, Nat.reduceLeDiff, or_true, true_or, false_or, or_false, and_self, and_false, false_and, implies_true, Option.some.injEq, exists_eq_left', nL, nI_add, nI_mul, nI_clamp, nI_ltI, nI_leI, nI_eq, nI_pos, nI_pos', Nat.reduceAdd, Nat.reduceMul, Nat.reducePow, sk_54 hv, sr_54_2 hv, sr_54_3 hv, sr_54_4 hv, sr_54_5 hv, sr_54_7 hv, sr_54_8 hv, sr_54_9 hv, sr_54_12 hv, sr_54_13 hv, sr_54_14 hv, sr_54_22 hv, sr_54_25 hv, sr_54_26 hv, sr_54_27 hv, sr_54_34 hv, sr_54_35 hv, sr_54_36 hv, sr_54_37 hv, sr_54_38 hv, sr_54_40 hv, sr_54_43 hv, sr_54_44 hv, sr_54_45 hv, sr_54_46 hv, sr_54_47 hv, t_houses hv, hA, hn2, Nat.le_refl]
    exact K _ _
  | succ m ih =>
    intro k x7 hk
    have z : ¬ hn A ≤ k := by omega
    have ih := fun x7 => ih (k + 1) x7 (by omega)
    rw [e_265_69]
    cases c : td.testBit k
    · have e : pvN A hm td a (k + 1) = pvN A hm td a k := by
        simp only [pvN, mnF, c, Bool.false_eq_true, if_false]
      rw [e] at ih
      simp (disch := omega) only [e_265_71, e_265_72, e_265_75, e_265_78, e_265_79, e_265_81, e_265_84, e_265_87, e_265_141, e_265_144, n10, n01, Nat.lt_irrefl, Nat.not_lt_zero, ne_eq, Nat.add_zero, Nat.one_ne_zero, Nat.zero_ne_one, Nat.reduceEqDiff, bI_T, bI_F, bI_0, bI_1, bI_01, not_and_self, true_and, and_true, not_true_eq_false, not_false_eq_true, false_imp_iff, true_imp_iff, imp_self, gPv_n, gPv_i, gPv_r, gPv_0, Option.toList_some, Option.toList_none, List.singleton_append, List.cons_append, List.nil_append, List.length_nil, List.length_cons, Nat.zero_le, Nat.reduceAdd, Nat.reduceLeDiff, or_true, true_or, false_or, or_false, and_self, and_false, false_and, implies_true, Option.some.injEq, exists_eq_left', nL, nI_add, nI_mul, nI_clamp, nI_ltI, nI_leI, nI_eq, nI_pos, nI_pos', Nat.reduceAdd, Nat.reduceMul, Nat.reducePow, sk_54 hv, sr_54_2 hv, sr_54_3 hv, sr_54_4 hv, sr_54_5 hv, sr_54_7 hv, sr_54_8 hv, sr_54_9 hv, sr_54_12 hv, sr_54_13 hv, sr_54_14 hv, sr_54_22 hv, sr_54_25 hv, sr_54_26 hv, sr_54_27 hv, sr_54_34 hv, sr_54_35 hv, sr_54_36 hv, sr_54_37 hv, sr_54_38 hv, sr_54_40 hv, sr_54_43 hv, sr_54_44 hv, sr_54_45 hv, sr_54_46 hv, sr_54_47 hv, t_houses hv, hA, hn2, z, t_isIn, c, Bool.false_eq_true]
      exact ih _
    · have td0 : td ≠ 0 := by
        intro z
        rw [z] at c
        simp at c
      have l := ad_lt2 c
      have e : pvN A hm td a (k + 1) = min (pvN A hm td a k) (dM A a k + lrA A hm (ad td (2 ^ k)) k) := by
        rw [pvN, pvN, if_neg td0, if_neg td0, mnF, if_pos c]
      rw [e] at ih
      have e1 := hL a k ha (by omega)
      have e2 := hT (ad td (2 ^ k)) k (by omega) (ad_sub hsub) (Or.inl l)
      have z1 : 12 * a + k < 144 := by omega
      have z2 : 12 * ad td (2 ^ k) + k < 49152 := by omega
      have z2' : ad td (2 ^ k) * 12 + k = 12 * ad td (2 ^ k) + k := by omega
      have b1 := dM_le (A := A) (a := a) (b := k)
      have b2 := lrA_le (A := A) (hm := hm) (td := ad td (2 ^ k)) (a := k)
      have b3 := pvN_le (A := A) (hm := hm) (td := td) (a := a) (k := k)
      by_cases c2 : pvN A hm td a k ≤ dM A a k + lrA A hm (ad td (2 ^ k)) k
      · rw [Nat.min_eq_left c2] at ih
        simp (disch := omega) only [e_265_71, e_265_72, e_265_75, e_265_78, e_265_79, e_265_81, e_265_84, e_265_87, e_265_90, e_265_91, e_265_94, e_265_96, e_265_98, e_265_99, e_265_101, e_265_102, e_265_103, e_265_104, e_265_107, e_265_108, e_265_109, e_265_111, e_265_112, e_265_113, e_265_114, e_265_115, e_265_117, e_265_118, e_265_120, e_265_121, e_265_122, e_265_123, e_265_125, e_265_127, e_265_129, e_265_132, e_265_134, e_265_137, e_265_139, e_265_141, e_265_144, n10, n01, Nat.lt_irrefl, Nat.not_lt_zero, ne_eq, Nat.add_zero, Nat.one_ne_zero, Nat.zero_ne_one, Nat.reduceEqDiff, bI_T, bI_F, bI_0, bI_1, bI_01, not_and_self, true_and, and_true, not_true_eq_false, not_false_eq_true, false_imp_iff, true_imp_iff, imp_self, gPv_n, gPv_i, gPv_r, gPv_0, Option.toList_some, Option.toList_none, List.singleton_append, List.cons_append, List.nil_append, List.length_nil, List.length_cons, Nat.zero_le, Nat.reduceAdd, Nat.reduceLeDiff, or_true, true_or, false_or, or_false, and_self, and_false, false_and, implies_true, Option.some.injEq, exists_eq_left', nL, nI_add, nI_mul, nI_clamp, nI_ltI, nI_leI, nI_eq, nI_pos, nI_pos', Nat.reduceAdd, Nat.reduceMul, Nat.reducePow, sk_54 hv, sr_54_2 hv, sr_54_3 hv, sr_54_4 hv, sr_54_5 hv, sr_54_7 hv, sr_54_8 hv, sr_54_9 hv, sr_54_12 hv, sr_54_13 hv, sr_54_14 hv, sr_54_22 hv, sr_54_25 hv, sr_54_26 hv, sr_54_27 hv, sr_54_34 hv, sr_54_35 hv, sr_54_36 hv, sr_54_37 hv, sr_54_38 hv, sr_54_40 hv, sr_54_43 hv, sr_54_44 hv, sr_54_45 hv, sr_54_46 hv, sr_54_47 hv, sk_76 hv, sn_76 hv, sk_77 hv, sn_77 hv, t_houses hv, hA, hn2, z, t_isIn, c, nI_shl, Nat.one_mul, nI_ad, z1, z2, z2', e1, e2, c2]
        exact ih _
      · rw [Nat.min_eq_right (by omega)] at ih
        simp (disch := omega) only [e_265_71, e_265_72, e_265_75, e_265_78, e_265_79, e_265_81, e_265_84, e_265_87, e_265_90, e_265_91, e_265_94, e_265_96, e_265_98, e_265_99, e_265_101, e_265_102, e_265_103, e_265_104, e_265_107, e_265_108, e_265_109, e_265_111, e_265_112, e_265_113, e_265_114, e_265_115, e_265_117, e_265_118, e_265_120, e_265_121, e_265_122, e_265_123, e_265_125, e_265_127, e_265_129, e_265_132, e_265_134, e_265_137, e_265_139, e_265_141, e_265_144, n10, n01, Nat.lt_irrefl, Nat.not_lt_zero, ne_eq, Nat.add_zero, Nat.one_ne_zero, Nat.zero_ne_one, Nat.reduceEqDiff, bI_T, bI_F, bI_0, bI_1, bI_01, not_and_self, true_and, and_true, not_true_eq_false, not_false_eq_true, false_imp_iff, true_imp_iff, imp_self, gPv_n, gPv_i, gPv_r, gPv_0, Option.toList_some, Option.toList_none, List.singleton_append, List.cons_append, List.nil_append, List.length_nil, List.length_cons, Nat.zero_le, Nat.reduceAdd, Nat.reduceLeDiff, or_true, true_or, false_or, or_false, and_self, and_false, false_and, implies_true, Option.some.injEq, exists_eq_left', nL, nI_add, nI_mul, nI_clamp, nI_ltI, nI_leI, nI_eq, nI_pos, nI_pos', Nat.reduceAdd, Nat.reduceMul, Nat.reducePow, sk_54 hv, sr_54_2 hv, sr_54_3 hv, sr_54_4 hv, sr_54_5 hv, sr_54_7 hv, sr_54_8 hv, sr_54_9 hv, sr_54_12 hv, sr_54_13 hv, sr_54_14 hv, sr_54_22 hv, sr_54_25 hv, sr_54_26 hv, sr_54_27 hv, sr_54_34 hv, sr_54_35 hv, sr_54_36 hv, sr_54_37 hv, sr_54_38 hv, sr_54_40 hv, sr_54_43 hv, sr_54_44 hv, sr_54_45 hv, sr_54_46 hv, sr_54_47 hv, sk_76 hv, sn_76 hv, sk_77 hv, sn_77 hv, t_houses hv, hA, hn2, z, t_isIn, c, nI_shl, Nat.one_mul, nI_ad, z1, z2, z2', e1, e2, c2]
        exact ih _
theorem pv_end {hm td a : Nat} : pvN A hm td a (hn A) = lrA A hm td a := by
  rw [pvN]
  by_cases c : td = 0
  · rw [if_pos c, c, lrA, lr_0]
  · rw [if_neg c, lrA, lr_s c]
theorem t_le2 {hm hs td : Nat} (X : MX B σ A) (hL : LbO B A σ) (hm1 : hm < hn A) (htd : td < 4096) (hsub : ad td hs = 0) (K : ∀ τ' x4 x5 x6 x7, Sm (fun a => a = B + 77) σ τ' → TbI B A hm hs (td + 1) 0 τ' → wp (d + 1) pr_265 Q 167 [some (.ref (B + 54)), some (.int (nI hm)), some (.int (nI hs)), some (.int (nI td)), x4, x5, x6, x7] [] τ') : ∀ m a τ x5 x6 x7, a + m = hn A → Sm (fun a => a = B + 77) σ τ → TbI B A hm hs td a τ → wp (d + 1) pr_265 Q 34 [some (.ref (B + 54)), some (.int (nI hm)), some (.int (nI hs)), some (.int (nI td)), some (.int (nI a)), x5, x6, x7] [] τ := by
  have wh := X.2.2.1
  have h12 := hn_le wh
  have hn2 := hn_eq wh
  intro m
  induction m with
  | zero =>
    intro a τ x5 x6 x7 hk hS hT
    obtain ⟨hv, hA, _⟩ := MX_S X hS (by omega)
    have e : a = hn A := by omega
    subst e
    simp (disch := omega) only [e_265_34, e_265_36, e_265_37, e_265_40, n10, n01, Nat.lt_irrefl, Nat.not_lt_zero, ne_eq, Nat.add_zero, Nat.one_ne_zero, Nat.zero_ne_one, Nat.reduceEqDiff, bI_T, bI_F, bI_0, bI_1, bI_01, not_and_self, true_and, and_true, not_true_eq_false, not_false_eq_true, false_imp_iff, true_imp_iff, imp_self, gPv_n, gPv_i, gPv_r, gPv_0, Option.toList_some, Option.toList_none, List.singleton_append, List.cons_append, List.nil_append, List.length_nil, List.length_cons, Nat.zero_le, Nat.reduceAdd, Nat.reduceLeDiff, or_true, true_or, false_or, or_false, and_self, and_false, false_and, implies_true, Option.some.injEq, exists_eq_left', nL, nI_add, nI_mul, nI_clamp, nI_ltI, nI_leI, nI_eq, nI_pos, nI_pos', Nat.reduceAdd, Nat.reduceMul, Nat.reducePow, sk_54 hv, sr_54_2 hv, sr_54_3 hv, sr_54_4 hv, sr_54_5 hv, sr_54_7 hv, sr_54_8 hv, sr_54_9 hv, sr_54_12 hv, sr_54_13 hv, sr_54_14 hv, sr_54_22 hv, sr_54_25 hv, sr_54_26 hv, sr_54_27 hv, sr_54_34 hv, sr_54_35 hv, sr_54_36 hv, sr_54_37 hv, sr_54_38 hv, sr_54_40 hv, sr_54_43 hv, sr_54_44 hv, sr_54_45 hv, sr_54_46 hv, sr_54_47 hv, t_houses hv, hA, hn2, Nat.le_refl]
    refine K τ _ _ _ _ hS ?_
    intro t b hb h1 h2
    exact hT t b hb h1 (by omega)
  | succ m ih =>
    intro a τ x5 x6 x7 hk hS hT
    have X1 := MX_S X hS (by omega)
    obtain ⟨hv, hA, _⟩ := id X1
    have z : ¬ hn A ≤ a := by omega
    have ha : a < hn A := by omega
    have L1 : LbO B A τ := by
      intro x y hx hy
      rw [hS.2.2.2.2.2.2.1 _ (by omega)]
      exact hL x y hx hy
    have T1 : TbI B A hm hs td 0 τ := fun t b hb h1 h2 => hT t b hb h1 (by omega)
    have go : ∀ x6 x7, wp (d + 1) pr_265 Q 147 [some (.ref (B + 54)), some (.int (nI hm)), some (.int (nI hs)), some (.int (nI td)), some (.int (nI a)), some (.int (nI (pvN A hm td a (hn A)))), x6, x7] [] τ := by
      intro x6 x7
      have z2 : 12 * td + a < 49152 := by omega
      have z2' : td * 12 + a = 12 * td + a := by omega
      simp (disch := omega) only [e_265_147, e_265_148, e_265_151, e_265_152, e_265_154, e_265_155, e_265_157, e_265_158, e_265_160, e_265_161, e_265_164, n10, n01, Nat.lt_irrefl, Nat.not_lt_zero, ne_eq, Nat.add_zero, Nat.one_ne_zero, Nat.zero_ne_one, Nat.reduceEqDiff, bI_T, bI_F, bI_0, bI_1, bI_01, not_and_self, true_and, and_true, not_true_eq_false, not_false_eq_true, false_imp_iff, true_imp_iff, imp_self, gPv_n, gPv_i, gPv_r, gPv_0, Option.toList_some, Option.toList_none, List.singleton_append, List.cons_append, List.nil_append, List.length_nil, List.length_cons, Nat.zero_le, Nat.reduceAdd, Nat.reduceLeDiff, or_true, true_or, false_or, or_false, and_self, and_false, false_and, implies_true, Option.some.injEq, exists_eq_left', nL, nI_add, nI_mul, nI_clamp, nI_ltI, nI_leI, nI_eq, nI_pos, nI_pos', Nat.reduceAdd, Nat.reduceMul, Nat.reducePow, sk_54 hv, sr_54_2 hv, sr_54_3 hv, sr_54_4 hv, sr_54_5 hv, sr_54_7 hv, sr_54_8 hv, sr_54_9 hv, sr_54_12 hv, sr_54_13 hv, sr_54_14 hv, sr_54_22 hv, sr_54_25 hv, sr_54_26 hv, sr_54_27 hv, sr_54_34 hv, sr_54_35 hv, sr_54_36 hv, sr_54_37 hv, sr_54_38 hv, sr_54_40 hv, sr_54_43 hv, sr_54_44 hv, sr_54_45 hv, sr_54_46 hv, sr_54_47 hv, sk_77 hv, sn_77 hv, z2, z2']
      refine ih (a + 1) _ _ _ _ (by omega) (Sm_I hS rfl) ?_
      intro t b hb h1 h2
      by_cases q : t = td ∧ b = a
      · rw [q.1, q.2, rI_eq, pv_end]
      · rw [rI_nk (by omega)]
        exact hT t b hb h1 (by omega)
    rw [e_265_34]
    have st := fun x7 => t_le1 (d := d) (Q := Q) X1 L1 T1 hm1 ha htd hsub go (hn A) 0 x7 (by omega)
    by_cases c : td = 0
    · have e1 := L1 a hm ha hm1
      have z1 : 12 * a + hm < 144 := by omega
      have e0 : pvN A hm td a 0 = dM A a hm := by rw [pvN, if_pos c]
      rw [e0] at st
      subst c
      simp (disch := omega) only [e_265_36, e_265_37, e_265_40, e_265_43, e_265_44, e_265_47, e_265_48, e_265_51, e_265_53, e_265_55, e_265_56, e_265_57, e_265_58, e_265_59, e_265_62, e_265_64, e_265_66, e_265_67, n10, n01, Nat.lt_irrefl, Nat.not_lt_zero, ne_eq, Nat.add_zero, Nat.one_ne_zero, Nat.zero_ne_one, Nat.reduceEqDiff, bI_T, bI_F, bI_0, bI_1, bI_01, not_and_self, true_and, and_true, not_true_eq_false, not_false_eq_true, false_imp_iff, true_imp_iff, imp_self, gPv_n, gPv_i, gPv_r, gPv_0, Option.toList_some, Option.toList_none, List.singleton_append, List.cons_append, List.nil_append, List.length_nil, List.length_cons, Nat.zero_le, Nat.reduceAdd, Nat.reduceLeDiff, or_true, true_or, false_or, or_false, and_self, and_false, false_and, implies_true, Option.some.injEq, exists_eq_left', nL, nI_add, nI_mul, nI_clamp, nI_ltI, nI_leI, nI_eq, nI_pos, nI_pos', Nat.reduceAdd, Nat.reduceMul, Nat.reducePow, sk_54 hv, sr_54_2 hv, sr_54_3 hv, sr_54_4 hv, sr_54_5 hv, sr_54_7 hv, sr_54_8 hv, sr_54_9 hv, sr_54_12 hv, sr_54_13 hv, sr_54_14 hv, sr_54_22 hv, sr_54_25 hv, sr_54_26 hv, sr_54_27 hv, sr_54_34 hv, sr_54_35 hv, sr_54_36 hv, sr_54_37 hv, sr_54_38 hv, sr_54_40 hv, sr_54_43 hv, sr_54_44 hv, sr_54_45 hv, sr_54_46 hv, sr_54_47 hv, sk_76 hv, sn_76 hv, t_houses hv, hA, hn2, z, z1, e1]
      exact st _
    · have e0 : pvN A hm td a 0 = 1000000 := by rw [pvN, if_neg c, mnF]
      rw [e0] at st
      simp (disch := omega) only [e_265_36, e_265_37, e_265_40, e_265_43, e_265_44, e_265_47, e_265_48, e_265_51, e_265_53, e_265_55, e_265_56, e_265_57, e_265_58, e_265_59, e_265_62, e_265_64, e_265_66, e_265_67, n10, n01, Nat.lt_irrefl, Nat.not_lt_zero, ne_eq, Nat.add_zero, Nat.one_ne_zero, Nat.zero_ne_one, Nat.reduceEqDiff, bI_T, bI_F, bI_0, bI_1, bI_01, not_and_self, true_and, and_true, not_true_eq_false, not_false_eq_true, false_imp_iff, true_imp_iff, imp_self, gPv_n, gPv_i, gPv_r, gPv_0, Option.toList_some, Option.toList_none, List.singleton_append, List.cons_append, List.nil_append, List.length_nil, List.length_cons, Nat.zero_le, Nat.reduceAdd, Nat.reduceLeDiff, or_true, true_or, false_or, or_false, and_self, and_false, false_and, implies_true, Option.some.injEq, exists_eq_left', nL, nI_add, nI_mul, nI_clamp, nI_ltI, nI_leI, nI_eq, nI_pos, nI_pos', Nat.reduceAdd, Nat.reduceMul, Nat.reducePow, sk_54 hv, sr_54_2 hv, sr_54_3 hv, sr_54_4 hv, sr_54_5 hv, sr_54_7 hv, sr_54_8 hv, sr_54_9 hv, sr_54_12 hv, sr_54_13 hv, sr_54_14 hv, sr_54_22 hv, sr_54_25 hv, sr_54_26 hv, sr_54_27 hv, sr_54_34 hv, sr_54_35 hv, sr_54_36 hv, sr_54_37 hv, sr_54_38 hv, sr_54_40 hv, sr_54_43 hv, sr_54_44 hv, sr_54_45 hv, sr_54_46 hv, sr_54_47 hv, t_houses hv, hA, hn2, z, c]
      exact st _
theorem t_le3 {hm hs : Nat} (X : MX B σ A) (hL : LbO B A σ) (hm1 : hm < hn A) (hs1 : hs < 2 ^ hn A) (K : ∀ τ', Sm (fun a => a = B + 77) σ τ' → TbI B A hm hs (2 ^ hn A) 0 τ' → Q (some (.int (nI (lrA A hm hs hm)))) τ') : ∀ m td τ x4 x5 x6 x7, td + m = 2 ^ hn A → Sm (fun a => a = B + 77) σ τ → TbI B A hm hs td 0 τ → wp (d + 1) pr_265 Q 10 [some (.ref (B + 54)), some (.int (nI hm)), some (.int (nI hs)), some (.int (nI td)), x4, x5, x6, x7] [] τ := by
  have wh := X.2.2.1
  have h12 := hn_le wh
  have hn2 := hn_eq wh
  have p12 : 2 ^ hn A ≤ 4096 := Nat.pow_le_pow_right (by decide) h12
  intro m
  induction m with
  | zero =>
    intro td τ x4 x5 x6 x7 hk hS hT
    obtain ⟨hv, hA, _⟩ := MX_S X hS (by omega)
    have e : td = 2 ^ hn A := by omega
    subst e
    have r := hT hs hm hm1 (by
      refine Nat.eq_of_testBit_eq (fun i => ?_)
      rw [tb_ad]
      simp) (Or.inl hs1)
    have z2 : 12 * hs + hm < 49152 := by omega
    have z2' : hs * 12 + hm = 12 * hs + hm := by omega
    simp (disch := omega) only [e_265_10, e_265_11, e_265_12, e_265_13, e_265_16, e_265_17, e_265_173, e_265_174, e_265_177, e_265_178, e_265_180, e_265_181, e_265_182, e_265_183, e_265_184, n10, n01, Nat.lt_irrefl, Nat.not_lt_zero, ne_eq, Nat.add_zero, Nat.one_ne_zero, Nat.zero_ne_one, Nat.reduceEqDiff, bI_T, bI_F, bI_0, bI_1, bI_01, not_and_self, true_and, and_true, not_true_eq_false, not_false_eq_true, false_imp_iff, true_imp_iff, imp_self, gPv_n, gPv_i, gPv_r, gPv_0, Option.toList_some, Option.toList_none, List.singleton_append, List.cons_append, List.nil_append, List.length_nil, List.length_cons, Nat.zero_le, Nat.reduceAdd, Nat.reduceLeDiff, or_true, true_or, false_or, or_false, and_self, and_false, false_and, implies_true, Option.some.injEq, exists_eq_left', nL, nI_add, nI_mul, nI_clamp, nI_ltI, nI_leI, nI_eq, nI_pos, nI_pos', Nat.reduceAdd, Nat.reduceMul, Nat.reducePow, sk_54 hv, sr_54_2 hv, sr_54_3 hv, sr_54_4 hv, sr_54_5 hv, sr_54_7 hv, sr_54_8 hv, sr_54_9 hv, sr_54_12 hv, sr_54_13 hv, sr_54_14 hv, sr_54_22 hv, sr_54_25 hv, sr_54_26 hv, sr_54_27 hv, sr_54_34 hv, sr_54_35 hv, sr_54_36 hv, sr_54_37 hv, sr_54_38 hv, sr_54_40 hv, sr_54_43 hv, sr_54_44 hv, sr_54_45 hv, sr_54_46 hv, sr_54_47 hv, sk_77 hv, sn_77 hv, t_houses hv, hA, hn2, nI_shl, Nat.one_mul, Nat.le_refl, z2, z2', r]
    exact K τ hS hT
  | succ m ih =>
    intro td τ x4 x5 x6 x7 hk hS hT
    have X1 := MX_S X hS (by omega)
    obtain ⟨hv, hA, _⟩ := id X1
    have z : ¬ 2 ^ hn A ≤ td := by omega
    have L1 : LbO B A τ := by
      intro x y hx hy
      rw [hS.2.2.2.2.2.2.1 _ (by omega)]
      exact hL x y hx hy
    have al : ad td hs < 4096 := ad_lt (by omega)
    have go : ∀ τ' x4 x5 x6 x7, Sm (fun a => a = B + 77) σ τ' → TbI B A hm hs (td + 1) 0 τ' → wp (d + 1) pr_265 Q 167 [some (.ref (B + 54)), some (.int (nI hm)), some (.int (nI hs)), some (.int (nI td)), x4, x5, x6, x7] [] τ' := by
      intro τ' x4 x5 x6 x7 hS' hT'
      simp (disch := omega) only [e_265_167, e_265_170, n10, n01, Nat.lt_irrefl, Nat.not_lt_zero, ne_eq, Nat.add_zero, Nat.one_ne_zero, Nat.zero_ne_one, Nat.reduceEqDiff, bI_T, bI_F, bI_0, bI_1, bI_01, not_and_self, true_and, and_true, not_true_eq_false, not_false_eq_true, false_imp_iff, true_imp_iff, imp_self, gPv_n, gPv_i, gPv_r, gPv_0, Option.toList_some, Option.toList_none, List.singleton_append, List.cons_append, List.nil_append, List.length_nil, List.length_cons, Nat.zero_le, Nat.reduceAdd, Nat.reduceLeDiff, or_true, true_or, false_or, or_false, and_self, and_false, false_and, implies_true, Option.some.injEq, exists_eq_left', nL, nI_add]
      exact ih (td + 1) τ' _ _ _ _ (by omega) hS' hT'
    rw [e_265_10]
    by_cases c : ad td hs = 0
    · simp (disch := omega) only [e_265_11, e_265_12, e_265_13, e_265_16, e_265_17, e_265_20, e_265_21, e_265_22, e_265_23, e_265_24, e_265_25, e_265_28, e_265_31, e_265_32, n10, n01, Nat.lt_irrefl, Nat.not_lt_zero, ne_eq, Nat.add_zero, Nat.one_ne_zero, Nat.zero_ne_one, Nat.reduceEqDiff, bI_T, bI_F, bI_0, bI_1, bI_01, not_and_self, true_and, and_true, not_true_eq_false, not_false_eq_true, false_imp_iff, true_imp_iff, imp_self, gPv_n, gPv_i, gPv_r, gPv_0, Option.toList_some, Option.toList_none, List.singleton_append, List.cons_append, List.nil_append, List.length_nil, List.length_cons, Nat.zero_le, Nat.reduceAdd, Nat.reduceLeDiff, or_true, true_or, false_or, or_false, and_self, and_false, false_and, implies_true, Option.some.injEq, exists_eq_left', nL, nI_add, nI_mul, nI_clamp, nI_ltI, nI_leI, nI_eq, nI_pos, nI_pos', Nat.reduceAdd, Nat.reduceMul, Nat.reducePow, sk_54 hv, sr_54_2 hv, sr_54_3 hv, sr_54_4 hv, sr_54_5 hv, sr_54_7 hv, sr_54_8 hv, sr_54_9 hv, sr_54_12 hv, sr_54_13 hv, sr_54_14 hv, sr_54_22 hv, sr_54_25 hv, sr_54_26 hv, sr_54_27 hv, sr_54_34 hv, sr_54_35 hv, sr_54_36 hv, sr_54_37 hv, sr_54_38 hv, sr_54_40 hv, sr_54_43 hv, sr_54_44 hv, sr_54_45 hv, sr_54_46 hv, sr_54_47 hv, t_houses hv, hA, hn2, nI_shl, Nat.one_mul, z, nI_ad, c]
      exact t_le2 X1 L1 hm1 (by omega) c (fun τ' x4 x5 x6 x7 hS' hT' => go τ' x4 x5 x6 x7 (Sm_trans hS hS') hT') (hn A) 0 τ _ _ _ (by omega) (Sm_refl _ _) hT
    · simp (disch := omega) only [e_265_11, e_265_12, e_265_13, e_265_16, e_265_17, e_265_20, e_265_21, e_265_22, e_265_23, e_265_24, e_265_25, e_265_28, n10, n01, Nat.lt_irrefl, Nat.not_lt_zero, ne_eq, Nat.add_zero, Nat.one_ne_zero, Nat.zero_ne_one, Nat.reduceEqDiff, bI_T, bI_F, bI_0, bI_1, bI_01, not_and_self, true_and, and_true, not_true_eq_false, not_false_eq_true, false_imp_iff, true_imp_iff, imp_self, gPv_n, gPv_i, gPv_r, gPv_0, Option.toList_some, Option.toList_none, List.singleton_append, List.cons_append, List.nil_append, List.length_nil, List.length_cons, Nat.zero_le, Nat.reduceAdd, Nat.reduceLeDiff, or_true, true_or, false_or, or_false, and_self, and_false, false_and, implies_true, Option.some.injEq, exists_eq_left', nL, nI_add, nI_mul, nI_clamp, nI_ltI, nI_leI, nI_eq, nI_pos, nI_pos', Nat.reduceAdd, Nat.reduceMul, Nat.reducePow, sk_54 hv, sr_54_2 hv, sr_54_3 hv, sr_54_4 hv, sr_54_5 hv, sr_54_7 hv, sr_54_8 hv, sr_54_9 hv, sr_54_12 hv, sr_54_13 hv, sr_54_14 hv, sr_54_22 hv, sr_54_25 hv, sr_54_26 hv, sr_54_27 hv, sr_54_34 hv, sr_54_35 hv, sr_54_36 hv, sr_54_37 hv, sr_54_38 hv, sr_54_40 hv, sr_54_43 hv, sr_54_44 hv, sr_54_45 hv, sr_54_46 hv, sr_54_47 hv, t_houses hv, hA, hn2, nI_shl, Nat.one_mul, z, nI_ad, c]
      refine go τ _ _ _ _ hS ?_
      intro t b hb h1 h2
      by_cases q : t = td
      · rw [q] at h1; exact absurd h1 c
      · exact hT t b hb h1 (by omega)
theorem t_least {hm hs : Nat} (X : MX B σ A) (hmc : Mc B A σ v) (h30 : gI σ (B + 54) 30 = -nI 1) (h32 : gI σ (B + 54) 32 = -nI 1) (hm1 : hm < hn A) (hs1 : hs < 2 ^ hn A) (K : ∀ τ', QM B A v σ τ' → LbO B A τ' → TbI B A hm hs (2 ^ hn A) 0 τ' → Q (some (.int (nI (lrA A hm hs hm)))) τ') : wc (d + 70) 265 [.ref (B + 54), .int (nI hm), .int (nI hs)] σ Q := by
  have hv := X.1
  simp (disch := omega) only [c_265, e_265_0, e_265_1, n10, n01, Nat.lt_irrefl, Nat.not_lt_zero, ne_eq, Nat.add_zero, Nat.one_ne_zero, Nat.zero_ne_one, Nat.reduceEqDiff, bI_T, bI_F, bI_0, bI_1, bI_01, not_and_self, true_and, and_true, not_true_eq_false, not_false_eq_true, false_imp_iff, true_imp_iff, imp_self, gPv_n, gPv_i, gPv_r, gPv_0, Option.toList_some, Option.toList_none, List.singleton_append, List.cons_append, List.nil_append, List.length_nil, List.length_cons, Nat.zero_le, Nat.reduceAdd, Nat.reduceLeDiff, or_true, true_or, false_or, or_false, and_self, and_false, false_and, implies_true, Option.some.injEq, exists_eq_left', nL, sk_54 hv, sr_54_2 hv, sr_54_3 hv, sr_54_4 hv, sr_54_5 hv, sr_54_7 hv, sr_54_8 hv, sr_54_9 hv, sr_54_12 hv, sr_54_13 hv, sr_54_14 hv, sr_54_22 hv, sr_54_25 hv, sr_54_26 hv, sr_54_27 hv, sr_54_34 hv, sr_54_35 hv, sr_54_36 hv, sr_54_37 hv, sr_54_38 hv, sr_54_40 hv, sr_54_43 hv, sr_54_44 hv, sr_54_45 hv, sr_54_46 hv, sr_54_47 hv]
  refine t_look (d := d) X hmc h30 h32 ?_
  intro τ hq
  have X1 := QM_X X hq
  have hv1 := X1.1
  simp (disch := omega) only [e_265_4, e_265_5, n10, n01, Nat.lt_irrefl, Nat.not_lt_zero, ne_eq, Nat.add_zero, Nat.one_ne_zero, Nat.zero_ne_one, Nat.reduceEqDiff, bI_T, bI_F, bI_0, bI_1, bI_01, not_and_self, true_and, and_true, not_true_eq_false, not_false_eq_true, false_imp_iff, true_imp_iff, imp_self, gPv_n, gPv_i, gPv_r, gPv_0, Option.toList_some, Option.toList_none, List.singleton_append, List.cons_append, List.nil_append, List.length_nil, List.length_cons, Nat.zero_le, Nat.reduceAdd, Nat.reduceLeDiff, or_true, true_or, false_or, or_false, and_self, and_false, false_and, implies_true, Option.some.injEq, exists_eq_left', nL, sk_54 hv1, sr_54_2 hv1, sr_54_3 hv1, sr_54_4 hv1, sr_54_5 hv1, sr_54_7 hv1, sr_54_8 hv1, sr_54_9 hv1, sr_54_12 hv1, sr_54_13 hv1, sr_54_14 hv1, sr_54_22 hv1, sr_54_25 hv1, sr_54_26 hv1, sr_54_27 hv1, sr_54_34 hv1, sr_54_35 hv1, sr_54_36 hv1, sr_54_37 hv1, sr_54_38 hv1, sr_54_40 hv1, sr_54_43 hv1, sr_54_44 hv1, sr_54_45 hv1, sr_54_46 hv1, sr_54_47 hv1]
  refine t_layB (d := d + 66) X1 (M67_q hq) ?_
  intro τ2 hS2 hL
  have X2 := MX_S X1 hS2 (by simp only [lbP]; omega)
  have hq2 := QM_S hq hS2 (fun a ha => by simp only [lbP] at ha; omega)
  simp (disch := omega) only [e_265_8, e_265_9, n10, n01, Nat.lt_irrefl, Nat.not_lt_zero, ne_eq, Nat.add_zero, Nat.one_ne_zero, Nat.zero_ne_one, Nat.reduceEqDiff, bI_T, bI_F, bI_0, bI_1, bI_01, not_and_self, true_and, and_true, not_true_eq_false, not_false_eq_true, false_imp_iff, true_imp_iff, imp_self, gPv_n, gPv_i, gPv_r, gPv_0, Option.toList_some, Option.toList_none, List.singleton_append, List.cons_append, List.nil_append, List.length_nil, List.length_cons, Nat.zero_le, Nat.reduceAdd, Nat.reduceLeDiff, or_true, true_or, false_or, or_false, and_self, and_false, false_and, implies_true, Option.some.injEq, exists_eq_left', nL]
  refine t_le3 (d := d + 68) X2 hL hm1 hs1 ?_ (2 ^ hn A) 0 τ2 _ _ _ _ (by omega) (Sm_refl _ _) (fun t b _ _ q => absurd q (by omega))
  intro τ3 hS3 hT
  refine K τ3 (QM_S hq2 hS3 (fun a ha => by omega)) ?_ hT
  intro x y hx hy
  rw [hS3.2.2.2.2.2.2.1 _ (by omega)]
  exact hL x y hx hy
/-- a round can be asked for -/
def RdA (A : Nat → Int32) (p q : Int32) : Prop := ∃ h b, p = nI h ∧ q = nI b ∧ h < hn A ∧ b < 2 ^ hn A ∧ b.testBit h = false ∧ St A h = true
theorem t_canRound {p q : Int32} (X : MX B σ A) : wc (d + 3) 264 [.ref (B + 54), .int p, .int q] σ Q ↔ Q (some (.int (@bI (RdA A p q) (Classical.propDecidable _)))) σ := by
  obtain ⟨hv, hA, wh, wd, wl⟩ := id X
  have h12 := hn_le wh
  have hn2 := hn_eq wh
  have p12 : 2 ^ hn A ≤ 4096 := Nat.pow_le_pow_right (by decide) h12
  have p1 : 1 ≤ 2 ^ hn A := Nat.pow_pos (by decide)
  have e250 : gI σ (B + 56) 250 = nI (hn A) := by rw [hA]; exact hn2
  have no : ¬ RdA A p q → @bI (RdA A p q) (Classical.propDecidable _) = nI 0 := fun h => @if_neg _ (Classical.propDecidable _) h _ _ _
  have ye : RdA A p q → @bI (RdA A p q) (Classical.propDecidable _) = nI 1 := fun h => @if_pos _ (Classical.propDecidable _) h _ _ _
  by_cases c1 : nI 0 ≤ p ∧ p < nI (hn A)
  · obtain ⟨h, hh, rfl⟩ := in_lt (by omega) c1
    have hh1 : h ≤ hn A - 1 := by omega
    by_cases c2 : nI 0 ≤ q ∧ q ≤ nI (2 ^ hn A - 1)
    · obtain ⟨b, hb, rfl⟩ := in_nI (by omega) c2
      cases c3 : b.testBit h
      · cases c4 : St A h
        · rw [no (by
            rintro ⟨h', b', e1, e2, e3, e4, e5, e6⟩
            rw [nI_eq (by omega) (by omega)] at e1
            rw [← e1, c4] at e6
            exact absurd e6 (by simp))]
          simp (disch := omega) only [c_264, e_264_0, e_264_1, e_264_2, e_264_5, e_264_8, e_264_9, e_264_10, e_264_11, e_264_12, e_264_15, e_264_16, e_264_17, e_264_18, e_264_21, e_264_24, e_264_25, e_264_26, e_264_29, e_264_32, e_264_33, e_264_34, e_264_37, e_264_40, e_264_41, e_264_44, e_264_45, n10, n01, Nat.lt_irrefl, Nat.not_lt_zero, ne_eq, Nat.add_zero, Nat.one_ne_zero, Nat.zero_ne_one, Nat.reduceEqDiff, bI_T, bI_F, bI_0, bI_1, bI_01, not_and_self, true_and, and_true, not_true_eq_false, not_false_eq_true, false_imp_iff, true_imp_iff, imp_self, gPv_n, gPv_i, gPv_r, gPv_0, Option.toList_some, Option.toList_none, List.singleton_append, List.cons_append, List.nil_append, List.length_nil, List.length_cons, Nat.zero_le, Nat.reduceAdd, Nat.reduceLeDiff, or_true, true_or, false_or, or_false, and_self, and_false, false_and, implies_true, Option.some.injEq, exists_eq_left', nL, nI_add, nI_mul, nI_clamp, nI_ltI, nI_leI, nI_eq, nI_pos, nI_pos', Nat.reduceAdd, Nat.reduceMul, Nat.reducePow, sk_54 hv, sr_54_2 hv, sr_54_3 hv, sr_54_4 hv, sr_54_5 hv, sr_54_7 hv, sr_54_8 hv, sr_54_9 hv, sr_54_12 hv, sr_54_13 hv, sr_54_14 hv, sr_54_22 hv, sr_54_25 hv, sr_54_26 hv, sr_54_27 hv, sr_54_34 hv, sr_54_35 hv, sr_54_36 hv, sr_54_37 hv, sr_54_38 hv, sr_54_40 hv, sr_54_43 hv, sr_54_44 hv, sr_54_45 hv, sr_54_46 hv, sr_54_47 hv, t_isHouse hv, t_houses hv, t_lies, t_isIn, t_stands hv, hA, hn2, e250, le_sub1, hh, hh1, nI_shl, Nat.one_mul, nI_sub, hb, c3, c4, Bool.false_eq_true]
        · rw [ye ⟨h, b, rfl, rfl, hh, by omega, c3, c4⟩]
          simp (disch := omega) only [c_264, e_264_0, e_264_1, e_264_2, e_264_5, e_264_8, e_264_9, e_264_10, e_264_11, e_264_12, e_264_15, e_264_16, e_264_17, e_264_18, e_264_21, e_264_24, e_264_25, e_264_26, e_264_29, e_264_32, e_264_33, e_264_34, e_264_37, e_264_40, e_264_41, e_264_44, e_264_45, n10, n01, Nat.lt_irrefl, Nat.not_lt_zero, ne_eq, Nat.add_zero, Nat.one_ne_zero, Nat.zero_ne_one, Nat.reduceEqDiff, bI_T, bI_F, bI_0, bI_1, bI_01, not_and_self, true_and, and_true, not_true_eq_false, not_false_eq_true, false_imp_iff, true_imp_iff, imp_self, gPv_n, gPv_i, gPv_r, gPv_0, Option.toList_some, Option.toList_none, List.singleton_append, List.cons_append, List.nil_append, List.length_nil, List.length_cons, Nat.zero_le, Nat.reduceAdd, Nat.reduceLeDiff, or_true, true_or, false_or, or_false, and_self, and_false, false_and, implies_true, Option.some.injEq, exists_eq_left', nL, nI_add, nI_mul, nI_clamp, nI_ltI, nI_leI, nI_eq, nI_pos, nI_pos', Nat.reduceAdd, Nat.reduceMul, Nat.reducePow, sk_54 hv, sr_54_2 hv, sr_54_3 hv, sr_54_4 hv, sr_54_5 hv, sr_54_7 hv, sr_54_8 hv, sr_54_9 hv, sr_54_12 hv, sr_54_13 hv, sr_54_14 hv, sr_54_22 hv, sr_54_25 hv, sr_54_26 hv, sr_54_27 hv, sr_54_34 hv, sr_54_35 hv, sr_54_36 hv, sr_54_37 hv, sr_54_38 hv, sr_54_40 hv, sr_54_43 hv, sr_54_44 hv, sr_54_45 hv, sr_54_46 hv, sr_54_47 hv, t_isHouse hv, t_houses hv, t_lies, t_isIn, t_stands hv, hA, hn2, e250, le_sub1, hh, hh1, nI_shl, Nat.one_mul, nI_sub, hb, c3, c4, Bool.false_eq_true]
      · rw [no (by
          rintro ⟨h', b', e1, e2, e3, e4, e5, e6⟩
          rw [nI_eq (by omega) (by omega)] at e1 e2
          rw [← e1, ← e2, c3] at e5
          exact absurd e5 (by simp))]
        simp (disch := omega) only [c_264, e_264_0, e_264_1, e_264_2, e_264_5, e_264_8, e_264_9, e_264_10, e_264_11, e_264_12, e_264_15, e_264_16, e_264_17, e_264_18, e_264_21, e_264_24, e_264_25, e_264_26, e_264_29, e_264_32, e_264_33, e_264_34, e_264_37, e_264_40, e_264_41, e_264_44, e_264_45, n10, n01, Nat.lt_irrefl, Nat.not_lt_zero, ne_eq, Nat.add_zero, Nat.one_ne_zero, Nat.zero_ne_one, Nat.reduceEqDiff, bI_T, bI_F, bI_0, bI_1, bI_01, not_and_self, true_and, and_true, not_true_eq_false, not_false_eq_true, false_imp_iff, true_imp_iff, imp_self, gPv_n, gPv_i, gPv_r, gPv_0, Option.toList_some, Option.toList_none, List.singleton_append, List.cons_append, List.nil_append, List.length_nil, List.length_cons, Nat.zero_le, Nat.reduceAdd, Nat.reduceLeDiff, or_true, true_or, false_or, or_false, and_self, and_false, false_and, implies_true, Option.some.injEq, exists_eq_left', nL, nI_add, nI_mul, nI_clamp, nI_ltI, nI_leI, nI_eq, nI_pos, nI_pos', Nat.reduceAdd, Nat.reduceMul, Nat.reducePow, sk_54 hv, sr_54_2 hv, sr_54_3 hv, sr_54_4 hv, sr_54_5 hv, sr_54_7 hv, sr_54_8 hv, sr_54_9 hv, sr_54_12 hv, sr_54_13 hv, sr_54_14 hv, sr_54_22 hv, sr_54_25 hv, sr_54_26 hv, sr_54_27 hv, sr_54_34 hv, sr_54_35 hv, sr_54_36 hv, sr_54_37 hv, sr_54_38 hv, sr_54_40 hv, sr_54_43 hv, sr_54_44 hv, sr_54_45 hv, sr_54_46 hv, sr_54_47 hv, t_isHouse hv, t_houses hv, t_lies, t_isIn, hA, hn2, e250, le_sub1, hh, hh1, nI_shl, Nat.one_mul, nI_sub, hb, c3]
    · rw [no (by
        rintro ⟨h', b', e1, e2, e3, e4, e5, e6⟩
        refine c2 ?_
        rw [e2]
        simp (disch := omega) only [nI_leI]
        omega)]
      simp (disch := omega) only [c_264, e_264_0, e_264_1, e_264_2, e_264_5, e_264_8, e_264_9, e_264_10, e_264_11, e_264_12, e_264_15, e_264_16, e_264_17, e_264_18, e_264_21, e_264_44, e_264_45, n10, n01, Nat.lt_irrefl, Nat.not_lt_zero, ne_eq, Nat.add_zero, Nat.one_ne_zero, Nat.zero_ne_one, Nat.reduceEqDiff, bI_T, bI_F, bI_0, bI_1, bI_01, not_and_self, true_and, and_true, not_true_eq_false, not_false_eq_true, false_imp_iff, true_imp_iff, imp_self, gPv_n, gPv_i, gPv_r, gPv_0, Option.toList_some, Option.toList_none, List.singleton_append, List.cons_append, List.nil_append, List.length_nil, List.length_cons, Nat.zero_le, Nat.reduceAdd, Nat.reduceLeDiff, or_true, true_or, false_or, or_false, and_self, and_false, false_and, implies_true, Option.some.injEq, exists_eq_left', nL, nI_eq, sk_54 hv, sr_54_2 hv, sr_54_3 hv, sr_54_4 hv, sr_54_5 hv, sr_54_7 hv, sr_54_8 hv, sr_54_9 hv, sr_54_12 hv, sr_54_13 hv, sr_54_14 hv, sr_54_22 hv, sr_54_25 hv, sr_54_26 hv, sr_54_27 hv, sr_54_34 hv, sr_54_35 hv, sr_54_36 hv, sr_54_37 hv, sr_54_38 hv, sr_54_40 hv, sr_54_43 hv, sr_54_44 hv, sr_54_45 hv, sr_54_46 hv, sr_54_47 hv, t_isHouse hv, t_houses hv, t_lies, hA, hn2, e250, le_sub1, nI_leI, nI_ltI, Nat.zero_le, hh, hh1, nI_shl, Nat.one_mul, nI_sub, c2]
  · rw [no (by
      rintro ⟨h', b', e1, e2, e3, e4, e5, e6⟩
      refine c1 ?_
      rw [e1]
      simp (disch := omega) only [nI_leI, nI_ltI]
      omega)]
    simp (disch := omega) only [c_264, e_264_0, e_264_1, e_264_2, e_264_5, e_264_44, e_264_45, n10, n01, Nat.lt_irrefl, Nat.not_lt_zero, ne_eq, Nat.add_zero, Nat.one_ne_zero, Nat.zero_ne_one, Nat.reduceEqDiff, bI_T, bI_F, bI_0, bI_1, bI_01, not_and_self, true_and, and_true, not_true_eq_false, not_false_eq_true, false_imp_iff, true_imp_iff, imp_self, gPv_n, gPv_i, gPv_r, gPv_0, Option.toList_some, Option.toList_none, List.singleton_append, List.cons_append, List.nil_append, List.length_nil, List.length_cons, Nat.zero_le, Nat.reduceAdd, Nat.reduceLeDiff, or_true, true_or, false_or, or_false, and_self, and_false, false_and, implies_true, Option.some.injEq, exists_eq_left', nL, sk_54 hv, sr_54_2 hv, sr_54_3 hv, sr_54_4 hv, sr_54_5 hv, sr_54_7 hv, sr_54_8 hv, sr_54_9 hv, sr_54_12 hv, sr_54_13 hv, sr_54_14 hv, sr_54_22 hv, sr_54_25 hv, sr_54_26 hv, sr_54_27 hv, sr_54_34 hv, sr_54_35 hv, sr_54_36 hv, sr_54_37 hv, sr_54_38 hv, sr_54_40 hv, sr_54_43 hv, sr_54_44 hv, sr_54_45 hv, sr_54_46 hv, sr_54_47 hv, t_isHouse hv, hA, hn2, e250, le_sub1, c1]
end
