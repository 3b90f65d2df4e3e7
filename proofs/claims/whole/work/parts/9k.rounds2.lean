/-! rounds: who can be asked -/
section
variable {A : Nat → Int32}
theorem dM_fl {a b : Nat} : dM A a b < 1000000 ↔ fl (mM A) 12 a b < 16777216 := by
  rw [dM]
  split <;> omega
theorem dM_b {a b : Nat} (wh : Wh A) (ha : a < hn A) (h : dM A a b < 1000000) : dM A a b ≤ 1089 ∧ sM A b = true ∧ ∃ s x, Wk (eM A) (wM A) b s a x := by
  have hf := dM_fl.mp h
  obtain ⟨x, s, hw, _⟩ := fl_wk mM_wk 12 a b hf
  have hs : sM A b = true := by
    cases q : sM A b
    · have := fl_ns (h := a) (Or.inr q)
      omega
    · rfl
  obtain ⟨x0, s0, hl⟩ := Lw_ex hw
  obtain ⟨c1, c2⟩ := Lw_b wh ha hl
  have f1 := fl_yes wh hs ha hl
  refine ⟨?_, hs, s, x, hw⟩
  rw [dM, f1, if_pos (show 64 * x0 + s0 < 16777216 by omega)]
  omega
theorem dM_tr {a b c : Nat} (wh : Wh A) (ha : a < hn A) (hb : b < hn A) (h1 : dM A a b < 1000000) (h2 : dM A b c < 1000000) : dM A a c < 1000000 := by
  obtain ⟨_, _, s1, x1, w1⟩ := dM_b wh ha h1
  obtain ⟨_, hs, s2, x2, w2⟩ := dM_b wh hb h2
  obtain ⟨x0, s0, hl⟩ := Lw_ex (Wk_app _ _ _ _ _ w1 w2)
  obtain ⟨c1, c2⟩ := Lw_b wh ha hl
  have f1 := fl_yes wh hs ha hl
  rw [dM_fl]
  omega
theorem lr_reach {hm : Nat} (wh : Wh A) (hm1 : hm < hn A) : ∀ N td a, td < N → td < 2 ^ hn A → a < hn A → lrA A hm td a < 1000000 → dM A a hm < 1000000 ∧ ∀ j, td.testBit j = true → dM A a j < 1000000 ∧ dM A j hm < 1000000 := by
  intro N
  induction N with
  | zero => intro td a h; omega
  | succ N ih =>
    intro td a h ht ha hl
    by_cases c : td = 0
    · rw [c, lrA, lr_0] at hl
      refine ⟨hl, fun j hj => ?_⟩
      rw [c] at hj
      simp at hj
    · obtain ⟨j0, _, hj0, hb, hd, hl2⟩ := nx_ex c hl
      have l := ad_lt2 hb
      obtain ⟨i1, i2⟩ := ih _ j0 (by omega) (by omega) hj0 hl2
      refine ⟨dM_tr wh ha hj0 hd i1, fun j hj => ?_⟩
      by_cases q : j = j0
      · rw [q]; exact ⟨hd, i1⟩
      · have hj' : (ad td (2 ^ j0)).testBit j = true := by
          rw [tb_ad, hj, Nat.testBit_two_pow]
          have : ¬ j0 = j := fun z => q z.symm
          simp [this]
        obtain ⟨k1, k2⟩ := i2 j hj'
        exact ⟨dM_tr wh ha hj0 hd k1, k2⟩
theorem lr_fin {hm : Nat} (wh : Wh A) (hm1 : hm < hn A) : ∀ N td a, td < N → td < 2 ^ hn A → a < hn A → dM A a hm < 1000000 → (∀ j, td.testBit j = true → dM A a j < 1000000 ∧ dM A j hm < 1000000 ∧ dM A hm j < 1000000) → lrA A hm td a ≤ 1089 * (cn (fun j => td.testBit j) (hn A) 0 + 1) := by
  intro N
  induction N with
  | zero => intro td a h; omega
  | succ N ih =>
    intro td a h ht ha h1 h2
    by_cases c : td = 0
    · rw [c, lrA, lr_0]
      have := (dM_b wh ha h1).1
      omega
    · obtain ⟨j, hj⟩ : ∃ j, td.testBit j = true := by
        refine Classical.byContradiction (fun z => c ?_)
        refine Nat.eq_of_testBit_eq (fun j => ?_)
        rw [Nat.zero_testBit]
        cases q : td.testBit j
        · rfl
        · exact absurd ⟨j, q⟩ z
      have jn : j < hn A := by
        by_cases y : j < hn A
        · exact y
        · rw [tb_lt ht (by omega)] at hj
          exact absurd hj (by simp)
      have l := ad_lt2 hj
      obtain ⟨q1, q2, q3⟩ := h2 j hj
      have b1 := (dM_b wh ha q1).1
      have i1 := ih (ad td (2 ^ j)) j (by omega) (by omega) jn q2 (fun k hk => by
        rw [tb_ad, Bool.and_eq_true] at hk
        obtain ⟨g1, g2, g3⟩ := h2 k hk.1
        exact ⟨dM_tr wh jn hm1 q2 g3, g2, g3⟩)
      have : cn (fun j => td.testBit j) (hn A) 0 = cn (fun k => (ad td (2 ^ j)).testBit k) (hn A) 0 + 1 := by
        refine cn_set (h := j) ?_ ?_ hj (hn A) 0 (by omega) (by omega)
        · intro k hk
          rw [tb_ad, Nat.testBit_two_pow]
          have : ¬ j = k := fun z => hk z.symm
          simp [this]
        · rw [tb_ad, Nat.testBit_two_pow_self]
          simp
      have le : lrA A hm td a ≤ dM A a j + lrA A hm (ad td (2 ^ j)) j := by
        rw [lrA, lr_s c]
        exact mnF_lf (f := fun j => dM A a j + lr (dM A) hm (hn A) (ad td (2 ^ j)) j) jn hj
      omega
/-- a round that there is -/
def RdK (A : Nat → Int32) (h b : Nat) : Prop := h < hn A ∧ b < 2 ^ hn A ∧ b.testBit h = false ∧ St A h = true ∧ lrA A h b h < 1000000
def IsR (A : Nat → Int32) (h b : Nat) : Prop := h < hn A ∧ St A h = true ∧ ad b (mkN (St A) (hn A)) = 0 ∧ b.testBit h = false ∧ ∀ j, j < hn A → b.testBit j = true → dM A h j < 1000000 ∧ dM A j h < 1000000
theorem dM_hh {h : Nat} (hs : sM A h = true) : dM A h h = 0 := by
  have l := fl_le (M := mM A) (k := 12) (i := h) (j := h)
  have e : mM A h h = 0 := by rw [mM, if_pos ⟨rfl, hs⟩]
  rw [dM, if_pos (show fl (mM A) 12 h h < 16777216 by omega)]
  omega
theorem IsR_K {h b : Nat} (wh : Wh A) : IsR A h b ↔ RdK A h b := by
  have h12 := hn_le wh
  constructor
  · rintro ⟨h1, h2, h3, h4, h5⟩
    have bs : ∀ j, b.testBit j = true → j < hn A := by
      intro j hj
      have := congrArg (fun x => x.testBit j) h3
      simp only [tb_ad, Nat.zero_testBit, hj, Bool.true_and, Bool.not_eq_false', tb_mk, Bool.and_eq_true, decide_eq_true_eq] at this
      exact this.1
    have bl : b < 2 ^ hn A := by
      refine Nat.lt_pow_two_of_testBit _ (fun j hj => ?_)
      cases q : b.testBit j
      · rfl
      · have := bs j q; omega
    have hs : sM A h = true := (sM_St h1).trans h2
    have := lr_fin wh h1 (b + 1) b h (Nat.lt_succ_self _) bl h1 (by rw [dM_hh hs]; omega) (fun j hj => by
      obtain ⟨g1, g2⟩ := h5 j (bs j hj) hj
      exact ⟨g1, g2, g1⟩)
    have c := cn_le (fun j => b.testBit j) (hn A) 0
    exact ⟨h1, bl, h4, h2, by omega⟩
  · rintro ⟨h1, h2, h3, h4, h5⟩
    obtain ⟨_, r⟩ := lr_reach wh h1 (b + 1) b h (Nat.lt_succ_self _) h2 h1 h5
    refine ⟨h1, h4, ?_, h3, fun j _ hj => r j hj⟩
    refine Nat.eq_of_testBit_eq (fun j => ?_)
    rw [tb_ad, Nat.zero_testBit]
    cases q : b.testBit j
    · rfl
    · have := (dM_b wh h1 (r j q).1).2.1
      have this : (mkN (St A) (hn A)).testBit j = true := this
      rw [this]
      rfl
end
section
variable {B : Nat} {own : Nat → Nat} {σ : gS} {A : Nat → Int32} {d v : Nat} {Q : Option Value → gS → Prop}
theorem s_ir1 {h b : Nat} (hc : Ctx B own σ A) (hM : MsO B A σ) (hh : h < hn A) (hb : b < 4096) : ∀ m i x4, i + m = hn A → ((∀ j, i ≤ j → j < hn A → b.testBit j = true → dM A h j < 1000000 ∧ dM A j h < 1000000) → Q (some (.int (nI 1))) σ) → (¬ (∀ j, i ≤ j → j < hn A → b.testBit j = true → dM A h j < 1000000 ∧ dM A j h < 1000000) → Q (some (.int (nI 0))) σ) → wp (d + 3) pr_74 Q 54 [some (.ref (B + 45)), some (.int (nI h)), some (.int (nI b)), some (.int (nI i)), x4] [] σ := by
  have hv := hc.1
  have wh : Wh A := hc.2.1.1.1
  have h12 := hn_le wh
  have hn2 := hn_eq wh
  have e5 : gI σ (B + 1) 5 = A 250 := hc.2.1.2.1.1.1
  have hh12 : h < 12 := by omega
  intro m
  induction m with
  | zero =>
    intro i x4 hi K1 K0
    have z : hn A ≤ i := by omega
    simp (disch := omega) only [e_74_54, e_74_55, e_74_56, e_74_59, e_74_62, e_74_120, e_74_121, n10, n01, Nat.lt_irrefl, Nat.not_lt_zero, ne_eq, Nat.add_zero, Nat.one_ne_zero, Nat.zero_ne_one, Nat.reduceEqDiff, bI_T, bI_F, bI_0, bI_1, bI_01, not_and_self, true_and, and_true, not_true_eq_false, not_false_eq_true, false_imp_iff, true_imp_iff, imp_self, gPv_n, gPv_i, gPv_r, gPv_0, Option.toList_some, Option.toList_none, List.singleton_append, List.cons_append, List.nil_append, List.length_nil, List.length_cons, Nat.zero_le, Nat.reduceAdd, Nat.reduceLeDiff, or_true, true_or, false_or, or_false, and_self, and_false, false_and, implies_true, Option.some.injEq, exists_eq_left', nL, nI_add, nI_mul, nI_clamp, nI_ltI, nI_leI, nI_eq, nI_pos, nI_pos', Nat.reduceAdd, Nat.reduceMul, Nat.reducePow, sk_1 hv, sr_1_0 hv, sr_1_1 hv, sr_1_2 hv, sr_1_3 hv, sr_1_4 hv, sr_1_7 hv, sr_1_9 hv, sr_1_14 hv, sr_1_15 hv, sr_1_16 hv, sk_45 hv, sr_45_0 hv, sr_45_1 hv, sr_45_2 hv, sr_45_3 hv, sr_45_4 hv, e5, hn2, z]
    exact K1 (fun j h1 h2 => absurd h2 (by omega))
  | succ m ih =>
    intro i x4 hi K1 K0
    have z : ¬ hn A ≤ i := by omega
    have i12 : i < 12 := by omega
    have nxt : (b.testBit i = true → dM A h i < 1000000 ∧ dM A i h < 1000000) → ∀ x4, wp (d + 3) pr_74 Q 54 [some (.ref (B + 45)), some (.int (nI h)), some (.int (nI b)), some (.int (nI (i + 1))), x4] [] σ := by
      intro ok x4
      refine ih (i + 1) x4 (by omega) (fun g => K1 ?_) (fun g => K0 ?_)
      · intro j h1 h2 h3
        by_cases q : j = i
        · rw [q] at h3 ⊢; exact ok h3
        · exact g j (by omega) h2 h3
      · intro g2
        exact g (fun j h1 h2 h3 => g2 j (by omega) h2 h3)
    rw [e_74_54]
    cases cb : b.testBit i
    · simp (disch := omega) only [e_74_55, e_74_56, e_74_59, e_74_62, e_74_65, e_74_66, e_74_67, e_74_70, e_74_71, e_74_74, e_74_75, e_74_78, e_74_79, e_74_81, e_74_83, e_74_114, e_74_117, n10, n01, Nat.lt_irrefl, Nat.not_lt_zero, ne_eq, Nat.add_zero, Nat.one_ne_zero, Nat.zero_ne_one, Nat.reduceEqDiff, bI_T, bI_F, bI_0, bI_1, bI_01, not_and_self, true_and, and_true, not_true_eq_false, not_false_eq_true, false_imp_iff, true_imp_iff, imp_self, gPv_n, gPv_i, gPv_r, gPv_0, Option.toList_some, Option.toList_none, List.singleton_append, List.cons_append, List.nil_append, List.length_nil, List.length_cons, Nat.zero_le, Nat.reduceAdd, Nat.reduceLeDiff, or_true, true_or, false_or, or_false, and_self, and_false, false_and, implies_true, Option.some.injEq, exists_eq_left', nL, nI_add, nI_mul, nI_clamp, nI_ltI, nI_leI, nI_eq, nI_pos, nI_pos', Nat.reduceAdd, Nat.reduceMul, Nat.reducePow, sk_1 hv, sr_1_0 hv, sr_1_1 hv, sr_1_2 hv, sr_1_3 hv, sr_1_4 hv, sr_1_7 hv, sr_1_9 hv, sr_1_14 hv, sr_1_15 hv, sr_1_16 hv, sk_45 hv, sr_45_0 hv, sr_45_1 hv, sr_45_2 hv, sr_45_3 hv, sr_45_4 hv, e5, hn2, z, s_bitOf, nI_bit, cb, Bool.false_eq_true]
      exact nxt (by rw [cb]; simp) _
    · have l1 := dM_le (A := A) (a := h) (b := i)
      have l2 := dM_le (A := A) (a := i) (b := h)
      have s1 := sT_dM (A := A) (a := h) (b := i)
      have s2 := sT_dM (A := A) (a := i) (b := h)
      by_cases c1 : dM A h i = 1000000
      · rw [if_pos c1] at s1
        simp (disch := omega) only [e_74_55, e_74_56, e_74_59, e_74_62, e_74_65, e_74_66, e_74_67, e_74_70, e_74_71, e_74_74, e_74_75, e_74_78, e_74_79, e_74_81, e_74_83, e_74_86, e_74_87, e_74_90, e_74_91, e_74_92, e_74_95, e_74_96, e_74_112, e_74_113, n10, n01, Nat.lt_irrefl, Nat.not_lt_zero, ne_eq, Nat.add_zero, Nat.one_ne_zero, Nat.zero_ne_one, Nat.reduceEqDiff, bI_T, bI_F, bI_0, bI_1, bI_01, not_and_self, true_and, and_true, not_true_eq_false, not_false_eq_true, false_imp_iff, true_imp_iff, imp_self, gPv_n, gPv_i, gPv_r, gPv_0, Option.toList_some, Option.toList_none, List.singleton_append, List.cons_append, List.nil_append, List.length_nil, List.length_cons, Nat.zero_le, Nat.reduceAdd, Nat.reduceLeDiff, or_true, true_or, false_or, or_false, and_self, and_false, false_and, implies_true, Option.some.injEq, exists_eq_left', nL, nI_add, nI_mul, nI_clamp, nI_ltI, nI_leI, nI_eq, nI_pos, nI_pos', Nat.reduceAdd, Nat.reduceMul, Nat.reducePow, sk_1 hv, sr_1_0 hv, sr_1_1 hv, sr_1_2 hv, sr_1_3 hv, sr_1_4 hv, sr_1_7 hv, sr_1_9 hv, sr_1_14 hv, sr_1_15 hv, sr_1_16 hv, sk_45 hv, sr_45_0 hv, sr_45_1 hv, sr_45_2 hv, sr_45_3 hv, sr_45_4 hv, sk_25 hv, sr_25_0 hv, sr_25_1 hv, sr_25_2 hv, sr_25_3 hv, sr_25_4 hv, sr_25_5 hv, e5, hn2, z, s_bitOf, nI_bit, cb, s_shT hv hM hh12 i12, s1]
        refine K0 (fun g => ?_)
        have := (g i (by omega) (by omega) cb).1
        omega
      · rw [if_neg c1] at s1
        have n1 : ¬ nI (dM A h i) = -nI 1 := fun z => ng_ne 1 (dM A h i) (by omega) (by omega) (by omega) z.symm
        by_cases c2 : dM A i h = 1000000
        · rw [if_pos c2] at s2
          simp (disch := omega) only [e_74_55, e_74_56, e_74_59, e_74_62, e_74_65, e_74_66, e_74_67, e_74_70, e_74_71, e_74_74, e_74_75, e_74_78, e_74_79, e_74_81, e_74_83, e_74_86, e_74_87, e_74_90, e_74_91, e_74_92, e_74_95, e_74_96, e_74_99, e_74_100, e_74_103, e_74_104, e_74_105, e_74_108, e_74_109, e_74_112, e_74_113, n10, n01, Nat.lt_irrefl, Nat.not_lt_zero, ne_eq, Nat.add_zero, Nat.one_ne_zero, Nat.zero_ne_one, Nat.reduceEqDiff, bI_T, bI_F, bI_0, bI_1, bI_01, not_and_self, true_and, and_true, not_true_eq_false, not_false_eq_true, false_imp_iff, true_imp_iff, imp_self, gPv_n, gPv_i, gPv_r, gPv_0, Option.toList_some, Option.toList_none, List.singleton_append, List.cons_append, List.nil_append, List.length_nil, List.length_cons, Nat.zero_le, Nat.reduceAdd, Nat.reduceLeDiff, or_true, true_or, false_or, or_false, and_self, and_false, false_and, implies_true, Option.some.injEq, exists_eq_left', nL, nI_add, nI_mul, nI_clamp, nI_ltI, nI_leI, nI_eq, nI_pos, nI_pos', Nat.reduceAdd, Nat.reduceMul, Nat.reducePow, sk_1 hv, sr_1_0 hv, sr_1_1 hv, sr_1_2 hv, sr_1_3 hv, sr_1_4 hv, sr_1_7 hv, sr_1_9 hv, sr_1_14 hv, sr_1_15 hv, sr_1_16 hv, sk_45 hv, sr_45_0 hv, sr_45_1 hv, sr_45_2 hv, sr_45_3 hv, sr_45_4 hv, sk_25 hv, sr_25_0 hv, sr_25_1 hv, sr_25_2 hv, sr_25_3 hv, sr_25_4 hv, sr_25_5 hv, e5, hn2, z, s_bitOf, nI_bit, cb, s_shT hv hM hh12 i12, s_shT hv hM i12 hh12, s1, s2, n1]
          refine K0 (fun g => ?_)
          have := (g i (by omega) (by omega) cb).2
          omega
        · rw [if_neg c2] at s2
          have n2 : ¬ nI (dM A i h) = -nI 1 := fun z => ng_ne 1 (dM A i h) (by omega) (by omega) (by omega) z.symm
          simp (disch := omega) only [e_74_55, e_74_56, e_74_59, e_74_62, e_74_65, e_74_66, e_74_67, e_74_70, e_74_71, e_74_74, e_74_75, e_74_78, e_74_79, e_74_81, e_74_83, e_74_86, e_74_87, e_74_90, e_74_91, e_74_92, e_74_95, e_74_96, e_74_99, e_74_100, e_74_103, e_74_104, e_74_105, e_74_108, e_74_109, e_74_112, e_74_113, e_74_114, e_74_117, n10, n01, Nat.lt_irrefl, Nat.not_lt_zero, ne_eq, Nat.add_zero, Nat.one_ne_zero, Nat.zero_ne_one, Nat.reduceEqDiff, bI_T, bI_F, bI_0, bI_1, bI_01, not_and_self, true_and, and_true, not_true_eq_false, not_false_eq_true, false_imp_iff, true_imp_iff, imp_self, gPv_n, gPv_i, gPv_r, gPv_0, Option.toList_some, Option.toList_none, List.singleton_append, List.cons_append, List.nil_append, List.length_nil, List.length_cons, Nat.zero_le, Nat.reduceAdd, Nat.reduceLeDiff, or_true, true_or, false_or, or_false, and_self, and_false, false_and, implies_true, Option.some.injEq, exists_eq_left', nL, nI_add, nI_mul, nI_clamp, nI_ltI, nI_leI, nI_eq, nI_pos, nI_pos', Nat.reduceAdd, Nat.reduceMul, Nat.reducePow, sk_1 hv, sr_1_0 hv, sr_1_1 hv, sr_1_2 hv, sr_1_3 hv, sr_1_4 hv, sr_1_7 hv, sr_1_9 hv, sr_1_14 hv, sr_1_15 hv, sr_1_16 hv, sk_45 hv, sr_45_0 hv, sr_45_1 hv, sr_45_2 hv, sr_45_3 hv, sr_45_4 hv, sk_25 hv, sr_25_0 hv, sr_25_1 hv, sr_25_2 hv, sr_25_3 hv, sr_25_4 hv, sr_25_5 hv, e5, hn2, z, s_bitOf, nI_bit, cb, s_shT hv hM hh12 i12, s_shT hv hM i12 hh12, s1, s2, n1, n2]
          exact nxt (fun _ => ⟨by omega, by omega⟩) _
theorem s_isRound {p q : Int32} (hc : Ctx B own σ A) (hM : MsO B A σ) (K1 : ∀ h b, p = nI h → q = nI b → RdK A h b → Q (some (.int (nI 1))) σ) (K0 : (∀ h b, p = nI h → q = nI b → ¬ RdK A h b) → Q (some (.int (nI 0))) σ) : wc (d + 4) 74 [.ref (B + 45), .int p, .int q] σ Q := by
  have hv := hc.1
  have wh : Wh A := hc.2.1.1.1
  have h12 := hn_le wh
  have hn2 := hn_eq wh
  have p12 : 2 ^ hn A ≤ 4096 := Nat.pow_le_pow_right (by decide) h12
  have e5 : gI σ (B + 1) 5 = A 250 := hc.2.1.2.1.1.1
  have e6 : gI σ (B + 1) 6 = nI (mkN (St A) (hn A)) := hc.2.1.2.1.1.2.1
  have m0 : mkN (St A) (hn A) < 4096 := mk_lt12 h12
  by_cases c1 : nI 0 ≤ p ∧ p < nI (hn A)
  · obtain ⟨h, hh, rfl⟩ := in_lt (by omega) c1
    have ea : (mkN (St A) (hn A)).testBit h = St A h := by rw [tb_mk]; simp [hh]
    cases c2 : St A h
    · rw [c2] at ea
      simp (disch := omega) only [c_74, e_74_0, e_74_1, e_74_4, e_74_5, e_74_8, e_74_11, e_74_12, e_74_15, e_74_18, e_74_19, e_74_22, e_74_25, e_74_26, n10, n01, Nat.lt_irrefl, Nat.not_lt_zero, ne_eq, Nat.add_zero, Nat.one_ne_zero, Nat.zero_ne_one, Nat.reduceEqDiff, bI_T, bI_F, bI_0, bI_1, bI_01, not_and_self, true_and, and_true, not_true_eq_false, not_false_eq_true, false_imp_iff, true_imp_iff, imp_self, gPv_n, gPv_i, gPv_r, gPv_0, Option.toList_some, Option.toList_none, List.singleton_append, List.cons_append, List.nil_append, List.length_nil, List.length_cons, Nat.zero_le, Nat.reduceAdd, Nat.reduceLeDiff, or_true, true_or, false_or, or_false, and_self, and_false, false_and, implies_true, Option.some.injEq, exists_eq_left', nL, nI_add, nI_mul, nI_clamp, nI_ltI, nI_leI, nI_eq, nI_pos, nI_pos', Nat.reduceAdd, Nat.reduceMul, Nat.reducePow, sk_1 hv, sr_1_0 hv, sr_1_1 hv, sr_1_2 hv, sr_1_3 hv, sr_1_4 hv, sr_1_7 hv, sr_1_9 hv, sr_1_14 hv, sr_1_15 hv, sr_1_16 hv, sk_45 hv, sr_45_0 hv, sr_45_1 hv, sr_45_2 hv, sr_45_3 hv, sr_45_4 hv, s_has (sk_1 hv), e5, e6, hn2, hh, s_bitOf, nI_bit, ea, Bool.false_eq_true]
      refine K0 (fun h' b' e1 e2 r => ?_)
      obtain ⟨r1, r2, r3, r4, r5⟩ := r
      rw [nI_eq (by omega) (by omega)] at e1
      rw [← e1, c2] at r4
      exact absurd r4 (by simp)
    · rw [c2] at ea
      by_cases c3 : q &&& (nI (mkN (St A) (hn A)) ^^^ -nI 1) = nI 0
      · have h' : (q ||| q) &&& (nI (mkN (St A) (hn A)) ^^^ -nI 1) = nI 0 := by rw [Int32.or_self]; exact c3
        obtain ⟨b, g, e1, e2, f1, f2⟩ := and_sub m0 h'
        subst e1
        have hb0 : ad b (mkN (St A) (hn A)) = 0 := by
          rw [nI_ad, nI_eq (by have := ad_lt (b := mkN (St A) (hn A)) f1; omega) (by omega)] at c3
          exact c3
        cases c4 : b.testBit h
        · simp (disch := omega) only [c_74, e_74_0, e_74_1, e_74_4, e_74_5, e_74_8, e_74_11, e_74_12, e_74_15, e_74_18, e_74_19, e_74_22, e_74_25, e_74_26, e_74_27, e_74_28, e_74_29, e_74_32, e_74_35, e_74_36, e_74_37, e_74_38, e_74_41, e_74_42, e_74_43, e_74_46, e_74_47, e_74_50, e_74_51, e_74_52, e_74_53, n10, n01, Nat.lt_irrefl, Nat.not_lt_zero, ne_eq, Nat.add_zero, Nat.one_ne_zero, Nat.zero_ne_one, Nat.reduceEqDiff, bI_T, bI_F, bI_0, bI_1, bI_01, not_and_self, true_and, and_true, not_true_eq_false, not_false_eq_true, false_imp_iff, true_imp_iff, imp_self, gPv_n, gPv_i, gPv_r, gPv_0, Option.toList_some, Option.toList_none, List.singleton_append, List.cons_append, List.nil_append, List.length_nil, List.length_cons, Nat.zero_le, Nat.reduceAdd, Nat.reduceLeDiff, or_true, true_or, false_or, or_false, and_self, and_false, false_and, implies_true, Option.some.injEq, exists_eq_left', nL, nI_add, nI_mul, nI_clamp, nI_ltI, nI_leI, nI_eq, nI_pos, nI_pos', Nat.reduceAdd, Nat.reduceMul, Nat.reducePow, sk_1 hv, sr_1_0 hv, sr_1_1 hv, sr_1_2 hv, sr_1_3 hv, sr_1_4 hv, sr_1_7 hv, sr_1_9 hv, sr_1_14 hv, sr_1_15 hv, sr_1_16 hv, sk_45 hv, sr_45_0 hv, sr_45_1 hv, sr_45_2 hv, sr_45_3 hv, sr_45_4 hv, s_has (sk_1 hv), e5, e6, hn2, hh, s_bitOf, nI_bit, ea, nI_ad, hb0, c4, Bool.false_eq_true]
          refine s_ir1 hc hM hh f1 (hn A) 0 _ (by omega) (fun g => ?_) (fun g => ?_)
          · exact K1 h b rfl rfl ((IsR_K wh).mp ⟨hh, c2, hb0, c4, fun j hj hb => g j (by omega) hj hb⟩)
          · refine K0 (fun h' b' e1 e2 r => g ?_)
            have r' := r
            obtain ⟨r1, r2, r3, r4, r5⟩ := r'
            rw [nI_eq (by omega) (by omega)] at e1 e2
            subst e1
            subst e2
            obtain ⟨_, _, _, _, i5⟩ := (IsR_K wh).mpr r
            exact fun j _ h2 h3 => i5 j h2 h3
        · simp (disch := omega) only [c_74, e_74_0, e_74_1, e_74_4, e_74_5, e_74_8, e_74_11, e_74_12, e_74_15, e_74_18, e_74_19, e_74_22, e_74_25, e_74_26, e_74_27, e_74_28, e_74_29, e_74_32, e_74_35, e_74_36, e_74_37, e_74_38, e_74_41, e_74_42, e_74_43, e_74_46, e_74_47, e_74_50, e_74_51, n10, n01, Nat.lt_irrefl, Nat.not_lt_zero, ne_eq, Nat.add_zero, Nat.one_ne_zero, Nat.zero_ne_one, Nat.reduceEqDiff, bI_T, bI_F, bI_0, bI_1, bI_01, not_and_self, true_and, and_true, not_true_eq_false, not_false_eq_true, false_imp_iff, true_imp_iff, imp_self, gPv_n, gPv_i, gPv_r, gPv_0, Option.toList_some, Option.toList_none, List.singleton_append, List.cons_append, List.nil_append, List.length_nil, List.length_cons, Nat.zero_le, Nat.reduceAdd, Nat.reduceLeDiff, or_true, true_or, false_or, or_false, and_self, and_false, false_and, implies_true, Option.some.injEq, exists_eq_left', nL, nI_add, nI_mul, nI_clamp, nI_ltI, nI_leI, nI_eq, nI_pos, nI_pos', Nat.reduceAdd, Nat.reduceMul, Nat.reducePow, sk_1 hv, sr_1_0 hv, sr_1_1 hv, sr_1_2 hv, sr_1_3 hv, sr_1_4 hv, sr_1_7 hv, sr_1_9 hv, sr_1_14 hv, sr_1_15 hv, sr_1_16 hv, sk_45 hv, sr_45_0 hv, sr_45_1 hv, sr_45_2 hv, sr_45_3 hv, sr_45_4 hv, s_has (sk_1 hv), e5, e6, hn2, hh, s_bitOf, nI_bit, ea, nI_ad, hb0, c4]
          refine K0 (fun h' b' e1 e2 r => ?_)
          obtain ⟨r1, r2, r3, r4, r5⟩ := r
          rw [nI_eq (by omega) (by omega)] at e1 e2
          rw [← e1, ← e2, c4] at r3
          exact absurd r3 (by simp)
      · simp (disch := omega) only [c_74, e_74_0, e_74_1, e_74_4, e_74_5, e_74_8, e_74_11, e_74_12, e_74_15, e_74_18, e_74_19, e_74_22, e_74_25, e_74_26, e_74_27, e_74_28, e_74_29, e_74_32, e_74_35, e_74_36, e_74_37, e_74_38, e_74_50, e_74_51, n10, n01, Nat.lt_irrefl, Nat.not_lt_zero, ne_eq, Nat.add_zero, Nat.one_ne_zero, Nat.zero_ne_one, Nat.reduceEqDiff, bI_T, bI_F, bI_0, bI_1, bI_01, not_and_self, true_and, and_true, not_true_eq_false, not_false_eq_true, false_imp_iff, true_imp_iff, imp_self, gPv_n, gPv_i, gPv_r, gPv_0, Option.toList_some, Option.toList_none, List.singleton_append, List.cons_append, List.nil_append, List.length_nil, List.length_cons, Nat.zero_le, Nat.reduceAdd, Nat.reduceLeDiff, or_true, true_or, false_or, or_false, and_self, and_false, false_and, implies_true, Option.some.injEq, exists_eq_left', nL, nI_eq, sk_1 hv, sr_1_0 hv, sr_1_1 hv, sr_1_2 hv, sr_1_3 hv, sr_1_4 hv, sr_1_7 hv, sr_1_9 hv, sr_1_14 hv, sr_1_15 hv, sr_1_16 hv, sk_45 hv, sr_45_0 hv, sr_45_1 hv, sr_45_2 hv, sr_45_3 hv, sr_45_4 hv, s_has (sk_1 hv), e5, e6, hn2, nI_leI, nI_ltI, Nat.zero_le, hh, s_bitOf, nI_bit, ea, c3]
        refine K0 (fun h' b' e1 e2 r => c3 ?_)
        obtain ⟨_, _, i3, _, _⟩ := (IsR_K wh).mpr r
        rw [e2, nI_ad, i3]
  · simp (disch := omega) only [c_74, e_74_0, e_74_1, e_74_4, e_74_5, e_74_8, e_74_25, e_74_26, n10, n01, Nat.lt_irrefl, Nat.not_lt_zero, ne_eq, Nat.add_zero, Nat.one_ne_zero, Nat.zero_ne_one, Nat.reduceEqDiff, bI_T, bI_F, bI_0, bI_1, bI_01, not_and_self, true_and, and_true, not_true_eq_false, not_false_eq_true, false_imp_iff, true_imp_iff, imp_self, gPv_n, gPv_i, gPv_r, gPv_0, Option.toList_some, Option.toList_none, List.singleton_append, List.cons_append, List.nil_append, List.length_nil, List.length_cons, Nat.zero_le, Nat.reduceAdd, Nat.reduceLeDiff, or_true, true_or, false_or, or_false, and_self, and_false, false_and, implies_true, Option.some.injEq, exists_eq_left', nL, sk_1 hv, sr_1_0 hv, sr_1_1 hv, sr_1_2 hv, sr_1_3 hv, sr_1_4 hv, sr_1_7 hv, sr_1_9 hv, sr_1_14 hv, sr_1_15 hv, sr_1_16 hv, sk_45 hv, sr_45_0 hv, sr_45_1 hv, sr_45_2 hv, sr_45_3 hv, sr_45_4 hv, s_has (sk_1 hv), e5, hn2, c1]
    refine K0 (fun h' b' e1 e2 r => c1 ?_)
    obtain ⟨r1, r2, r3, r4, r5⟩ := r
    rw [e1]
    simp (disch := omega) only [nI_leI, nI_ltI]
    omega
end
