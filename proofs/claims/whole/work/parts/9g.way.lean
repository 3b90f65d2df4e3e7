/-! way -/
section
variable {A : Nat → Int32}
def nwB (A : Nat → Int32) (t h k : Nat) : Bool := eM A h k && decide (64 * wM A h k + 1 + fl (mM A) 12 k t = fl (mM A) 12 h t)
def wyN (A : Nat → Int32) (t : Nat) : Nat → Nat → Nat
  | 0, h => h
  | n + 1, h => wyN A t n ((fo (nwB A t h) (hn A) 0).getD h)
theorem nw_ex {t h a s : Nat} (wh : Wh A) (ht : sM A t = true) (hh : h < hn A) (hl : Lw (eM A) (wM A) t h a (s + 1)) : ∃ k, fo (nwB A t h) (hn A) 0 = some k ∧ k < hn A ∧ ∃ b, Lw (eM A) (wM A) t k b s := by
  obtain ⟨k0, b0, he, hl0, e0⟩ := Lw_sub hl
  have hk0 := (eM_h he).2.1
  have f1 := fl_yes wh ht hh hl
  have f2 := fl_yes wh ht hk0 hl0
  obtain ⟨c1, c2⟩ := Lw_b wh hh hl
  have n0 : nwB A t h k0 = true := by
    rw [nwB, he, Bool.true_and, decide_eq_true_eq]
    omega
  cases q : fo (nwB A t h) (hn A) 0 with
  | none =>
    have := fo_none _ _ q k0 (by omega) (by omega)
    rw [n0] at this
    exact absurd this (by simp)
  | some k =>
    obtain ⟨q1, _, q3⟩ := fo_in _ _ _ q
    have hk : k < hn A := by omega
    refine ⟨k, rfl, hk, ?_⟩
    rw [nwB, Bool.and_eq_true, decide_eq_true_eq] at q1
    obtain ⟨x, y, hw, _⟩ := fl_wk (mM_wk (A := A)) 12 k t (by omega)
    obtain ⟨b, s', hl'⟩ := Lw_ex hw
    have f3 := fl_yes wh ht hk hl'
    obtain ⟨d1, d2⟩ := Lw_b wh hk hl'
    have : s' = s := by omega
    subst this
    exact ⟨b, hl'⟩
theorem nw_m {t h k : Nat} {α β : Nat → Nat} (wh : Wh A) (ht : sM A t = true) (hO : DsO A t α β) (hh : h < hn A) (hl : Lw (eM A) (wM A) t h (α h) (β h)) (he : eM A h k = true) : nwB A t h k = true ↔ α k ≠ 1000000 ∧ wM A h k + α k = α h ∧ β k + 1 = β h := by
  have hk := (eM_h he).2.1
  have f1 := fl_yes wh ht hh hl
  obtain ⟨c1, c2⟩ := Lw_b wh hh hl
  rw [nwB, he, Bool.true_and, decide_eq_true_eq]
  rcases DsO_lw wh hO hk with ⟨q1, q2⟩ | ⟨q1, q2⟩
  · have := fl_nw q2
    omega
  · have f2 := fl_yes wh ht hk q2
    obtain ⟨d1, d2⟩ := Lw_b wh hk q2
    omega
end
section
variable {B : Nat} {own : Nat → Nat} {σ : gS} {A : Nat → Int32} {d v : Nat} {Q : Option Value → gS → Prop}
theorem s_nx {t h k : Nat} (hc : Ctx B own σ A) (hM : MsO B A σ) (hh : h < hn A) (ht : t < 12) (K : Q (some (.int (nI k))) σ) : ∀ m i x4, i + m = hn A → fo (nwB A t h) m i = some k → wp (d + 2) pr_97 Q 2 [some (.ref (B + 25)), some (.int (nI h)), some (.int (nI t)), some (.int (nI i)), x4] [] σ := by
  have hv := hc.1
  have wh : Wh A := hc.2.1.1.1
  have h12 := hn_le wh
  have hn2 := hn_eq wh
  have e5 : gI σ (B + 1) 5 = A 250 := hc.2.1.2.1.1.1
  have hh12 : h < 12 := by omega
  intro m
  induction m with
  | zero => intro i x4 hi q; exact absurd q (by simp [fo])
  | succ m ih =>
    intro i x4 hi q
    have z : ¬ hn A ≤ i := by omega
    have i12 : i < 12 := by omega
    have z1 : 12 * h + i < 144 := by omega
    have z2 : 12 * i + t < 144 := by omega
    have z3 : 12 * h + t < 144 := by omega
    have e1 := (hM h i hh12 i12).1
    have e2 := (hM i t i12 ht).2
    have e3 := (hM h t hh12 ht).2
    have l2 := fl_le (M := mM A) (k := 12) (i := i) (j := t)
    have l3 := fl_le (M := mM A) (k := 12) (i := h) (j := t)
    have l4 := mM_le (A := A) i t
    have l5 := mM_le (A := A) h t
    have l6 := mM_le (A := A) h i
    rw [fo] at q
    rw [e_97_2]
    by_cases c1 : i = h
    · have nb : nwB A t h i = false := by
        have : eM A h i = false := by
          cases c : eM A h i
          · rfl
          · exact absurd c1.symm (eM_h c).2.2.1
        rw [nwB, this, Bool.false_and]
      rw [nb] at q
      subst c1
      simp (disch := omega) only [e_97_3, e_97_4, e_97_7, e_97_10, e_97_13, e_97_14, e_97_17, e_97_18, e_97_19, e_97_22, e_97_23, e_97_25, e_97_26, e_97_27, e_97_65, e_97_68, n10, n01, Nat.lt_irrefl, Nat.not_lt_zero, ne_eq, Nat.add_zero, Nat.one_ne_zero, Nat.zero_ne_one, Nat.reduceEqDiff, bI_T, bI_F, bI_0, bI_1, bI_01, not_and_self, true_and, and_true, not_true_eq_false, not_false_eq_true, false_imp_iff, true_imp_iff, imp_self, gPv_n, gPv_i, gPv_r, gPv_0, Option.toList_some, Option.toList_none, List.singleton_append, List.cons_append, List.nil_append, List.length_nil, List.length_cons, Nat.zero_le, Nat.reduceAdd, Nat.reduceLeDiff, or_true, true_or, false_or, or_false, and_self, and_false, false_and, implies_true, Option.some.injEq, exists_eq_left', nL, nI_add, nI_mul, nI_clamp, nI_ltI, nI_leI, nI_eq, nI_pos, nI_pos', Nat.reduceAdd, Nat.reduceMul, Nat.reducePow, sk_1 hv, sr_1_0 hv, sr_1_1 hv, sr_1_2 hv, sr_1_3 hv, sr_1_4 hv, sr_1_7 hv, sr_1_9 hv, sr_1_14 hv, sr_1_15 hv, sr_1_16 hv, sk_25 hv, sr_25_0 hv, sr_25_1 hv, sr_25_2 hv, sr_25_3 hv, sr_25_4 hv, sr_25_5 hv, sk_31 hv, sn_31 hv, e5, hn2, z, s_cell hh12 i12, z1, e1]
      exact ih (i + 1) _ (by omega) q
    · by_cases c2 : eM A h i = true
      · have em := mM_E c2
        have w9 := (wM_r (A := A) (a := h) (b := i)).2.2
        have f1 : ¬ 16777216 ≤ mM A h i := by omega
        by_cases c3 : mM A h i + fl (mM A) 12 i t = fl (mM A) 12 h t
        · have nb : nwB A t h i = true := by
            rw [nwB, c2, Bool.true_and, decide_eq_true_eq]
            omega
          rw [if_pos nb] at q
          have q : i = k := by simpa using q
          subst q
          simp (disch := omega) only [e_97_3, e_97_4, e_97_7, e_97_10, e_97_13, e_97_14, e_97_17, e_97_18, e_97_19, e_97_22, e_97_23, e_97_25, e_97_26, e_97_27, e_97_30, e_97_32, e_97_34, e_97_37, e_97_39, e_97_40, e_97_43, e_97_44, e_97_45, e_97_48, e_97_49, e_97_50, e_97_51, e_97_54, e_97_55, e_97_56, e_97_59, e_97_60, e_97_63, e_97_64, n10, n01, Nat.lt_irrefl, Nat.not_lt_zero, ne_eq, Nat.add_zero, Nat.one_ne_zero, Nat.zero_ne_one, Nat.reduceEqDiff, bI_T, bI_F, bI_0, bI_1, bI_01, not_and_self, true_and, and_true, not_true_eq_false, not_false_eq_true, false_imp_iff, true_imp_iff, imp_self, gPv_n, gPv_i, gPv_r, gPv_0, Option.toList_some, Option.toList_none, List.singleton_append, List.cons_append, List.nil_append, List.length_nil, List.length_cons, Nat.zero_le, Nat.reduceAdd, Nat.reduceLeDiff, or_true, true_or, false_or, or_false, and_self, and_false, false_and, implies_true, Option.some.injEq, exists_eq_left', nL, nI_add, nI_mul, nI_clamp, nI_ltI, nI_leI, nI_eq, nI_pos, nI_pos', Nat.reduceAdd, Nat.reduceMul, Nat.reducePow, sk_1 hv, sr_1_0 hv, sr_1_1 hv, sr_1_2 hv, sr_1_3 hv, sr_1_4 hv, sr_1_7 hv, sr_1_9 hv, sr_1_14 hv, sr_1_15 hv, sr_1_16 hv, sk_25 hv, sr_25_0 hv, sr_25_1 hv, sr_25_2 hv, sr_25_3 hv, sr_25_4 hv, sr_25_5 hv, sk_31 hv, sn_31 hv, sk_32 hv, sn_32 hv, e5, hn2, z, s_cell hh12 i12, s_cell i12 ht, s_cell hh12 ht, z1, z2, z3, e1, e2, e3, c1, f1, c3]
          exact K
        · have nb : nwB A t h i = false := by
            rw [nwB, c2, Bool.true_and, decide_eq_false_iff_not]
            omega
          rw [nb] at q
          simp (disch := omega) only [e_97_3, e_97_4, e_97_7, e_97_10, e_97_13, e_97_14, e_97_17, e_97_18, e_97_19, e_97_22, e_97_23, e_97_25, e_97_26, e_97_27, e_97_30, e_97_32, e_97_34, e_97_37, e_97_39, e_97_40, e_97_43, e_97_44, e_97_45, e_97_48, e_97_49, e_97_50, e_97_51, e_97_54, e_97_55, e_97_56, e_97_59, e_97_60, e_97_63, e_97_64, e_97_65, e_97_68, n10, n01, Nat.lt_irrefl, Nat.not_lt_zero, ne_eq, Nat.add_zero, Nat.one_ne_zero, Nat.zero_ne_one, Nat.reduceEqDiff, bI_T, bI_F, bI_0, bI_1, bI_01, not_and_self, true_and, and_true, not_true_eq_false, not_false_eq_true, false_imp_iff, true_imp_iff, imp_self, gPv_n, gPv_i, gPv_r, gPv_0, Option.toList_some, Option.toList_none, List.singleton_append, List.cons_append, List.nil_append, List.length_nil, List.length_cons, Nat.zero_le, Nat.reduceAdd, Nat.reduceLeDiff, or_true, true_or, false_or, or_false, and_self, and_false, false_and, implies_true, Option.some.injEq, exists_eq_left', nL, nI_add, nI_mul, nI_clamp, nI_ltI, nI_leI, nI_eq, nI_pos, nI_pos', Nat.reduceAdd, Nat.reduceMul, Nat.reducePow, sk_1 hv, sr_1_0 hv, sr_1_1 hv, sr_1_2 hv, sr_1_3 hv, sr_1_4 hv, sr_1_7 hv, sr_1_9 hv, sr_1_14 hv, sr_1_15 hv, sr_1_16 hv, sk_25 hv, sr_25_0 hv, sr_25_1 hv, sr_25_2 hv, sr_25_3 hv, sr_25_4 hv, sr_25_5 hv, sk_31 hv, sn_31 hv, sk_32 hv, sn_32 hv, e5, hn2, z, s_cell hh12 i12, s_cell i12 ht, s_cell hh12 ht, z1, z2, z3, e1, e2, e3, c1, f1, c3]
          exact ih (i + 1) _ (by omega) q
      · have em : mM A h i = 16777216 := by
          rw [mM, if_neg (fun z => c1 z.1.symm), m0, if_neg c2]
        have nb : nwB A t h i = false := by
          rw [nwB]
          simp [c2]
        rw [nb] at q
        have f1 : 16777216 ≤ mM A h i := by omega
        simp (disch := omega) only [e_97_3, e_97_4, e_97_7, e_97_10, e_97_13, e_97_14, e_97_17, e_97_18, e_97_19, e_97_22, e_97_23, e_97_25, e_97_26, e_97_27, e_97_30, e_97_32, e_97_34, e_97_65, e_97_68, n10, n01, Nat.lt_irrefl, Nat.not_lt_zero, ne_eq, Nat.add_zero, Nat.one_ne_zero, Nat.zero_ne_one, Nat.reduceEqDiff, bI_T, bI_F, bI_0, bI_1, bI_01, not_and_self, true_and, and_true, not_true_eq_false, not_false_eq_true, false_imp_iff, true_imp_iff, imp_self, gPv_n, gPv_i, gPv_r, gPv_0, Option.toList_some, Option.toList_none, List.singleton_append, List.cons_append, List.nil_append, List.length_nil, List.length_cons, Nat.zero_le, Nat.reduceAdd, Nat.reduceLeDiff, or_true, true_or, false_or, or_false, and_self, and_false, false_and, implies_true, Option.some.injEq, exists_eq_left', nL, nI_add, nI_mul, nI_clamp, nI_ltI, nI_leI, nI_eq, nI_pos, nI_pos', Nat.reduceAdd, Nat.reduceMul, Nat.reducePow, sk_1 hv, sr_1_0 hv, sr_1_1 hv, sr_1_2 hv, sr_1_3 hv, sr_1_4 hv, sr_1_7 hv, sr_1_9 hv, sr_1_14 hv, sr_1_15 hv, sr_1_16 hv, sk_25 hv, sr_25_0 hv, sr_25_1 hv, sr_25_2 hv, sr_25_3 hv, sr_25_4 hv, sr_25_5 hv, sk_31 hv, sn_31 hv, e5, hn2, z, s_cell hh12 i12, z1, e1, c1, f1]
        exact ih (i + 1) _ (by omega) q
theorem s_next {t h k : Nat} (hc : Ctx B own σ A) (hM : MsO B A σ) (hh : h < hn A) (ht : t < 12) (q : fo (nwB A t h) (hn A) 0 = some k) (K : Q (some (.int (nI k))) σ) : wc (d + 3) 97 [.ref (B + 25), .int (nI h), .int (nI t)] σ Q := by
  simp (disch := omega) only [c_97, e_97_0, e_97_1, n10, n01, Nat.lt_irrefl, Nat.not_lt_zero, ne_eq, Nat.add_zero, Nat.one_ne_zero, Nat.zero_ne_one, Nat.reduceEqDiff, bI_T, bI_F, bI_0, bI_1, bI_01, not_and_self, true_and, and_true, not_true_eq_false, not_false_eq_true, false_imp_iff, true_imp_iff, imp_self, gPv_n, gPv_i, gPv_r, gPv_0, Option.toList_some, Option.toList_none, List.singleton_append, List.cons_append, List.nil_append, List.length_nil, List.length_cons, Nat.zero_le, Nat.reduceAdd, Nat.reduceLeDiff, or_true, true_or, false_or, or_false, and_self, and_false, false_and, implies_true, Option.some.injEq, exists_eq_left', nL]
  exact s_nx hc hM hh ht K (hn A) 0 _ (by omega) q
theorem s_wy {f t i : Nat} (hc : Ctx B own σ A) (hM : MsO B A σ) (ht : t < 12) (hs : sM A t = true) (hi : i < 12) : ∀ m n h a s, n + m = i → m ≤ s → h < hn A → Lw (eM A) (wM A) t h a s → Q (some (.int (nI (wyN A t m h)))) σ → wp (d + 3) pr_96 Q 22 [some (.ref (B + 25)), some (.int (nI f)), some (.int (nI t)), some (.int (nI i)), some (.int (nI h)), some (.int (nI n))] [] σ := by
  have hv := hc.1
  have wh : Wh A := hc.2.1.1.1
  intro m
  induction m with
  | zero =>
    intro n h a s hni hm hh hl K
    have z : i ≤ n := by omega
    simp (disch := omega) only [e_96_22, e_96_24, e_96_25, e_96_50, e_96_52, n10, n01, Nat.lt_irrefl, Nat.not_lt_zero, ne_eq, Nat.add_zero, Nat.one_ne_zero, Nat.zero_ne_one, Nat.reduceEqDiff, bI_T, bI_F, bI_0, bI_1, bI_01, not_and_self, true_and, and_true, not_true_eq_false, not_false_eq_true, false_imp_iff, true_imp_iff, imp_self, gPv_n, gPv_i, gPv_r, gPv_0, Option.toList_some, Option.toList_none, List.singleton_append, List.cons_append, List.nil_append, List.length_nil, List.length_cons, Nat.zero_le, Nat.reduceAdd, Nat.reduceLeDiff, or_true, true_or, false_or, or_false, and_self, and_false, false_and, implies_true, Option.some.injEq, exists_eq_left', nL, nI_add, nI_mul, nI_clamp, nI_ltI, nI_leI, nI_eq, nI_pos, nI_pos', Nat.reduceAdd, Nat.reduceMul, Nat.reducePow, z]
    exact K
  | succ m ih =>
    intro n h a s hni hm hh hl K
    obtain ⟨s', rfl⟩ : ∃ s', s = s' + 1 := ⟨s - 1, by omega⟩
    obtain ⟨k, q, hk, b, hl'⟩ := nw_ex wh hs hh hl
    have z : ¬ i ≤ n := by omega
    have z2 : ¬ 12 ≤ n := by omega
    rw [wyN, q, Option.getD_some] at K
    rw [e_96_22]
    simp (disch := omega) only [e_96_24, e_96_25, e_96_28, e_96_30, e_96_32, e_96_35, e_96_36, e_96_38, e_96_39, n10, n01, Nat.lt_irrefl, Nat.not_lt_zero, ne_eq, Nat.add_zero, Nat.one_ne_zero, Nat.zero_ne_one, Nat.reduceEqDiff, bI_T, bI_F, bI_0, bI_1, bI_01, not_and_self, true_and, and_true, not_true_eq_false, not_false_eq_true, false_imp_iff, true_imp_iff, imp_self, gPv_n, gPv_i, gPv_r, gPv_0, Option.toList_some, Option.toList_none, List.singleton_append, List.cons_append, List.nil_append, List.length_nil, List.length_cons, Nat.zero_le, Nat.reduceAdd, Nat.reduceLeDiff, or_true, true_or, false_or, or_false, and_self, and_false, false_and, implies_true, Option.some.injEq, exists_eq_left', nL, nI_add, nI_mul, nI_clamp, nI_ltI, nI_leI, nI_eq, nI_pos, nI_pos', Nat.reduceAdd, Nat.reduceMul, Nat.reducePow, sk_25 hv, sr_25_0 hv, sr_25_1 hv, sr_25_2 hv, sr_25_3 hv, sr_25_4 hv, sr_25_5 hv, z, z2]
    refine s_next hc hM hh ht q ?_
    simp (disch := omega) only [e_96_42, e_96_44, e_96_47, n10, n01, Nat.lt_irrefl, Nat.not_lt_zero, ne_eq, Nat.add_zero, Nat.one_ne_zero, Nat.zero_ne_one, Nat.reduceEqDiff, bI_T, bI_F, bI_0, bI_1, bI_01, not_and_self, true_and, and_true, not_true_eq_false, not_false_eq_true, false_imp_iff, true_imp_iff, imp_self, gPv_n, gPv_i, gPv_r, gPv_0, Option.toList_some, Option.toList_none, List.singleton_append, List.cons_append, List.nil_append, List.length_nil, List.length_cons, Nat.zero_le, Nat.reduceAdd, Nat.reduceLeDiff, or_true, true_or, false_or, or_false, and_self, and_false, false_and, implies_true, Option.some.injEq, exists_eq_left', nL, nI_add]
    exact ih (n + 1) k b s' (by omega) (by omega) hk hl' K
theorem s_sow {f t i a s : Nat} (hc : Ctx B own σ A) (hM : MsO B A σ) (hf : f < hn A) (ht : t < 12) (hs : sM A t = true) (hl : Lw (eM A) (wM A) t f a s) (hi : i ≤ s) (K : Q (some (.int (nI (wyN A t i f)))) σ) : wc (d + 4) 96 [.ref (B + 25), .int (nI f), .int (nI t), .int (nI i)] σ Q := by
  have hv := hc.1
  have wh : Wh A := hc.2.1.1.1
  have h12 := hn_le wh
  obtain ⟨c1, c2⟩ := Lw_b wh hf hl
  have f1 := fl_yes wh hs hf hl
  have sv : sV A f t = nI s := by
    have e : (64 * a + s) % 64 = s := by omega
    rw [sV, f1, if_pos (show 64 * a + s < 16777216 by omega), e]
  simp (disch := omega) only [c_96, e_96_0, e_96_1, e_96_2, e_96_3, e_96_4, e_96_5, e_96_8, e_96_11, e_96_14, e_96_15, e_96_16, e_96_17, e_96_19, e_96_20, n10, n01, Nat.lt_irrefl, Nat.not_lt_zero, ne_eq, Nat.add_zero, Nat.one_ne_zero, Nat.zero_ne_one, Nat.reduceEqDiff, bI_T, bI_F, bI_0, bI_1, bI_01, not_and_self, true_and, and_true, not_true_eq_false, not_false_eq_true, false_imp_iff, true_imp_iff, imp_self, gPv_n, gPv_i, gPv_r, gPv_0, Option.toList_some, Option.toList_none, List.singleton_append, List.cons_append, List.nil_append, List.length_nil, List.length_cons, Nat.zero_le, Nat.reduceAdd, Nat.reduceLeDiff, or_true, true_or, false_or, or_false, and_self, and_false, false_and, implies_true, Option.some.injEq, exists_eq_left', nL, nI_add, nI_mul, nI_clamp, nI_ltI, nI_leI, nI_eq, nI_pos, nI_pos', Nat.reduceAdd, Nat.reduceMul, Nat.reducePow, sk_25 hv, sr_25_0 hv, sr_25_1 hv, sr_25_2 hv, sr_25_3 hv, sr_25_4 hv, sr_25_5 hv, s_shV hv hM (show f < 12 by omega) ht, sv, s_within, hi]
  exact s_wy hc hM ht hs (by omega) i 0 f a s (by omega) hi hf hl K
theorem t_nx {f t h k i n : Nat} {x4 : Int32} {α β : Nat → Nat} (X : MX B σ A) (hM : M67 B A σ) (hD : DsI B A t α β σ) (hO : DsO A t α β) (hs : sM A t = true) (hh : h < hn A) (hl : Lw (eM A) (wM A) t h (α h) (β h)) (K : wp (d + 1) pr_244 Q 125 [some (.ref (B + 54)), some (.int (nI f)), some (.int (nI t)), some (.int (nI i)), some (.int x4), some (.int (nI h)), some (.int (nI n)), some (.int (nI k))] [] σ) : ∀ m j, j + m = hn A → fo (nwB A t h) m j = some k → wp (d + 1) pr_244 Q 42 [some (.ref (B + 54)), some (.int (nI f)), some (.int (nI t)), some (.int (nI i)), some (.int x4), some (.int (nI h)), some (.int (nI n)), some (.int (nI j))] [] σ := by
  obtain ⟨hv, hA, wh, wd, wl⟩ := id X
  have h12 := hn_le wh
  have hh12 : h < 12 := by omega
  obtain ⟨p1, p2, p3⟩ := hD.2
  obtain ⟨a1, a2, a3, a4⟩ := p3 h hh
  obtain ⟨r1, r2⟩ := hD.1 h hh
  have e66 := hM.1 h hh
  have ol : opn A (A 249) h < 4096 := opn_lt wh
  intro m
  induction m with
  | zero => intro j hj q; exact absurd q (by simp [fo])
  | succ m ih =>
    intro j hj q
    have hjn : j < hn A := by omega
    have j12 : j < 12 := by omega
    obtain ⟨s1, s2⟩ := hD.1 j hjn
    obtain ⟨b1, b2, b3, b4⟩ := p3 j hjn
    rw [fo] at q
    rw [e_244_42]
    cases ce : eM A h j
    · have c' : (opn A (A 249) h).testBit j = false := ce
      have nb : nwB A t h j = false := by rw [nwB, ce, Bool.false_and]
      rw [nb] at q
      simp (disch := omega) only [e_244_43, e_244_46, e_244_48, e_244_49, e_244_51, e_244_54, e_244_119, e_244_122, n10, n01, Nat.lt_irrefl, Nat.not_lt_zero, ne_eq, Nat.add_zero, Nat.one_ne_zero, Nat.zero_ne_one, Nat.reduceEqDiff, bI_T, bI_F, bI_0, bI_1, bI_01, not_and_self, true_and, and_true, not_true_eq_false, not_false_eq_true, false_imp_iff, true_imp_iff, imp_self, gPv_n, gPv_i, gPv_r, gPv_0, Option.toList_some, Option.toList_none, List.singleton_append, List.cons_append, List.nil_append, List.length_nil, List.length_cons, Nat.zero_le, Nat.reduceAdd, Nat.reduceLeDiff, or_true, true_or, false_or, or_false, and_self, and_false, false_and, implies_true, Option.some.injEq, exists_eq_left', nL, nI_add, nI_mul, nI_clamp, nI_ltI, nI_leI, nI_eq, nI_pos, nI_pos', Nat.reduceAdd, Nat.reduceMul, Nat.reducePow, sk_54 hv, sr_54_2 hv, sr_54_3 hv, sr_54_4 hv, sr_54_5 hv, sr_54_7 hv, sr_54_8 hv, sr_54_9 hv, sr_54_12 hv, sr_54_13 hv, sr_54_14 hv, sr_54_22 hv, sr_54_25 hv, sr_54_26 hv, sr_54_27 hv, sr_54_34 hv, sr_54_35 hv, sr_54_36 hv, sr_54_37 hv, sr_54_38 hv, sr_54_40 hv, sr_54_43 hv, sr_54_44 hv, sr_54_45 hv, sr_54_46 hv, sr_54_47 hv, sk_66 hv, sn_66 hv, t_isIn, e66, c', hh12, Bool.false_eq_true]
      exact ih (j + 1) (by omega) q
    · have c' : (opn A (A 249) h).testBit j = true := ce
      have nm := nw_m wh hs hO hh hl ce
      have hne := (eM_h ce).2.2.1
      have e67 := hM.2 h j hh hjn hne
      have w9 := (wM_r (A := A) (a := h) (b := j)).2.2
      have z144 : 12 * h + j < 144 := by omega
      by_cases c1 : α j = 1000000
      · have nb : ¬ nwB A t h j = true := fun z => (nm.mp z).1 c1
        rw [if_neg nb] at q
        simp (disch := omega) only [e_244_43, e_244_46, e_244_48, e_244_49, e_244_51, e_244_54, e_244_57, e_244_58, e_244_61, e_244_63, e_244_64, e_244_66, e_244_119, e_244_122, n10, n01, Nat.lt_irrefl, Nat.not_lt_zero, ne_eq, Nat.add_zero, Nat.one_ne_zero, Nat.zero_ne_one, Nat.reduceEqDiff, bI_T, bI_F, bI_0, bI_1, bI_01, not_and_self, true_and, and_true, not_true_eq_false, not_false_eq_true, false_imp_iff, true_imp_iff, imp_self, gPv_n, gPv_i, gPv_r, gPv_0, Option.toList_some, Option.toList_none, List.singleton_append, List.cons_append, List.nil_append, List.length_nil, List.length_cons, Nat.zero_le, Nat.reduceAdd, Nat.reduceLeDiff, or_true, true_or, false_or, or_false, and_self, and_false, false_and, implies_true, Option.some.injEq, exists_eq_left', nL, nI_add, nI_mul, nI_clamp, nI_ltI, nI_leI, nI_eq, nI_pos, nI_pos', Nat.reduceAdd, Nat.reduceMul, Nat.reducePow, sk_54 hv, sr_54_2 hv, sr_54_3 hv, sr_54_4 hv, sr_54_5 hv, sr_54_7 hv, sr_54_8 hv, sr_54_9 hv, sr_54_12 hv, sr_54_13 hv, sr_54_14 hv, sr_54_22 hv, sr_54_25 hv, sr_54_26 hv, sr_54_27 hv, sr_54_34 hv, sr_54_35 hv, sr_54_36 hv, sr_54_37 hv, sr_54_38 hv, sr_54_40 hv, sr_54_43 hv, sr_54_44 hv, sr_54_45 hv, sr_54_46 hv, sr_54_47 hv, sk_66 hv, sn_66 hv, sk_71 hv, sn_71 hv, t_isIn, e66, c', hh12, j12, s1, c1]
        exact ih (j + 1) (by omega) q
      · by_cases c2 : wM A h j + α j = α h
        · by_cases c3 : β j + 1 = β h
          · have nb : nwB A t h j = true := nm.mpr ⟨c1, c2, c3⟩
            rw [if_pos nb] at q
            have q : j = k := by simpa using q
            subst q
            simp (disch := omega) only [e_244_43, e_244_46, e_244_48, e_244_49, e_244_51, e_244_54, e_244_57, e_244_58, e_244_61, e_244_63, e_244_64, e_244_66, e_244_69, e_244_70, e_244_73, e_244_75, e_244_77, e_244_78, e_244_80, e_244_81, e_244_82, e_244_83, e_244_86, e_244_88, e_244_89, e_244_90, e_244_91, e_244_94, e_244_96, e_244_97, e_244_100, e_244_101, e_244_104, e_244_106, e_244_107, e_244_108, e_244_109, e_244_110, e_244_113, e_244_115, e_244_116, n10, n01, Nat.lt_irrefl, Nat.not_lt_zero, ne_eq, Nat.add_zero, Nat.one_ne_zero, Nat.zero_ne_one, Nat.reduceEqDiff, bI_T, bI_F, bI_0, bI_1, bI_01, not_and_self, true_and, and_true, not_true_eq_false, not_false_eq_true, false_imp_iff, true_imp_iff, imp_self, gPv_n, gPv_i, gPv_r, gPv_0, Option.toList_some, Option.toList_none, List.singleton_append, List.cons_append, List.nil_append, List.length_nil, List.length_cons, Nat.zero_le, Nat.reduceAdd, Nat.reduceLeDiff, or_true, true_or, false_or, or_false, and_self, and_false, false_and, implies_true, Option.some.injEq, exists_eq_left', nL, nI_add, nI_mul, nI_clamp, nI_ltI, nI_leI, nI_eq, nI_pos, nI_pos', Nat.reduceAdd, Nat.reduceMul, Nat.reducePow, sk_54 hv, sr_54_2 hv, sr_54_3 hv, sr_54_4 hv, sr_54_5 hv, sr_54_7 hv, sr_54_8 hv, sr_54_9 hv, sr_54_12 hv, sr_54_13 hv, sr_54_14 hv, sr_54_22 hv, sr_54_25 hv, sr_54_26 hv, sr_54_27 hv, sr_54_34 hv, sr_54_35 hv, sr_54_36 hv, sr_54_37 hv, sr_54_38 hv, sr_54_40 hv, sr_54_43 hv, sr_54_44 hv, sr_54_45 hv, sr_54_46 hv, sr_54_47 hv, sk_66 hv, sn_66 hv, sk_67 hv, sn_67 hv, sk_71 hv, sn_71 hv, sk_72 hv, sn_72 hv, t_isIn, e66, e67, c', hh12, j12, z144, s1, s2, r1, r2, c1, c2, c3]
            exact K
          · have nb : ¬ nwB A t h j = true := fun z => c3 (nm.mp z).2.2
            rw [if_neg nb] at q
            simp (disch := omega) only [e_244_43, e_244_46, e_244_48, e_244_49, e_244_51, e_244_54, e_244_57, e_244_58, e_244_61, e_244_63, e_244_64, e_244_66, e_244_69, e_244_70, e_244_73, e_244_75, e_244_77, e_244_78, e_244_80, e_244_81, e_244_82, e_244_83, e_244_86, e_244_88, e_244_89, e_244_90, e_244_91, e_244_94, e_244_96, e_244_97, e_244_100, e_244_101, e_244_104, e_244_106, e_244_107, e_244_108, e_244_109, e_244_110, e_244_113, e_244_115, e_244_116, e_244_119, e_244_122, n10, n01, Nat.lt_irrefl, Nat.not_lt_zero, ne_eq, Nat.add_zero, Nat.one_ne_zero, Nat.zero_ne_one, Nat.reduceEqDiff, bI_T, bI_F, bI_0, bI_1, bI_01, not_and_self, true_and, and_true, not_true_eq_false, not_false_eq_true, false_imp_iff, true_imp_iff, imp_self, gPv_n, gPv_i, gPv_r, gPv_0, Option.toList_some, Option.toList_none, List.singleton_append, List.cons_append, List.nil_append, List.length_nil, List.length_cons, Nat.zero_le, Nat.reduceAdd, Nat.reduceLeDiff, or_true, true_or, false_or, or_false, and_self, and_false, false_and, implies_true, Option.some.injEq, exists_eq_left', nL, nI_add, nI_mul, nI_clamp, nI_ltI, nI_leI, nI_eq, nI_pos, nI_pos', Nat.reduceAdd, Nat.reduceMul, Nat.reducePow, sk_54 hv, sr_54_2 hv, sr_54_3 hv, sr_54_4 hv, sr_54_5 hv, sr_54_7 hv, sr_54_8 hv, sr_54_9 hv, sr_54_12 hv, sr_54_13 hv, sr_54_14 hv, sr_54_22 hv, sr_54_25 hv, sr_54_26 hv, sr_54_27 hv, sr_54_34 hv, sr_54_35 hv, sr_54_36 hv, sr_54_37 hv, sr_54_38 hv, sr_54_40 hv, sr_54_43 hv, sr_54_44 hv, sr_54_45 hv, sr_54_46 hv, sr_54_47 hv, sk_66 hv, sn_66 hv, sk_67 hv, sn_67 hv, sk_71 hv, sn_71 hv, sk_72 hv, sn_72 hv, t_isIn, e66, e67, c', hh12, j12, z144, s1, s2, r1, r2, c1, c2, c3]
            exact ih (j + 1) (by omega) q
        · have nb : ¬ nwB A t h j = true := fun z => c2 (nm.mp z).2.1
          rw [if_neg nb] at q
          simp (disch := omega) only [e_244_43, e_244_46, e_244_48, e_244_49, e_244_51, e_244_54, e_244_57, e_244_58, e_244_61, e_244_63, e_244_64, e_244_66, e_244_69, e_244_70, e_244_73, e_244_75, e_244_77, e_244_78, e_244_80, e_244_81, e_244_82, e_244_83, e_244_86, e_244_88, e_244_89, e_244_90, e_244_91, e_244_94, e_244_96, e_244_97, e_244_119, e_244_122, n10, n01, Nat.lt_irrefl, Nat.not_lt_zero, ne_eq, Nat.add_zero, Nat.one_ne_zero, Nat.zero_ne_one, Nat.reduceEqDiff, bI_T, bI_F, bI_0, bI_1, bI_01, not_and_self, true_and, and_true, not_true_eq_false, not_false_eq_true, false_imp_iff, true_imp_iff, imp_self, gPv_n, gPv_i, gPv_r, gPv_0, Option.toList_some, Option.toList_none, List.singleton_append, List.cons_append, List.nil_append, List.length_nil, List.length_cons, Nat.zero_le, Nat.reduceAdd, Nat.reduceLeDiff, or_true, true_or, false_or, or_false, and_self, and_false, false_and, implies_true, Option.some.injEq, exists_eq_left', nL, nI_add, nI_mul, nI_clamp, nI_ltI, nI_leI, nI_eq, nI_pos, nI_pos', Nat.reduceAdd, Nat.reduceMul, Nat.reducePow, sk_54 hv, sr_54_2 hv, sr_54_3 hv, sr_54_4 hv, sr_54_5 hv, sr_54_7 hv, sr_54_8 hv, sr_54_9 hv, sr_54_12 hv, sr_54_13 hv, sr_54_14 hv, sr_54_22 hv, sr_54_25 hv, sr_54_26 hv, sr_54_27 hv, sr_54_34 hv, sr_54_35 hv, sr_54_36 hv, sr_54_37 hv, sr_54_38 hv, sr_54_40 hv, sr_54_43 hv, sr_54_44 hv, sr_54_45 hv, sr_54_46 hv, sr_54_47 hv, sk_66 hv, sn_66 hv, sk_67 hv, sn_67 hv, sk_71 hv, sn_71 hv, t_isIn, e66, e67, c', hh12, j12, z144, s1, r1, c1, c2]
          exact ih (j + 1) (by omega) q
theorem t_wy {f t i : Nat} {x4 : Int32} {α β : Nat → Nat} (X : MX B σ A) (hM : M67 B A σ) (hD : DsI B A t α β σ) (hO : DsO A t α β) (hs : sM A t = true) (hi : i < 12) : ∀ m n h x7, n + m = i → m ≤ β h → h < hn A → α h < 1000000 → Q (some (.int (nI (wyN A t m h)))) σ → wp (d + 1) pr_244 Q 33 [some (.ref (B + 54)), some (.int (nI f)), some (.int (nI t)), some (.int (nI i)), some (.int x4), some (.int (nI h)), some (.int (nI n)), x7] [] σ := by
  have wh := X.2.2.1
  intro m
  induction m with
  | zero =>
    intro n h x7 hni hm hh ha K
    have z : i ≤ n := by omega
    simp (disch := omega) only [e_244_33, e_244_35, e_244_36, e_244_135, e_244_137, n10, n01, Nat.lt_irrefl, Nat.not_lt_zero, ne_eq, Nat.add_zero, Nat.one_ne_zero, Nat.zero_ne_one, Nat.reduceEqDiff, bI_T, bI_F, bI_0, bI_1, bI_01, not_and_self, true_and, and_true, not_true_eq_false, not_false_eq_true, false_imp_iff, true_imp_iff, imp_self, gPv_n, gPv_i, gPv_r, gPv_0, Option.toList_some, Option.toList_none, List.singleton_append, List.cons_append, List.nil_append, List.length_nil, List.length_cons, Nat.zero_le, Nat.reduceAdd, Nat.reduceLeDiff, or_true, true_or, false_or, or_false, and_self, and_false, false_and, implies_true, Option.some.injEq, exists_eq_left', nL, nI_add, nI_mul, nI_clamp, nI_ltI, nI_leI, nI_eq, nI_pos, nI_pos', Nat.reduceAdd, Nat.reduceMul, Nat.reducePow, z]
    exact K
  | succ m ih =>
    intro n h x7 hni hm hh ha K
    rcases DsO_lw wh hO hh with ⟨q1, _⟩ | ⟨_, hl⟩
    · omega
    · have hl2 := hl
      obtain ⟨s', hs'⟩ : ∃ s', β h = s' + 1 := ⟨β h - 1, by omega⟩
      rw [hs'] at hl2
      obtain ⟨k, q, hk, b, hl'⟩ := nw_ex wh hs hh hl2
      have z : ¬ i ≤ n := by omega
      rw [wyN, q, Option.getD_some] at K
      rw [e_244_33]
      simp (disch := omega) only [e_244_35, e_244_36, e_244_39, e_244_40, n10, n01, Nat.lt_irrefl, Nat.not_lt_zero, ne_eq, Nat.add_zero, Nat.one_ne_zero, Nat.zero_ne_one, Nat.reduceEqDiff, bI_T, bI_F, bI_0, bI_1, bI_01, not_and_self, true_and, and_true, not_true_eq_false, not_false_eq_true, false_imp_iff, true_imp_iff, imp_self, gPv_n, gPv_i, gPv_r, gPv_0, Option.toList_some, Option.toList_none, List.singleton_append, List.cons_append, List.nil_append, List.length_nil, List.length_cons, Nat.zero_le, Nat.reduceAdd, Nat.reduceLeDiff, or_true, true_or, false_or, or_false, and_self, and_false, false_and, implies_true, Option.some.injEq, exists_eq_left', nL, nI_add, nI_mul, nI_clamp, nI_ltI, nI_leI, nI_eq, nI_pos, nI_pos', Nat.reduceAdd, Nat.reduceMul, Nat.reducePow, z]
      refine t_nx X hM hD hO hs hh hl ?_ (hn A) 0 (by omega) q
      simp (disch := omega) only [e_244_125, e_244_127, e_244_129, e_244_132, n10, n01, Nat.lt_irrefl, Nat.not_lt_zero, ne_eq, Nat.add_zero, Nat.one_ne_zero, Nat.zero_ne_one, Nat.reduceEqDiff, bI_T, bI_F, bI_0, bI_1, bI_01, not_and_self, true_and, and_true, not_true_eq_false, not_false_eq_true, false_imp_iff, true_imp_iff, imp_self, gPv_n, gPv_i, gPv_r, gPv_0, Option.toList_some, Option.toList_none, List.singleton_append, List.cons_append, List.nil_append, List.length_nil, List.length_cons, Nat.zero_le, Nat.reduceAdd, Nat.reduceLeDiff, or_true, true_or, false_or, or_false, and_self, and_false, false_and, implies_true, Option.some.injEq, exists_eq_left', nL, nI_add]
      rcases DsO_lw wh hO hk with ⟨_, g⟩ | ⟨g1, g2⟩
      · exact absurd hl'.1 (g _ _)
      · have := (Lw_u g2 hl').2
        exact ih (n + 1) k _ (by omega) (by omega) hk g1 K
end
section
variable {CV : Nat → (Nat → Int32) → (Nat → Nat → Int32) → Prop} {G : gG}
set_option maxHeartbeats 2000000 in
theorem ob_way (hcv : CVl CV) (h2 : ∀ A W, CV 2 A W ↔ ∀ a b, a < 12 → b < 12 → W 6 (12 * a + b) = nI (mM A a b) ∧ W 7 (12 * a + b) = nI (fl (mM A) 12 a b)) : gOb (Inv LSx CV MVx G) (gb G) (gB G) (gB G + 54) 133 244 3 := by
  intro σ k as hl hk hI
  obtain ⟨p0, p1, p2, rfl⟩ := len3 hl
  have hv := Inv_Sh hI
  have hb := Inv_b hI
  obtain ⟨own, cc, v, hc, ha, hX, hm⟩ := Inv_ctx hI hk
  obtain ⟨z30, z32⟩ := Inv_30 hI
  have w1 := hX.2.2.1
  have h12 := hn_le w1
  have hn2 := hn_eq w1
  have e5 := hc.2.1.2.1.1.1
  by_cases h0 : nI 0 ≤ p0 ∧ p0 < nI (hn (gI σ (gB G + 56)))
  · by_cases h1 : nI 0 ≤ p1 ∧ p1 < nI (hn (gI σ (gB G + 56)))
    · obtain ⟨a, ha1, rfl⟩ := in_lt (by omega) h0
      obtain ⟨b, hb1, rfl⟩ := in_lt (by omega) h1
      have a12 : a < 12 := by omega
      have b12 : b < 12 := by omega
      simp (disch := first | omega | (simp only [IvS_I, IvS_J, IvS_r]; assumption)) only [List.map_cons, List.map_nil, Value.int.injEq, gSc_r, gSc_I, n10, n01, Nat.lt_irrefl, Nat.not_lt_zero, ne_eq, Nat.add_zero, Nat.one_ne_zero, Nat.zero_ne_one, Nat.reduceEqDiff, bI_T, bI_F, bI_0, bI_1, bI_01, not_and_self, true_and, and_true, not_true_eq_false, not_false_eq_true, false_imp_iff, true_imp_iff, imp_self, gPv_n, gPv_i, gPv_r, gPv_0, Option.toList_some, Option.toList_none, List.singleton_append, List.cons_append, List.nil_append, List.length_nil, List.length_cons, Nat.zero_le, Nat.reduceAdd, Nat.reduceLeDiff, or_true, true_or, false_or, or_false, and_self, and_false, false_and, implies_true, Option.some.injEq, exists_eq_left', nL, nI_add, nI_mul, nI_clamp, nI_ltI, nI_leI, nI_eq, nI_pos, nI_pos', Nat.reduceAdd, Nat.reduceMul, Nat.reducePow, c_133, e_133_0, e_133_1, e_133_4, e_133_5, e_133_8, e_133_11, e_133_12, e_133_15, e_133_16, e_133_19, e_133_22, e_133_23, e_133_24, e_133_25, e_133_28, e_133_29, e_133_32, sk_0 hv, sr_0_0 hv, sr_0_1 hv, sr_0_2 hv, sr_0_4 hv, sr_0_7 hv, sr_0_9 hv, sr_0_10 hv, sr_0_11 hv, sr_0_12 hv, sr_0_13 hv, sr_0_14 hv, sk_1 hv, sr_1_0 hv, sr_1_1 hv, sr_1_2 hv, sr_1_3 hv, sr_1_4 hv, sr_1_7 hv, sr_1_9 hv, sr_1_14 hv, sr_1_15 hv, sr_1_16 hv, sk_25 hv, sr_25_0 hv, sr_25_1 hv, sr_25_2 hv, sr_25_3 hv, sr_25_4 hv, sr_25_5 hv, s_has (sk_1 hv), e5, hn2, ha1, hb1]
      refine s_openRows (d := 992) hcv hc ha ?_
      intro τ hS hcT haT hr
      have hvT := hcT.1
      simp (disch := omega) only [e_133_35, n10, n01, Nat.lt_irrefl, Nat.not_lt_zero, ne_eq, Nat.add_zero, Nat.one_ne_zero, Nat.zero_ne_one, Nat.reduceEqDiff, bI_T, bI_F, bI_0, bI_1, bI_01, not_and_self, true_and, and_true, not_true_eq_false, not_false_eq_true, false_imp_iff, true_imp_iff, imp_self, gPv_n, gPv_i, gPv_r, gPv_0, Option.toList_some, Option.toList_none, List.singleton_append, List.cons_append, List.nil_append, List.length_nil, List.length_cons, Nat.zero_le, Nat.reduceAdd, Nat.reduceLeDiff, or_true, true_or, false_or, or_false, and_self, and_false, false_and, implies_true, Option.some.injEq, exists_eq_left', nL, nI_add, nI_mul, nI_clamp, nI_ltI, nI_leI, nI_eq, nI_pos, nI_pos', Nat.reduceAdd, Nat.reduceMul, Nat.reducePow, sk_25 hvT, sr_25_0 hvT, sr_25_1 hvT, sr_25_2 hvT, sr_25_3 hvT, sr_25_4 hvT, sr_25_5 hvT]
      refine s_measure (d := 994) hcv h2 hcT haT hr ?_
      intro τ2 hS2 hcT2 haT2 hM2
      have hv2 := hcT2.1
      have hS02 : Sm (fun a => gB G + 25 ≤ a ∧ a < gB G + 50) σ τ2 := Sm_trans (Sm_mono hS (fun a ha => by omega)) (Sm_mono hS2 (fun a ha => by omega))
      have XT := MX_S hX hS02 (by omega)
      have hmT := Mc_S hm hS02 (fun a ha => by omega)
      have q30 : gI τ2 (gB G + 54) 30 = -nI 1 := by rw [hS02.2.2.2.2.2.2.1 _ (by omega)]; exact z30
      have q32 : gI τ2 (gB G + 54) 32 = -nI 1 := by rw [hS02.2.2.2.2.2.2.1 _ (by omega)]; exact z32
      have fin : ∀ τ3, QM (gB G) (gI σ (gB G + 56)) v τ2 τ3 → Inv LSx CV MVx G τ3 (k + 1) := fun τ3 hq => Inv_QM hk hI hm hS02 haT2 hq
      have ib : ∀ x : Int32, (gSc (gb G) σ τ2 ∧ gK τ2 (gB G + 54) = 13) := fun _ => ⟨gSc_S hS02 (by omega), sk_54 hv2⟩
      by_cases c : fl (mM (gI σ (gB G + 56))) 12 a b < 16777216
      · obtain ⟨x, y, hw, _⟩ := fl_wk mM_wk 12 a b c
        obtain ⟨a0, s0, hlw⟩ := Lw_ex hw
        have hsb : sM (gI σ (gB G + 56)) b = true := by
          cases q : sM (gI σ (gB G + 56)) b
          · have := fl_ns (h := a) (Or.inr q)
            omega
          · rfl
        obtain ⟨c1, c2⟩ := Lw_b w1 ha1 hlw
        have f1 := fl_yes w1 hsb ha1 hlw
        have sv : sV (gI σ (gB G + 56)) a b = nI s0 := by
          have e : (64 * a0 + s0) % 64 = s0 := by omega
          rw [sV, f1, if_pos (show 64 * a0 + s0 < 16777216 by omega), e]
        by_cases hi : nI 0 ≤ p2 ∧ p2 ≤ nI s0
        · obtain ⟨i, hi1, rfl⟩ := in_nI (by omega) hi
          simp (disch := omega) only [e_133_38, e_133_39, e_133_42, e_133_43, e_133_44, e_133_45, n10, n01, Nat.lt_irrefl, Nat.not_lt_zero, ne_eq, Nat.add_zero, Nat.one_ne_zero, Nat.zero_ne_one, Nat.reduceEqDiff, bI_T, bI_F, bI_0, bI_1, bI_01, not_and_self, true_and, and_true, not_true_eq_false, not_false_eq_true, false_imp_iff, true_imp_iff, imp_self, gPv_n, gPv_i, gPv_r, gPv_0, Option.toList_some, Option.toList_none, List.singleton_append, List.cons_append, List.nil_append, List.length_nil, List.length_cons, Nat.zero_le, Nat.reduceAdd, Nat.reduceLeDiff, or_true, true_or, false_or, or_false, and_self, and_false, false_and, implies_true, Option.some.injEq, exists_eq_left', nL, nI_add, nI_mul, nI_clamp, nI_ltI, nI_leI, nI_eq, nI_pos, nI_pos', Nat.reduceAdd, Nat.reduceMul, Nat.reducePow, sk_0 hv2, sr_0_0 hv2, sr_0_1 hv2, sr_0_2 hv2, sr_0_4 hv2, sr_0_7 hv2, sr_0_9 hv2, sr_0_10 hv2, sr_0_11 hv2, sr_0_12 hv2, sr_0_13 hv2, sr_0_14 hv2, sk_25 hv2, sr_25_0 hv2, sr_25_1 hv2, sr_25_2 hv2, sr_25_3 hv2, sr_25_4 hv2, sr_25_5 hv2]
          refine s_sow (d := 995) hcT2 hM2 ha1 b12 hsb hlw hi1 ?_
          simp (disch := omega) only [e_133_48, n10, n01, Nat.lt_irrefl, Nat.not_lt_zero, ne_eq, Nat.add_zero, Nat.one_ne_zero, Nat.zero_ne_one, Nat.reduceEqDiff, bI_T, bI_F, bI_0, bI_1, bI_01, not_and_self, true_and, and_true, not_true_eq_false, not_false_eq_true, false_imp_iff, true_imp_iff, imp_self, gPv_n, gPv_i, gPv_r, gPv_0, Option.toList_some, Option.toList_none, List.singleton_append, List.cons_append, List.nil_append, List.length_nil, List.length_cons, Nat.zero_le, Nat.reduceAdd, Nat.reduceLeDiff, or_true, true_or, false_or, or_false, and_self, and_false, false_and, implies_true, Option.some.injEq, exists_eq_left']
          refine ⟨ib 0, _, rfl, ?_⟩
          simp (disch := omega) only [List.map_cons, List.map_nil, Value.int.injEq, gSc_r, gSc_I, c_244, e_244_0, e_244_1, e_244_2, e_244_3, e_244_4, n10, n01, Nat.lt_irrefl, Nat.not_lt_zero, ne_eq, Nat.add_zero, Nat.one_ne_zero, Nat.zero_ne_one, Nat.reduceEqDiff, bI_T, bI_F, bI_0, bI_1, bI_01, not_and_self, true_and, and_true, not_true_eq_false, not_false_eq_true, false_imp_iff, true_imp_iff, imp_self, gPv_n, gPv_i, gPv_r, gPv_0, Option.toList_some, Option.toList_none, List.singleton_append, List.cons_append, List.nil_append, List.length_nil, List.length_cons, Nat.zero_le, Nat.reduceAdd, Nat.reduceLeDiff, or_true, true_or, false_or, or_false, and_self, and_false, false_and, implies_true, Option.some.injEq, exists_eq_left', nL, nI_add, nI_mul, nI_clamp, nI_ltI, nI_leI, nI_eq, nI_pos, nI_pos', Nat.reduceAdd, Nat.reduceMul, Nat.reducePow, sk_54 hv2, sr_54_2 hv2, sr_54_3 hv2, sr_54_4 hv2, sr_54_5 hv2, sr_54_7 hv2, sr_54_8 hv2, sr_54_9 hv2, sr_54_12 hv2, sr_54_13 hv2, sr_54_14 hv2, sr_54_22 hv2, sr_54_25 hv2, sr_54_26 hv2, sr_54_27 hv2, sr_54_34 hv2, sr_54_35 hv2, sr_54_36 hv2, sr_54_37 hv2, sr_54_38 hv2, sr_54_40 hv2, sr_54_43 hv2, sr_54_44 hv2, sr_54_45 hv2, sr_54_46 hv2, sr_54_47 hv2]
          refine t_comes (d := 929) XT hmT q30 q32 ha1 hb1 (by omega) ?_ ?_
          · intro τ' hq hcm
            have := cm_nw w1 ha1 hcm
            omega
          · intro τ' α β hq hM67 hcm hN hD hO
            obtain ⟨g1, g2, g3, g4, g5⟩ := cm_lw w1 ha1 hb1 hcm hO
            obtain ⟨u1, u2⟩ := Lw_u g4 hlw
            have X3 := QM_X XT hq
            have hv3 := X3.1
            have r72 := (hD.1 a ha1).2
            have nn1 : ¬ nI s0 = -nI 1 := fun z => ng_ne 1 s0 (by omega) (by omega) (by omega) z.symm
            rw [u2] at r72
            simp (disch := omega) only [e_244_7, e_244_9, e_244_11, e_244_12, e_244_15, e_244_16, e_244_17, e_244_19, e_244_22, e_244_25, e_244_26, e_244_27, e_244_28, e_244_30, e_244_31, n10, n01, Nat.lt_irrefl, Nat.not_lt_zero, ne_eq, Nat.add_zero, Nat.one_ne_zero, Nat.zero_ne_one, Nat.reduceEqDiff, bI_T, bI_F, bI_0, bI_1, bI_01, not_and_self, true_and, and_true, not_true_eq_false, not_false_eq_true, false_imp_iff, true_imp_iff, imp_self, gPv_n, gPv_i, gPv_r, gPv_0, Option.toList_some, Option.toList_none, List.singleton_append, List.cons_append, List.nil_append, List.length_nil, List.length_cons, Nat.zero_le, Nat.reduceAdd, Nat.reduceLeDiff, or_true, true_or, false_or, or_false, and_self, and_false, false_and, implies_true, Option.some.injEq, exists_eq_left', nL, nI_add, nI_mul, nI_clamp, nI_ltI, nI_leI, nI_eq, nI_pos, nI_pos', Nat.reduceAdd, Nat.reduceMul, Nat.reducePow, t_lies, r72, nn1, hi1, if_false, Nat.reduceEqDiff]
            exact t_wy (d := 998) X3 hM67 hD hO hsb (by omega) i 0 a _ (by omega) (by omega) ha1 g3 ⟨rfl, fin τ' hq⟩
        · simp (disch := omega) only [e_133_38, e_133_39, e_133_42, e_133_43, e_133_44, e_133_45, e_133_48, n10, n01, Nat.lt_irrefl, Nat.not_lt_zero, ne_eq, Nat.add_zero, Nat.one_ne_zero, Nat.zero_ne_one, Nat.reduceEqDiff, bI_T, bI_F, bI_0, bI_1, bI_01, not_and_self, true_and, and_true, not_true_eq_false, not_false_eq_true, false_imp_iff, true_imp_iff, imp_self, gPv_n, gPv_i, gPv_r, gPv_0, Option.toList_some, Option.toList_none, List.singleton_append, List.cons_append, List.nil_append, List.length_nil, List.length_cons, Nat.zero_le, Nat.reduceAdd, Nat.reduceLeDiff, or_true, true_or, false_or, or_false, and_self, and_false, false_and, implies_true, Option.some.injEq, exists_eq_left', nL, nI_add, nI_mul, nI_clamp, nI_ltI, nI_leI, nI_eq, nI_pos, nI_pos', Nat.reduceAdd, Nat.reduceMul, Nat.reducePow, sk_0 hv2, sr_0_0 hv2, sr_0_1 hv2, sr_0_2 hv2, sr_0_4 hv2, sr_0_7 hv2, sr_0_9 hv2, sr_0_10 hv2, sr_0_11 hv2, sr_0_12 hv2, sr_0_13 hv2, sr_0_14 hv2, sk_25 hv2, sr_25_0 hv2, sr_25_1 hv2, sr_25_2 hv2, sr_25_3 hv2, sr_25_4 hv2, sr_25_5 hv2, c_96, e_96_0, e_96_1, e_96_2, e_96_3, e_96_4, e_96_5, e_96_8, e_96_11, e_96_14, e_96_15, s_shV hv2 hM2 a12 b12, sv, s_within, hi]
          refine ⟨ib 0, _, rfl, ?_⟩
          simp (disch := omega) only [List.map_cons, List.map_nil, Value.int.injEq, gSc_r, gSc_I, c_244, e_244_0, e_244_1, e_244_2, e_244_3, e_244_4, n10, n01, Nat.lt_irrefl, Nat.not_lt_zero, ne_eq, Nat.add_zero, Nat.one_ne_zero, Nat.zero_ne_one, Nat.reduceEqDiff, bI_T, bI_F, bI_0, bI_1, bI_01, not_and_self, true_and, and_true, not_true_eq_false, not_false_eq_true, false_imp_iff, true_imp_iff, imp_self, gPv_n, gPv_i, gPv_r, gPv_0, Option.toList_some, Option.toList_none, List.singleton_append, List.cons_append, List.nil_append, List.length_nil, List.length_cons, Nat.zero_le, Nat.reduceAdd, Nat.reduceLeDiff, or_true, true_or, false_or, or_false, and_self, and_false, false_and, implies_true, Option.some.injEq, exists_eq_left', nL, nI_add, nI_mul, nI_clamp, nI_ltI, nI_leI, nI_eq, nI_pos, nI_pos', Nat.reduceAdd, Nat.reduceMul, Nat.reducePow, sk_54 hv2, sr_54_2 hv2, sr_54_3 hv2, sr_54_4 hv2, sr_54_5 hv2, sr_54_7 hv2, sr_54_8 hv2, sr_54_9 hv2, sr_54_12 hv2, sr_54_13 hv2, sr_54_14 hv2, sr_54_22 hv2, sr_54_25 hv2, sr_54_26 hv2, sr_54_27 hv2, sr_54_34 hv2, sr_54_35 hv2, sr_54_36 hv2, sr_54_37 hv2, sr_54_38 hv2, sr_54_40 hv2, sr_54_43 hv2, sr_54_44 hv2, sr_54_45 hv2, sr_54_46 hv2, sr_54_47 hv2]
          refine t_comes (d := 929) XT hmT q30 q32 ha1 hb1 (by omega) ?_ ?_
          · intro τ' hq hcm
            have := cm_nw w1 ha1 hcm
            omega
          · intro τ' α β hq hM67 hcm hN hD hO
            obtain ⟨g1, g2, g3, g4, g5⟩ := cm_lw w1 ha1 hb1 hcm hO
            obtain ⟨u1, u2⟩ := Lw_u g4 hlw
            have r72 := (hD.1 a ha1).2
            have nn1 : ¬ nI s0 = -nI 1 := fun z => ng_ne 1 s0 (by omega) (by omega) (by omega) z.symm
            rw [u2] at r72
            simp (disch := omega) only [e_244_7, e_244_9, e_244_11, e_244_12, e_244_15, e_244_16, e_244_17, e_244_19, e_244_22, e_244_25, e_244_26, n10, n01, Nat.lt_irrefl, Nat.not_lt_zero, ne_eq, Nat.add_zero, Nat.one_ne_zero, Nat.zero_ne_one, Nat.reduceEqDiff, bI_T, bI_F, bI_0, bI_1, bI_01, not_and_self, true_and, and_true, not_true_eq_false, not_false_eq_true, false_imp_iff, true_imp_iff, imp_self, gPv_n, gPv_i, gPv_r, gPv_0, Option.toList_some, Option.toList_none, List.singleton_append, List.cons_append, List.nil_append, List.length_nil, List.length_cons, Nat.zero_le, Nat.reduceAdd, Nat.reduceLeDiff, or_true, true_or, false_or, or_false, and_self, and_false, false_and, implies_true, Option.some.injEq, exists_eq_left', nL, nI_eq, t_lies, r72, nn1, hi, if_false, Nat.reduceEqDiff]
            exact fin τ' hq
      · have sv : sV (gI σ (gB G + 56)) a b = -nI 1 := by rw [sV, if_neg c]
        have hi : ¬ (nI 0 ≤ p2 ∧ p2 ≤ -nI 1) := by
          rintro ⟨x1, x2⟩
          have := Int32.le_trans x1 x2
          exact absurd this (by decide)
        simp (disch := omega) only [e_133_38, e_133_39, e_133_42, e_133_43, e_133_44, e_133_45, e_133_48, n10, n01, Nat.lt_irrefl, Nat.not_lt_zero, ne_eq, Nat.add_zero, Nat.one_ne_zero, Nat.zero_ne_one, Nat.reduceEqDiff, bI_T, bI_F, bI_0, bI_1, bI_01, not_and_self, true_and, and_true, not_true_eq_false, not_false_eq_true, false_imp_iff, true_imp_iff, imp_self, gPv_n, gPv_i, gPv_r, gPv_0, Option.toList_some, Option.toList_none, List.singleton_append, List.cons_append, List.nil_append, List.length_nil, List.length_cons, Nat.zero_le, Nat.reduceAdd, Nat.reduceLeDiff, or_true, true_or, false_or, or_false, and_self, and_false, false_and, implies_true, Option.some.injEq, exists_eq_left', nL, nI_add, nI_mul, nI_clamp, nI_ltI, nI_leI, nI_eq, nI_pos, nI_pos', Nat.reduceAdd, Nat.reduceMul, Nat.reducePow, sk_0 hv2, sr_0_0 hv2, sr_0_1 hv2, sr_0_2 hv2, sr_0_4 hv2, sr_0_7 hv2, sr_0_9 hv2, sr_0_10 hv2, sr_0_11 hv2, sr_0_12 hv2, sr_0_13 hv2, sr_0_14 hv2, sk_25 hv2, sr_25_0 hv2, sr_25_1 hv2, sr_25_2 hv2, sr_25_3 hv2, sr_25_4 hv2, sr_25_5 hv2, c_96, e_96_0, e_96_1, e_96_2, e_96_3, e_96_4, e_96_5, e_96_8, e_96_11, e_96_14, e_96_15, s_shV hv2 hM2 a12 b12, sv, s_within, hi]
        refine ⟨ib 0, _, rfl, ?_⟩
        simp (disch := omega) only [List.map_cons, List.map_nil, Value.int.injEq, gSc_r, gSc_I, c_244, e_244_0, e_244_1, e_244_2, e_244_3, e_244_4, n10, n01, Nat.lt_irrefl, Nat.not_lt_zero, ne_eq, Nat.add_zero, Nat.one_ne_zero, Nat.zero_ne_one, Nat.reduceEqDiff, bI_T, bI_F, bI_0, bI_1, bI_01, not_and_self, true_and, and_true, not_true_eq_false, not_false_eq_true, false_imp_iff, true_imp_iff, imp_self, gPv_n, gPv_i, gPv_r, gPv_0, Option.toList_some, Option.toList_none, List.singleton_append, List.cons_append, List.nil_append, List.length_nil, List.length_cons, Nat.zero_le, Nat.reduceAdd, Nat.reduceLeDiff, or_true, true_or, false_or, or_false, and_self, and_false, false_and, implies_true, Option.some.injEq, exists_eq_left', nL, nI_add, nI_mul, nI_clamp, nI_ltI, nI_leI, nI_eq, nI_pos, nI_pos', Nat.reduceAdd, Nat.reduceMul, Nat.reducePow, sk_54 hv2, sr_54_2 hv2, sr_54_3 hv2, sr_54_4 hv2, sr_54_5 hv2, sr_54_7 hv2, sr_54_8 hv2, sr_54_9 hv2, sr_54_12 hv2, sr_54_13 hv2, sr_54_14 hv2, sr_54_22 hv2, sr_54_25 hv2, sr_54_26 hv2, sr_54_27 hv2, sr_54_34 hv2, sr_54_35 hv2, sr_54_36 hv2, sr_54_37 hv2, sr_54_38 hv2, sr_54_40 hv2, sr_54_43 hv2, sr_54_44 hv2, sr_54_45 hv2, sr_54_46 hv2, sr_54_47 hv2]
        refine t_comes (d := 929) XT hmT q30 q32 ha1 hb1 (by omega) ?_ ?_
        · intro τ' hq hcm
          simp (disch := omega) only [e_244_7, e_244_9, e_244_11, e_244_12, e_244_15, e_244_16, e_244_17, e_244_19, e_244_22, e_244_25, e_244_26, n10, n01, Nat.lt_irrefl, Nat.not_lt_zero, ne_eq, Nat.add_zero, Nat.one_ne_zero, Nat.zero_ne_one, Nat.reduceEqDiff, bI_T, bI_F, bI_0, bI_1, bI_01, not_and_self, true_and, and_true, not_true_eq_false, not_false_eq_true, false_imp_iff, true_imp_iff, imp_self, gPv_n, gPv_i, gPv_r, gPv_0, Option.toList_some, Option.toList_none, List.singleton_append, List.cons_append, List.nil_append, List.length_nil, List.length_cons, Nat.zero_le, Nat.reduceAdd, Nat.reduceLeDiff, or_true, true_or, false_or, or_false, and_self, and_false, false_and, implies_true, Option.some.injEq, exists_eq_left', nL, nI_eq, if_false, Nat.reduceEqDiff]
          exact fin τ' hq
        · intro τ' α β hq hM67 hcm hN hD hO
          obtain ⟨g1, g2, g3, g4, g5⟩ := cm_lw w1 ha1 hb1 hcm hO
          obtain ⟨c1, c2⟩ := Lw_b w1 ha1 g4
          omega
    · simp (disch := first | omega | (simp only [IvS_I, IvS_J, IvS_r]; assumption)) only [List.map_cons, List.map_nil, Value.int.injEq, gSc_r, gSc_I, n10, n01, Nat.lt_irrefl, Nat.not_lt_zero, ne_eq, Nat.add_zero, Nat.one_ne_zero, Nat.zero_ne_one, Nat.reduceEqDiff, bI_T, bI_F, bI_0, bI_1, bI_01, not_and_self, true_and, and_true, not_true_eq_false, not_false_eq_true, false_imp_iff, true_imp_iff, imp_self, gPv_n, gPv_i, gPv_r, gPv_0, Option.toList_some, Option.toList_none, List.singleton_append, List.cons_append, List.nil_append, List.length_nil, List.length_cons, Nat.zero_le, Nat.reduceAdd, Nat.reduceLeDiff, or_true, true_or, false_or, or_false, and_self, and_false, false_and, implies_true, Option.some.injEq, exists_eq_left', nL, c_133, e_133_0, e_133_1, e_133_4, e_133_5, e_133_8, e_133_11, e_133_12, e_133_15, e_133_16, e_133_19, e_133_22, e_133_23, c_244, e_244_0, e_244_1, e_244_2, e_244_3, e_244_4, e_244_7, e_244_9, e_244_11, e_244_12, e_244_15, e_244_16, e_244_17, e_244_19, e_244_22, e_244_25, e_244_26, c_243, e_243_0, e_243_1, e_243_2, e_243_5, e_243_8, e_243_9, e_243_10, e_243_13, e_243_16, e_243_17, e_243_18, e_243_19, e_243_22, e_243_25, e_243_26, sk_0 hv, sr_0_0 hv, sr_0_1 hv, sr_0_2 hv, sr_0_4 hv, sr_0_7 hv, sr_0_9 hv, sr_0_10 hv, sr_0_11 hv, sr_0_12 hv, sr_0_13 hv, sr_0_14 hv, sk_1 hv, sr_1_0 hv, sr_1_1 hv, sr_1_2 hv, sr_1_3 hv, sr_1_4 hv, sr_1_7 hv, sr_1_9 hv, sr_1_14 hv, sr_1_15 hv, sr_1_16 hv, sk_54 hv, sr_54_2 hv, sr_54_3 hv, sr_54_4 hv, sr_54_5 hv, sr_54_7 hv, sr_54_8 hv, sr_54_9 hv, sr_54_12 hv, sr_54_13 hv, sr_54_14 hv, sr_54_22 hv, sr_54_25 hv, sr_54_26 hv, sr_54_27 hv, sr_54_34 hv, sr_54_35 hv, sr_54_36 hv, sr_54_37 hv, sr_54_38 hv, sr_54_40 hv, sr_54_43 hv, sr_54_44 hv, sr_54_45 hv, sr_54_46 hv, sr_54_47 hv, s_has (sk_1 hv), t_isHouse hv, e5, hn2, le_sub1, h0, h1]
      exact Inv_up hI
  · simp (disch := first | omega | (simp only [IvS_I, IvS_J, IvS_r]; assumption)) only [List.map_cons, List.map_nil, Value.int.injEq, gSc_r, gSc_I, n10, n01, Nat.lt_irrefl, Nat.not_lt_zero, ne_eq, Nat.add_zero, Nat.one_ne_zero, Nat.zero_ne_one, Nat.reduceEqDiff, bI_T, bI_F, bI_0, bI_1, bI_01, not_and_self, true_and, and_true, not_true_eq_false, not_false_eq_true, false_imp_iff, true_imp_iff, imp_self, gPv_n, gPv_i, gPv_r, gPv_0, Option.toList_some, Option.toList_none, List.singleton_append, List.cons_append, List.nil_append, List.length_nil, List.length_cons, Nat.zero_le, Nat.reduceAdd, Nat.reduceLeDiff, or_true, true_or, false_or, or_false, and_self, and_false, false_and, implies_true, Option.some.injEq, exists_eq_left', nL, c_133, e_133_0, e_133_1, e_133_4, e_133_5, e_133_8, e_133_11, e_133_12, e_133_15, e_133_16, e_133_19, e_133_22, e_133_23, c_244, e_244_0, e_244_1, e_244_2, e_244_3, e_244_4, e_244_7, e_244_9, e_244_11, e_244_12, e_244_15, e_244_16, e_244_17, e_244_19, e_244_22, e_244_25, e_244_26, c_243, e_243_0, e_243_1, e_243_2, e_243_5, e_243_8, e_243_9, e_243_10, e_243_13, e_243_16, e_243_17, e_243_18, e_243_19, e_243_22, e_243_25, e_243_26, sk_0 hv, sr_0_0 hv, sr_0_1 hv, sr_0_2 hv, sr_0_4 hv, sr_0_7 hv, sr_0_9 hv, sr_0_10 hv, sr_0_11 hv, sr_0_12 hv, sr_0_13 hv, sr_0_14 hv, sk_1 hv, sr_1_0 hv, sr_1_1 hv, sr_1_2 hv, sr_1_3 hv, sr_1_4 hv, sr_1_7 hv, sr_1_9 hv, sr_1_14 hv, sr_1_15 hv, sr_1_16 hv, sk_54 hv, sr_54_2 hv, sr_54_3 hv, sr_54_4 hv, sr_54_5 hv, sr_54_7 hv, sr_54_8 hv, sr_54_9 hv, sr_54_12 hv, sr_54_13 hv, sr_54_14 hv, sr_54_22 hv, sr_54_25 hv, sr_54_26 hv, sr_54_27 hv, sr_54_34 hv, sr_54_35 hv, sr_54_36 hv, sr_54_37 hv, sr_54_38 hv, sr_54_40 hv, sr_54_43 hv, sr_54_44 hv, sr_54_45 hv, sr_54_46 hv, sr_54_47 hv, s_has (sk_1 hv), t_isHouse hv, e5, hn2, le_sub1, h0]
    exact Inv_up hI
end
