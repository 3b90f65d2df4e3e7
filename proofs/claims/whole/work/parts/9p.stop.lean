/-! stop -/
theorem pc_cn {b : Nat} : ∀ m, pcN b m = cn (fun j => b.testBit j) m 0 := by
  intro m
  induction m with
  | zero => rfl
  | succ m ih => rw [cn_s, pcN, ih]
section
variable {B : Nat} {σ : gS} {A : Nat → Int32} {d v : Nat} {Q : Option Value → gS → Prop}
theorem t_st1 {hm hs i a r n j : Nat} (X : MX B σ A) (hL : LbO B A σ) (hT : TbI B A hm hs (2 ^ hn A) 0 σ) (ha : a < hn A) (hr : r < 2 ^ hn A) (hsub : ad r hs = 0) (K : wp (d + 1) pr_267 Q 110 [some (.ref (B + 54)), some (.int (nI hm)), some (.int (nI hs)), some (.int (nI i)), some (.int (nI a)), some (.int (nI r)), some (.int (nI n)), some (.int (nI j))] [] σ) : ∀ m k, k + m = hn A → fo (nxB (dM A) hm (hn A) r a) m k = some j → wp (d + 1) pr_267 Q 44 [some (.ref (B + 54)), some (.int (nI hm)), some (.int (nI hs)), some (.int (nI i)), some (.int (nI a)), some (.int (nI r)), some (.int (nI n)), some (.int (nI k))] [] σ := by
  obtain ⟨hv, hA, wh, wd, wl⟩ := id X
  have h12 := hn_le wh
  have p12 : 2 ^ hn A ≤ 4096 := Nat.pow_le_pow_right (by decide) h12
  intro m
  induction m with
  | zero => intro k hk q; exact absurd q (by simp [fo])
  | succ m ih =>
    intro k hk q
    rw [fo] at q
    rw [e_267_44]
    cases c : r.testBit k
    · rw [if_neg (by rw [nxB, c]; simp)] at q
      simp (disch := omega) only [e_267_46, e_267_48, e_267_51, e_267_104, e_267_107, n10, n01, Nat.lt_irrefl, Nat.not_lt_zero, ne_eq, Nat.add_zero, Nat.one_ne_zero, Nat.zero_ne_one, Nat.reduceEqDiff, bI_T, bI_F, bI_0, bI_1, bI_01, not_and_self, true_and, and_true, not_true_eq_false, not_false_eq_true, false_imp_iff, true_imp_iff, imp_self, gPv_n, gPv_i, gPv_r, gPv_0, Option.toList_some, Option.toList_none, List.singleton_append, List.cons_append, List.nil_append, List.length_nil, List.length_cons, Nat.zero_le, Nat.reduceAdd, Nat.reduceLeDiff, or_true, true_or, false_or, or_false, and_self, and_false, false_and, implies_true, Option.some.injEq, exists_eq_left', nL, nI_add, nI_mul, nI_clamp, nI_ltI, nI_leI, nI_eq, nI_pos, nI_pos', Nat.reduceAdd, Nat.reduceMul, Nat.reducePow, t_isIn, c, Bool.false_eq_true]
      exact ih (k + 1) (by omega) q
    · have lt := ad_lt2 c
      have e1 := hL a k ha (by omega)
      have e2 := hT (ad r (2 ^ k)) k (by omega) (ad_sub hsub) (Or.inl (by omega))
      have e3 := hT r a ha hsub (Or.inl hr)
      have z1 : 12 * a + k < 144 := by omega
      have z2 : 12 * ad r (2 ^ k) + k < 49152 := by omega
      have z2' : ad r (2 ^ k) * 12 + k = 12 * ad r (2 ^ k) + k := by omega
      have z3 : 12 * r + a < 49152 := by omega
      have z3' : r * 12 + a = 12 * r + a := by omega
      have b1 := dM_le (A := A) (a := a) (b := k)
      have b2 := lrA_le (A := A) (hm := hm) (td := ad r (2 ^ k)) (a := k)
      have b3 := lrA_le (A := A) (hm := hm) (td := r) (a := a)
      by_cases c2 : dM A a k + lrA A hm (ad r (2 ^ k)) k = lrA A hm r a
      · rw [if_pos (by rw [nxB, c, Bool.true_and, decide_eq_true_eq]; exact c2)] at q
        have q : k = j := by simpa using q
        subst q
        simp (disch := omega) only [e_267_46, e_267_48, e_267_51, e_267_54, e_267_55, e_267_58, e_267_60, e_267_62, e_267_63, e_267_65, e_267_66, e_267_67, e_267_68, e_267_71, e_267_73, e_267_74, e_267_76, e_267_77, e_267_78, e_267_79, e_267_80, e_267_82, e_267_83, e_267_85, e_267_86, e_267_87, e_267_88, e_267_89, e_267_92, e_267_94, e_267_96, e_267_97, e_267_99, e_267_100, e_267_101, n10, n01, Nat.lt_irrefl, Nat.not_lt_zero, ne_eq, Nat.add_zero, Nat.one_ne_zero, Nat.zero_ne_one, Nat.reduceEqDiff, bI_T, bI_F, bI_0, bI_1, bI_01, not_and_self, true_and, and_true, not_true_eq_false, not_false_eq_true, false_imp_iff, true_imp_iff, imp_self, gPv_n, gPv_i, gPv_r, gPv_0, Option.toList_some, Option.toList_none, List.singleton_append, List.cons_append, List.nil_append, List.length_nil, List.length_cons, Nat.zero_le, Nat.reduceAdd, Nat.reduceLeDiff, or_true, true_or, false_or, or_false, and_self, and_false, false_and, implies_true, Option.some.injEq, exists_eq_left', nL, nI_add, nI_mul, nI_clamp, nI_ltI, nI_leI, nI_eq, nI_pos, nI_pos', Nat.reduceAdd, Nat.reduceMul, Nat.reducePow, sk_54 hv, sr_54_2 hv, sr_54_3 hv, sr_54_4 hv, sr_54_5 hv, sr_54_7 hv, sr_54_8 hv, sr_54_9 hv, sr_54_12 hv, sr_54_13 hv, sr_54_14 hv, sr_54_22 hv, sr_54_25 hv, sr_54_26 hv, sr_54_27 hv, sr_54_34 hv, sr_54_35 hv, sr_54_36 hv, sr_54_37 hv, sr_54_38 hv, sr_54_40 hv, sr_54_43 hv, sr_54_44 hv, sr_54_45 hv, sr_54_46 hv, sr_54_47 hv, sk_76 hv, sn_76 hv, sk_77 hv, sn_77 hv, t_isIn, c, nI_shl, Nat.one_mul, nI_ad, z1, z2, z2', z3, z3', e1, e2, e3, c2]
        exact K
      · rw [if_neg (by rw [nxB, c, Bool.true_and, decide_eq_true_eq]; exact c2)] at q
        simp (disch := omega) only [e_267_46, e_267_48, e_267_51, e_267_54, e_267_55, e_267_58, e_267_60, e_267_62, e_267_63, e_267_65, e_267_66, e_267_67, e_267_68, e_267_71, e_267_73, e_267_74, e_267_76, e_267_77, e_267_78, e_267_79, e_267_80, e_267_82, e_267_83, e_267_85, e_267_86, e_267_87, e_267_88, e_267_89, e_267_92, e_267_94, e_267_96, e_267_97, e_267_99, e_267_100, e_267_101, e_267_104, e_267_107, n10, n01, Nat.lt_irrefl, Nat.not_lt_zero, ne_eq, Nat.add_zero, Nat.one_ne_zero, Nat.zero_ne_one, Nat.reduceEqDiff, bI_T, bI_F, bI_0, bI_1, bI_01, not_and_self, true_and, and_true, not_true_eq_false, not_false_eq_true, false_imp_iff, true_imp_iff, imp_self, gPv_n, gPv_i, gPv_r, gPv_0, Option.toList_some, Option.toList_none, List.singleton_append, List.cons_append, List.nil_append, List.length_nil, List.length_cons, Nat.zero_le, Nat.reduceAdd, Nat.reduceLeDiff, or_true, true_or, false_or, or_false, and_self, and_false, false_and, implies_true, Option.some.injEq, exists_eq_left', nL, nI_add, nI_mul, nI_clamp, nI_ltI, nI_leI, nI_eq, nI_pos, nI_pos', Nat.reduceAdd, Nat.reduceMul, Nat.reducePow, sk_54 hv, sr_54_2 hv, sr_54_3 hv, sr_54_4 hv, sr_54_5 hv, sr_54_7 hv, sr_54_8 hv, sr_54_9 hv, sr_54_12 hv, sr_54_13 hv, sr_54_14 hv, sr_54_22 hv, sr_54_25 hv, sr_54_26 hv, sr_54_27 hv, sr_54_34 hv, sr_54_35 hv, sr_54_36 hv, sr_54_37 hv, sr_54_38 hv, sr_54_40 hv, sr_54_43 hv, sr_54_44 hv, sr_54_45 hv, sr_54_46 hv, sr_54_47 hv, sk_76 hv, sn_76 hv, sk_77 hv, sn_77 hv, t_isIn, c, nI_shl, Nat.one_mul, nI_ad, z1, z2, z2', z3, z3', e1, e2, e3, c2]
        exact ih (k + 1) (by omega) q
theorem t_st2 {hm hs i : Nat} (X : MX B σ A) (hL : LbO B A σ) (hT : TbI B A hm hs (2 ^ hn A) 0 σ) (hi : i < 12) : ∀ m n r a x7, n + m = i + 1 → a < hn A → r < 2 ^ hn A → ad r hs = 0 → (m ≠ 0 → lrA A hm r a < 1000000) → m ≤ cn (fun j => r.testBit j) (hn A) 0 → Q (some (.int (nI (sp (dM A) hm (hn A) m r a)))) σ → wp (d + 1) pr_267 Q 35 [some (.ref (B + 54)), some (.int (nI hm)), some (.int (nI hs)), some (.int (nI i)), some (.int (nI a)), some (.int (nI r)), some (.int (nI n)), x7] [] σ := by
  have wh := X.2.2.1
  have h12 := hn_le wh
  intro m
  induction m with
  | zero =>
    intro n r a x7 hn' ha hr hsub hl hc K
    have z : i < n := by omega
    simp (disch := omega) only [e_267_35, e_267_37, e_267_38, e_267_131, e_267_133, n10, n01, Nat.lt_irrefl, Nat.not_lt_zero, ne_eq, Nat.add_zero, Nat.one_ne_zero, Nat.zero_ne_one, Nat.reduceEqDiff, bI_T, bI_F, bI_0, bI_1, bI_01, not_and_self, true_and, and_true, not_true_eq_false, not_false_eq_true, false_imp_iff, true_imp_iff, imp_self, gPv_n, gPv_i, gPv_r, gPv_0, Option.toList_some, Option.toList_none, List.singleton_append, List.cons_append, List.nil_append, List.length_nil, List.length_cons, Nat.zero_le, Nat.reduceAdd, Nat.reduceLeDiff, or_true, true_or, false_or, or_false, and_self, and_false, false_and, implies_true, Option.some.injEq, exists_eq_left', nL, nI_add, nI_mul, nI_clamp, nI_ltI, nI_leI, nI_eq, nI_pos, nI_pos', Nat.reduceAdd, Nat.reduceMul, Nat.reducePow, z]
    exact K
  | succ m ih =>
    intro n r a x7 hn' ha hr hsub hl hc K
    have z : ¬ i < n := by omega
    have r0 : r ≠ 0 := by
      intro z
      rw [z, cn_0 (fun j _ _ => by simp)] at hc
      omega
    obtain ⟨j, q, hj, hb, hd, hl2⟩ := nx_ex r0 (hl (by omega))
    have lt := ad_lt2 hb
    rw [sp_s q] at K
    rw [e_267_35]
    simp (disch := omega) only [e_267_37, e_267_38, e_267_41, e_267_42, n10, n01, Nat.lt_irrefl, Nat.not_lt_zero, ne_eq, Nat.add_zero, Nat.one_ne_zero, Nat.zero_ne_one, Nat.reduceEqDiff, bI_T, bI_F, bI_0, bI_1, bI_01, not_and_self, true_and, and_true, not_true_eq_false, not_false_eq_true, false_imp_iff, true_imp_iff, imp_self, gPv_n, gPv_i, gPv_r, gPv_0, Option.toList_some, Option.toList_none, List.singleton_append, List.cons_append, List.nil_append, List.length_nil, List.length_cons, Nat.zero_le, Nat.reduceAdd, Nat.reduceLeDiff, or_true, true_or, false_or, or_false, and_self, and_false, false_and, implies_true, Option.some.injEq, exists_eq_left', nL, nI_add, nI_mul, nI_clamp, nI_ltI, nI_leI, nI_eq, nI_pos, nI_pos', Nat.reduceAdd, Nat.reduceMul, Nat.reducePow, z]
    refine t_st1 X hL hT ha hr hsub ?_ (hn A) 0 (by omega) q
    simp (disch := omega) only [e_267_110, e_267_112, e_267_113, e_267_115, e_267_116, e_267_117, e_267_118, e_267_119, e_267_121, e_267_123, e_267_125, e_267_128, n10, n01, Nat.lt_irrefl, Nat.not_lt_zero, ne_eq, Nat.add_zero, Nat.one_ne_zero, Nat.zero_ne_one, Nat.reduceEqDiff, bI_T, bI_F, bI_0, bI_1, bI_01, not_and_self, true_and, and_true, not_true_eq_false, not_false_eq_true, false_imp_iff, true_imp_iff, imp_self, gPv_n, gPv_i, gPv_r, gPv_0, Option.toList_some, Option.toList_none, List.singleton_append, List.cons_append, List.nil_append, List.length_nil, List.length_cons, Nat.zero_le, Nat.reduceAdd, Nat.reduceLeDiff, or_true, true_or, false_or, or_false, and_self, and_false, false_and, implies_true, Option.some.injEq, exists_eq_left', nL, nI_add, nI_shl, Nat.one_mul, nI_ad]
    refine ih (n + 1) (ad r (2 ^ j)) j _ (by omega) hj (by omega) (ad_sub hsub) (fun _ => hl2) ?_ K
    have : cn (fun k => r.testBit k) (hn A) 0 = cn (fun k => (ad r (2 ^ j)).testBit k) (hn A) 0 + 1 := by
      refine cn_set (h := j) ?_ ?_ hb (hn A) 0 (by omega) (by omega)
      · intro k hk
        rw [tb_ad, Nat.testBit_two_pow]
        have : ¬ j = k := fun z => hk z.symm
        simp [this]
      · rw [tb_ad, Nat.testBit_two_pow_self]
        simp
    omega
end
section
variable {CV : Nat → (Nat → Int32) → (Nat → Nat → Int32) → Prop} {G : gG}
set_option maxHeartbeats 2000000 in
theorem ob_stop (hcv : CVl CV) (h2 : ∀ A W, CV 2 A W ↔ ∀ a b, a < 12 → b < 12 → W 6 (12 * a + b) = nI (mM A a b) ∧ W 7 (12 * a + b) = nI (fl (mM A) 12 a b)) (h5 : ∀ A W, CV 5 A W ↔ RdR A (W 20 8) (W 20 9) (W 20 10) (W 20 11) (W 20 6) (W 22)) : gOb (Inv LSx CV MVx G) (gb G) (gB G) (gB G + 54) 146 267 3 := by
  intro σ k as hl hk hI
  obtain ⟨p0, p1, p2, rfl⟩ := len3 hl
  have hv := Inv_Sh hI
  have hb := Inv_b hI
  obtain ⟨own, cc, v, hc, ha, hX, hm⟩ := Inv_ctx hI hk
  obtain ⟨z30, z32⟩ := Inv_30 hI
  have w1 := hX.2.2.1
  have h12 := hn_le w1
  have p12 : 2 ^ hn (gI σ (gB G + 56)) ≤ 4096 := Nat.pow_le_pow_right (by decide) h12
  simp (disch := first | omega | (simp only [IvS_I, IvS_J, IvS_r]; assumption)) only [List.map_cons, List.map_nil, Value.int.injEq, gSc_r, gSc_I, n10, n01, Nat.lt_irrefl, Nat.not_lt_zero, ne_eq, Nat.add_zero, Nat.one_ne_zero, Nat.zero_ne_one, Nat.reduceEqDiff, bI_T, bI_F, bI_0, bI_1, bI_01, not_and_self, true_and, and_true, not_true_eq_false, not_false_eq_true, false_imp_iff, true_imp_iff, imp_self, gPv_n, gPv_i, gPv_r, gPv_0, Option.toList_some, Option.toList_none, List.singleton_append, List.cons_append, List.nil_append, List.length_nil, List.length_cons, Nat.zero_le, Nat.reduceAdd, Nat.reduceLeDiff, or_true, true_or, false_or, or_false, and_self, and_false, false_and, implies_true, Option.some.injEq, exists_eq_left', nL, c_146, e_146_0, e_146_1, e_146_4, e_146_5, e_146_8, sk_0 hv, sr_0_0 hv, sr_0_1 hv, sr_0_2 hv, sr_0_4 hv, sr_0_7 hv, sr_0_9 hv, sr_0_10 hv, sr_0_11 hv, sr_0_12 hv, sr_0_13 hv, sr_0_14 hv, sk_25 hv, sr_25_0 hv, sr_25_1 hv, sr_25_2 hv, sr_25_3 hv, sr_25_4 hv, sr_25_5 hv]
  refine s_openRows (d := 992) hcv hc ha ?_
  intro τ hS hcT haT hr
  have hvT := hcT.1
  simp (disch := omega) only [e_146_11, n10, n01, Nat.lt_irrefl, Nat.not_lt_zero, ne_eq, Nat.add_zero, Nat.one_ne_zero, Nat.zero_ne_one, Nat.reduceEqDiff, bI_T, bI_F, bI_0, bI_1, bI_01, not_and_self, true_and, and_true, not_true_eq_false, not_false_eq_true, false_imp_iff, true_imp_iff, imp_self, gPv_n, gPv_i, gPv_r, gPv_0, Option.toList_some, Option.toList_none, List.singleton_append, List.cons_append, List.nil_append, List.length_nil, List.length_cons, Nat.zero_le, Nat.reduceAdd, Nat.reduceLeDiff, or_true, true_or, false_or, or_false, and_self, and_false, false_and, implies_true, Option.some.injEq, exists_eq_left', nL, sk_25 hvT, sr_25_0 hvT, sr_25_1 hvT, sr_25_2 hvT, sr_25_3 hvT, sr_25_4 hvT, sr_25_5 hvT]
  refine s_measure (d := 994) hcv h2 hcT haT hr ?_
  intro τ2 hS2 hcT2 haT2 hM2
  have hv2 := hcT2.1
  have hS02 : Sm (fun a => gB G + 25 ≤ a ∧ a < gB G + 50) σ τ2 := Sm_trans (Sm_mono hS (fun a ha => by omega)) (Sm_mono hS2 (fun a ha => by omega))
  obtain ⟨n1, n2, l, s, l1, l2, l3, l4, l5⟩ := Inv_l hI hS02
  simp (disch := omega) only [e_146_14, e_146_15, e_146_18, e_146_19, e_146_20, n10, n01, Nat.lt_irrefl, Nat.not_lt_zero, ne_eq, Nat.add_zero, Nat.one_ne_zero, Nat.zero_ne_one, Nat.reduceEqDiff, bI_T, bI_F, bI_0, bI_1, bI_01, not_and_self, true_and, and_true, not_true_eq_false, not_false_eq_true, false_imp_iff, true_imp_iff, imp_self, gPv_n, gPv_i, gPv_r, gPv_0, Option.toList_some, Option.toList_none, List.singleton_append, List.cons_append, List.nil_append, List.length_nil, List.length_cons, Nat.zero_le, Nat.reduceAdd, Nat.reduceLeDiff, or_true, true_or, false_or, or_false, and_self, and_false, false_and, implies_true, Option.some.injEq, exists_eq_left', nL, sk_0 hv2, sr_0_0 hv2, sr_0_1 hv2, sr_0_2 hv2, sr_0_4 hv2, sr_0_7 hv2, sr_0_9 hv2, sr_0_10 hv2, sr_0_11 hv2, sr_0_12 hv2, sr_0_13 hv2, sr_0_14 hv2, sk_45 hv2, sr_45_0 hv2, sr_45_1 hv2, sr_45_2 hv2, sr_45_3 hv2, sr_45_4 hv2]
  refine s_plan (d := 994) hcv h5 hcT2 haT2 hM2 n1 l1 l2 l3 l4 l5 ?_
  intro τ3 σA hAS hS3 haT3 hR
  have lA : ∀ a, gR σA (gB G + 45) 5 = some a → a = gB G + 49 ∨ gB G + 80 ≤ a := by
    intro a ha
    rcases hAS with rfl | ⟨q, l0, a1, a2, a3, rfl⟩
    · rw [l1] at ha
      have : l = a := by simpa using ha
      omega
    · rw [al_R5] at ha
      have : gn τ2 = a := by simpa using ha
      omega
  have hvA : IvS (gB G) σA := by
    rcases hAS with rfl | ⟨_, _, _, _, _, rfl⟩
    · exact hv2
    · exact IvS_al hv2 n1
  have hv3 : IvS (gB G) τ3 := fr_IvS hS3.1 hS3.2.1 hS3.2.2.1 hvA
  have r3 : ∀ o, 50 ≤ o → o < 80 → gI τ3 (gB G + o) = gI σ (gB G + o) := fun o h1 h2 => by
    rw [hS3.2.2.2.2.2.2.1 _ (by
      rintro (z | z)
      · omega
      · have := lA _ z
        omega), AlS_I hAS (by omega), hS02.2.2.2.2.2.2.1 _ (by omega)]
  have XT : MX (gB G) τ3 (gI σ (gB G + 56)) := ⟨hv3, r3 56 (by omega) (by omega), hX.2.2⟩
  have hmT : Mc (gB G) (gI σ (gB G + 56)) τ3 v := by
    simp only [Mc, r3 54 (by omega) (by omega), r3 66 (by omega) (by omega), r3 67 (by omega) (by omega), r3 68 (by omega) (by omega)]
    exact hm
  have q30 : gI τ3 (gB G + 54) 30 = -nI 1 := by rw [r3 54 (by omega) (by omega)]; exact z30
  have q32 : gI τ3 (gB G + 54) 32 = -nI 1 := by rw [r3 54 (by omega) (by omega)]; exact z32
  have sc : gSc (gb G) σ τ3 ∧ gK τ3 (gB G + 54) = 13 := ⟨gSc_A hb hS02 n1 hAS hS3 (fun a ha => by have := lA a ha; omega), sk_54 hv3⟩
  have fin : ∀ τ4, (τ4 = τ3 ∨ QM (gB G) (gI σ (gB G + 56)) v τ3 τ4) → Inv LSx CV MVx G τ4 (k + 1) := fun τ4 hq => Inv_rd hk hI hm hS02 haT2 hAS hS3 haT3 hq
  rcases hR with ⟨c0, no⟩ | ⟨c1, h, b, s', e1, e2, hK, e3, e4, e5, e6⟩
  · rw [c0]
    simp (disch := omega) only [e_146_23, e_146_26, e_146_27, e_146_30, e_146_31, e_146_34, e_146_37, e_146_38, n10, n01, Nat.lt_irrefl, Nat.not_lt_zero, ne_eq, Nat.add_zero, Nat.one_ne_zero, Nat.zero_ne_one, Nat.reduceEqDiff, bI_T, bI_F, bI_0, bI_1, bI_01, not_and_self, true_and, and_true, not_true_eq_false, not_false_eq_true, false_imp_iff, true_imp_iff, imp_self, gPv_n, gPv_i, gPv_r, gPv_0, Option.toList_some, Option.toList_none, List.singleton_append, List.cons_append, List.nil_append, List.length_nil, List.length_cons, Nat.zero_le, Nat.reduceAdd, Nat.reduceLeDiff, or_true, true_or, false_or, or_false, and_self, and_false, false_and, implies_true, Option.some.injEq, exists_eq_left', nL, nI_add, nI_mul, nI_clamp, nI_ltI, nI_leI, nI_eq, nI_pos, nI_pos', Nat.reduceAdd, Nat.reduceMul, Nat.reducePow]
    refine ⟨sc, _, rfl, ?_⟩
    simp (disch := omega) only [List.map_cons, List.map_nil, Value.int.injEq, gSc_r, gSc_I, c_267, e_267_0, e_267_1, e_267_2, e_267_3, n10, n01, Nat.lt_irrefl, Nat.not_lt_zero, ne_eq, Nat.add_zero, Nat.one_ne_zero, Nat.zero_ne_one, Nat.reduceEqDiff, bI_T, bI_F, bI_0, bI_1, bI_01, not_and_self, true_and, and_true, not_true_eq_false, not_false_eq_true, false_imp_iff, true_imp_iff, imp_self, gPv_n, gPv_i, gPv_r, gPv_0, Option.toList_some, Option.toList_none, List.singleton_append, List.cons_append, List.nil_append, List.length_nil, List.length_cons, Nat.zero_le, Nat.reduceAdd, Nat.reduceLeDiff, or_true, true_or, false_or, or_false, and_self, and_false, false_and, implies_true, Option.some.injEq, exists_eq_left', nL, sk_54 hv3, sr_54_2 hv3, sr_54_3 hv3, sr_54_4 hv3, sr_54_5 hv3, sr_54_7 hv3, sr_54_8 hv3, sr_54_9 hv3, sr_54_12 hv3, sr_54_13 hv3, sr_54_14 hv3, sr_54_22 hv3, sr_54_25 hv3, sr_54_26 hv3, sr_54_27 hv3, sr_54_34 hv3, sr_54_35 hv3, sr_54_36 hv3, sr_54_37 hv3, sr_54_38 hv3, sr_54_40 hv3, sr_54_43 hv3, sr_54_44 hv3, sr_54_45 hv3, sr_54_46 hv3, sr_54_47 hv3]
    refine t_round (d := 928) XT hmT q30 q32 ?_ ?_
    · intro τ4 hq _
      simp (disch := omega) only [e_267_6, e_267_7, e_267_10, e_267_11, e_267_12, e_267_13, e_267_16, e_267_17, e_267_18, e_267_21, e_267_24, e_267_25, n10, n01, Nat.lt_irrefl, Nat.not_lt_zero, ne_eq, Nat.add_zero, Nat.one_ne_zero, Nat.zero_ne_one, Nat.reduceEqDiff, bI_T, bI_F, bI_0, bI_1, bI_01, not_and_self, true_and, and_true, not_true_eq_false, not_false_eq_true, false_imp_iff, true_imp_iff, imp_self, gPv_n, gPv_i, gPv_r, gPv_0, Option.toList_some, Option.toList_none, List.singleton_append, List.cons_append, List.nil_append, List.length_nil, List.length_cons, Nat.zero_le, Nat.reduceAdd, Nat.reduceLeDiff, or_true, true_or, false_or, or_false, and_self, and_false, false_and, implies_true, Option.some.injEq, exists_eq_left', nL]
      exact fin τ4 hq
    · intro τ4 h b hq f1 f2 hK _ _
      exact absurd hK (no h b f1 f2)
  · have s11 : s' ≤ 11 := by
      have := cn_st (C := fun j => b.testBit j) (C' := fun _ => true) (fun _ _ => rfl) (k := h) hK.2.2.1 rfl 12 0 (by omega) (by have := hK.1; omega)
      have g := cn_le (fun _ => true) 12 0
      omega
    have bl := hK.2.1
    have pcn : pcN b 12 = s' := by rw [pc_cn, e4]
    have cnn : s' ≤ cn (fun j => b.testBit j) (hn (gI σ (gB G + 56))) 0 := by
      obtain ⟨t, ht⟩ : ∃ t, 12 = hn (gI σ (gB G + 56)) + t := ⟨12 - hn (gI σ (gB G + 56)), by omega⟩
      have g := cn_add (fun j => b.testBit j) (hn (gI σ (gB G + 56))) t 0
      rw [← ht, cn_0 (m := t) (fun j h1 _ => tb_lt bl (by omega))] at g
      omega
    rw [c1]
    by_cases hi : nI 0 ≤ p2 ∧ p2 < nI s'
    · obtain ⟨i, hi1, rfl⟩ := in_lt (by omega) hi
      have i12 : i < 12 := by omega
      have z1 : ¬ s' ≤ i := by omega
      have z2 : ¬ 12 ≤ i := by omega
      have e7 := e6 i hi1
      simp (disch := omega) only [e_146_23, e_146_26, e_146_27, e_146_30, e_146_31, e_146_34, e_146_37, e_146_38, n10, n01, Nat.lt_irrefl, Nat.not_lt_zero, ne_eq, Nat.add_zero, Nat.one_ne_zero, Nat.zero_ne_one, Nat.reduceEqDiff, bI_T, bI_F, bI_0, bI_1, bI_01, not_and_self, true_and, and_true, not_true_eq_false, not_false_eq_true, false_imp_iff, true_imp_iff, imp_self, gPv_n, gPv_i, gPv_r, gPv_0, Option.toList_some, Option.toList_none, List.singleton_append, List.cons_append, List.nil_append, List.length_nil, List.length_cons, Nat.zero_le, Nat.reduceAdd, Nat.reduceLeDiff, or_true, true_or, false_or, or_false, and_self, and_false, false_and, implies_true, Option.some.injEq, exists_eq_left', nL, nI_add, nI_mul, nI_clamp, nI_ltI, nI_leI, nI_eq, nI_pos, nI_pos', Nat.reduceAdd, Nat.reduceMul, Nat.reducePow, sk_0 hv3, sr_0_0 hv3, sr_0_1 hv3, sr_0_2 hv3, sr_0_4 hv3, sr_0_7 hv3, sr_0_9 hv3, sr_0_10 hv3, sr_0_11 hv3, sr_0_12 hv3, sr_0_13 hv3, sr_0_14 hv3, sk_45 hv3, sr_45_0 hv3, sr_45_1 hv3, sr_45_2 hv3, sr_45_3 hv3, sr_45_4 hv3, sk_47 hv3, sn_47 hv3, c_72, e_72_0, e_72_1, e_72_4, e_72_5, e_72_6, e_72_9, e_72_12, e_72_13, e_72_15, e_72_18, e_72_19, e_72_22, e_72_23, e_72_24, e_72_27, e_72_28, e3, z1, z2, i12, e7]
      refine ⟨sc, _, rfl, ?_⟩
      simp (disch := omega) only [List.map_cons, List.map_nil, Value.int.injEq, gSc_r, gSc_I, c_267, e_267_0, e_267_1, e_267_2, e_267_3, n10, n01, Nat.lt_irrefl, Nat.not_lt_zero, ne_eq, Nat.add_zero, Nat.one_ne_zero, Nat.zero_ne_one, Nat.reduceEqDiff, bI_T, bI_F, bI_0, bI_1, bI_01, not_and_self, true_and, and_true, not_true_eq_false, not_false_eq_true, false_imp_iff, true_imp_iff, imp_self, gPv_n, gPv_i, gPv_r, gPv_0, Option.toList_some, Option.toList_none, List.singleton_append, List.cons_append, List.nil_append, List.length_nil, List.length_cons, Nat.zero_le, Nat.reduceAdd, Nat.reduceLeDiff, or_true, true_or, false_or, or_false, and_self, and_false, false_and, implies_true, Option.some.injEq, exists_eq_left', nL, sk_54 hv3, sr_54_2 hv3, sr_54_3 hv3, sr_54_4 hv3, sr_54_5 hv3, sr_54_7 hv3, sr_54_8 hv3, sr_54_9 hv3, sr_54_12 hv3, sr_54_13 hv3, sr_54_14 hv3, sr_54_22 hv3, sr_54_25 hv3, sr_54_26 hv3, sr_54_27 hv3, sr_54_34 hv3, sr_54_35 hv3, sr_54_36 hv3, sr_54_37 hv3, sr_54_38 hv3, sr_54_40 hv3, sr_54_43 hv3, sr_54_44 hv3, sr_54_45 hv3, sr_54_46 hv3, sr_54_47 hv3]
      refine t_round (d := 928) XT hmT q30 q32 ?_ ?_
      · intro τ4 hq no
        exact absurd hK (no h b e1 e2)
      · intro τ4 h' b' hq f1 f2 hK' hL hT
        rw [e1, nI_eq (by have := hK.1; omega) (by have := hK'.1; omega)] at f1
        rw [e2, nI_eq (by omega) (by have := hK'.2.1; omega)] at f2
        subst f1
        subst f2
        have X4 := QM_X XT hq
        have nn : ¬ nI (lrA (gI σ (gB G + 56)) h b h) = -nI 1 := fun z => ng_ne 1 _ (by omega) (by omega) (by have := hK.2.2.2.2; omega) z.symm
        rw [e1, e2]
        simp (disch := omega) only [e_267_6, e_267_7, e_267_10, e_267_11, e_267_12, e_267_13, e_267_16, e_267_17, e_267_18, e_267_21, e_267_24, e_267_25, e_267_26, e_267_27, e_267_29, e_267_30, e_267_32, e_267_33, n10, n01, Nat.lt_irrefl, Nat.not_lt_zero, ne_eq, Nat.add_zero, Nat.one_ne_zero, Nat.zero_ne_one, Nat.reduceEqDiff, bI_T, bI_F, bI_0, bI_1, bI_01, not_and_self, true_and, and_true, not_true_eq_false, not_false_eq_true, false_imp_iff, true_imp_iff, imp_self, gPv_n, gPv_i, gPv_r, gPv_0, Option.toList_some, Option.toList_none, List.singleton_append, List.cons_append, List.nil_append, List.length_nil, List.length_cons, Nat.zero_le, Nat.reduceAdd, Nat.reduceLeDiff, or_true, true_or, false_or, or_false, and_self, and_false, false_and, implies_true, Option.some.injEq, exists_eq_left', nL, nI_add, nI_mul, nI_clamp, nI_ltI, nI_leI, nI_eq, nI_pos, nI_pos', Nat.reduceAdd, Nat.reduceMul, Nat.reducePow, nn, t_ones, t_lies, pcn, le_sub1, hi1]
        exact t_st2 (d := 998) X4 hL hT i12 (i + 1) 0 b h _ (by omega) hK.1 bl (by
          refine Nat.eq_of_testBit_eq (fun j => ?_)
          rw [tb_ad]
          simp) (fun _ => hK.2.2.2.2) (by omega) ⟨rfl, fin τ4 (Or.inr hq)⟩
    · have ng : p2 < nI 0 ∨ nI s' ≤ p2 := by
        by_cases c : p2 < nI 0
        · exact Or.inl c
        · refine Or.inr ?_
          by_cases c2 : p2 < nI s'
          · exact absurd ⟨Int32.not_lt.mp c, c2⟩ hi
          · exact Int32.not_lt.mp c2
      have fm : (gSc (gb G) σ τ3 ∧ gK τ3 (gB G + 54) = 13) ∧ ∃ v : Int32, Value.int (-nI 1) = Value.int v ∧ wc 1000 267 [.ref (gB G + 54), .int p0, .int p1, .int p2] τ3 (fun r2 σ2 => r2 = some (.int v) ∧ Inv LSx CV MVx G σ2 (k + 1)) := by
        refine ⟨sc, _, rfl, ?_⟩
        simp (disch := omega) only [List.map_cons, List.map_nil, Value.int.injEq, gSc_r, gSc_I, c_267, e_267_0, e_267_1, e_267_2, e_267_3, n10, n01, Nat.lt_irrefl, Nat.not_lt_zero, ne_eq, Nat.add_zero, Nat.one_ne_zero, Nat.zero_ne_one, Nat.reduceEqDiff, bI_T, bI_F, bI_0, bI_1, bI_01, not_and_self, true_and, and_true, not_true_eq_false, not_false_eq_true, false_imp_iff, true_imp_iff, imp_self, gPv_n, gPv_i, gPv_r, gPv_0, Option.toList_some, Option.toList_none, List.singleton_append, List.cons_append, List.nil_append, List.length_nil, List.length_cons, Nat.zero_le, Nat.reduceAdd, Nat.reduceLeDiff, or_true, true_or, false_or, or_false, and_self, and_false, false_and, implies_true, Option.some.injEq, exists_eq_left', nL, sk_54 hv3, sr_54_2 hv3, sr_54_3 hv3, sr_54_4 hv3, sr_54_5 hv3, sr_54_7 hv3, sr_54_8 hv3, sr_54_9 hv3, sr_54_12 hv3, sr_54_13 hv3, sr_54_14 hv3, sr_54_22 hv3, sr_54_25 hv3, sr_54_26 hv3, sr_54_27 hv3, sr_54_34 hv3, sr_54_35 hv3, sr_54_36 hv3, sr_54_37 hv3, sr_54_38 hv3, sr_54_40 hv3, sr_54_43 hv3, sr_54_44 hv3, sr_54_45 hv3, sr_54_46 hv3, sr_54_47 hv3]
        refine t_round (d := 928) XT hmT q30 q32 ?_ ?_
        · intro τ4 hq no
          exact absurd hK (no h b e1 e2)
        · intro τ4 h' b' hq f1 f2 hK' hL hT
          rw [e1, nI_eq (by have := hK.1; omega) (by have := hK'.1; omega)] at f1
          rw [e2, nI_eq (by omega) (by have := hK'.2.1; omega)] at f2
          subst f1
          subst f2
          have nn : ¬ nI (lrA (gI σ (gB G + 56)) h b h) = -nI 1 := fun z => ng_ne 1 _ (by omega) (by omega) (by have := hK.2.2.2.2; omega) z.symm
          rw [e1, e2]
          simp (disch := omega) only [e_267_6, e_267_7, e_267_10, e_267_11, e_267_12, e_267_13, e_267_16, e_267_17, e_267_18, e_267_21, e_267_24, e_267_25, n10, n01, Nat.lt_irrefl, Nat.not_lt_zero, ne_eq, Nat.add_zero, Nat.one_ne_zero, Nat.zero_ne_one, Nat.reduceEqDiff, bI_T, bI_F, bI_0, bI_1, bI_01, not_and_self, true_and, and_true, not_true_eq_false, not_false_eq_true, false_imp_iff, true_imp_iff, imp_self, gPv_n, gPv_i, gPv_r, gPv_0, Option.toList_some, Option.toList_none, List.singleton_append, List.cons_append, List.nil_append, List.length_nil, List.length_cons, Nat.zero_le, Nat.reduceAdd, Nat.reduceLeDiff, or_true, true_or, false_or, or_false, and_self, and_false, false_and, implies_true, Option.some.injEq, exists_eq_left', nL, nn, t_ones, t_lies, pcn, le_sub1, hi]
          exact fin τ4 (Or.inr hq)
      by_cases c : p2 < nI 0
      · simp (disch := omega) only [e_146_23, e_146_26, e_146_27, e_146_30, e_146_31, e_146_34, e_146_37, e_146_38, n10, n01, Nat.lt_irrefl, Nat.not_lt_zero, ne_eq, Nat.add_zero, Nat.one_ne_zero, Nat.zero_ne_one, Nat.reduceEqDiff, bI_T, bI_F, bI_0, bI_1, bI_01, not_and_self, true_and, and_true, not_true_eq_false, not_false_eq_true, false_imp_iff, true_imp_iff, imp_self, gPv_n, gPv_i, gPv_r, gPv_0, Option.toList_some, Option.toList_none, List.singleton_append, List.cons_append, List.nil_append, List.length_nil, List.length_cons, Nat.zero_le, Nat.reduceAdd, Nat.reduceLeDiff, or_true, true_or, false_or, or_false, and_self, and_false, false_and, implies_true, Option.some.injEq, exists_eq_left', nL, nI_eq, sk_0 hv3, sr_0_0 hv3, sr_0_1 hv3, sr_0_2 hv3, sr_0_4 hv3, sr_0_7 hv3, sr_0_9 hv3, sr_0_10 hv3, sr_0_11 hv3, sr_0_12 hv3, sr_0_13 hv3, sr_0_14 hv3, sk_45 hv3, sr_45_0 hv3, sr_45_1 hv3, sr_45_2 hv3, sr_45_3 hv3, sr_45_4 hv3, c_72, e_72_0, e_72_1, e_72_27, e_72_28, c]
        exact fm
      · have c2 : nI s' ≤ p2 := ng.resolve_left c
        simp (disch := omega) only [e_146_23, e_146_26, e_146_27, e_146_30, e_146_31, e_146_34, e_146_37, e_146_38, n10, n01, Nat.lt_irrefl, Nat.not_lt_zero, ne_eq, Nat.add_zero, Nat.one_ne_zero, Nat.zero_ne_one, Nat.reduceEqDiff, bI_T, bI_F, bI_0, bI_1, bI_01, not_and_self, true_and, and_true, not_true_eq_false, not_false_eq_true, false_imp_iff, true_imp_iff, imp_self, gPv_n, gPv_i, gPv_r, gPv_0, Option.toList_some, Option.toList_none, List.singleton_append, List.cons_append, List.nil_append, List.length_nil, List.length_cons, Nat.zero_le, Nat.reduceAdd, Nat.reduceLeDiff, or_true, true_or, false_or, or_false, and_self, and_false, false_and, implies_true, Option.some.injEq, exists_eq_left', nL, nI_eq, sk_0 hv3, sr_0_0 hv3, sr_0_1 hv3, sr_0_2 hv3, sr_0_4 hv3, sr_0_7 hv3, sr_0_9 hv3, sr_0_10 hv3, sr_0_11 hv3, sr_0_12 hv3, sr_0_13 hv3, sr_0_14 hv3, sk_45 hv3, sr_45_0 hv3, sr_45_1 hv3, sr_45_2 hv3, sr_45_3 hv3, sr_45_4 hv3, c_72, e_72_0, e_72_1, e_72_4, e_72_5, e_72_6, e_72_9, e_72_27, e_72_28, c, e3, c2]
        exact fm
end
