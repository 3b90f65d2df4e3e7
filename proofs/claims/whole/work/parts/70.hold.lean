/-! holders -/
def EdG (A : Nat → Int32) (E : Nat → Nat) : Prop := (∀ h, E h < 4096) ∧ (∀ h, hn A ≤ h → E h = 0) ∧ ∀ h j, (E h).testBit j = true → (mkN (St A) (hn A)).testBit j = true
theorem EdG_o {A : Nat → Int32} {dy : Int32} (wh : Wh A) : EdG A (opn A dy) := ⟨fun _ => opn_lt wh, fun _ h => opn_0 h, fun _ _ h => opn_s h⟩
/-- one comes from f to t without some -/
def cmB (A : Nat → Int32) (E : Nat → Nat) (f t wo : Nat) : Bool := St A f && (rc (fun h => ad (E h) wo) (hn A) (ad (2 ^ f) wo)).testBit t
theorem ad_z (a : Nat) : ad a 0 = a := by
  refine Nat.eq_of_testBit_eq ?_
  intro j
  rw [tb_ad]
  simp
theorem rc_z {F : Nat → Nat} {n : Nat} (j : Nat) : (rc F n 0).testBit j = false := by
  cases h : (rc F n 0).testBit j
  · rfl
  · exact (rc_min (C := fun _ => False) (fun _ _ z => z.elim) (fun j hj => by simp at hj) h).elim
section
variable {B : Nat} {own : Nat → Nat} {σ : gS} {A : Nat → Int32} {d : Nat} {Q : Option Value → gS → Prop} {E : Nat → Nat}
theorem cm_rc {f t wo : Nat} (wh : Wh A) (hE : EdG A E) (hf : f < hn A) : (rc (fun h => E h &&& ad (mkN (St A) (hn A)) wo) 12 (2 ^ f &&& ad (mkN (St A) (hn A)) wo)).testBit t = cmB A E f t wo := by
  cases hs : St A f
  · have e : 2 ^ f &&& ad (mkN (St A) (hn A)) wo = 0 := by
      refine Nat.eq_of_testBit_eq ?_
      intro j
      rw [Nat.testBit_and, tb_ad, Nat.testBit_two_pow, tb_mk]
      by_cases hj : f = j
      · subst hj; simp [hs]
      · simp [hj]
    rw [e, rc_z, cmB, hs, Bool.false_and]
  · rw [rc_cm wh hE.1 hE.2.1 hE.2.2 hf hs, cmB, hs, Bool.true_and]
theorem s_meets {r f t wo : Nat} (wh : Wh A) (hE : EdG A E) (hk : gK σ r = 21) (hN : gN σ r = 12) (hr : ∀ h, h < 12 → gI σ r h = nI (E h)) (hf : f < hn A) (ht : t < 12) : wc (d + 4) 8 [.ref r, .int (nI f), .int (nI t), .int (nI (ad (mkN (St A) (hn A)) wo))] σ Q ↔ Q (some (.int (bI (cmB A E f t wo = true)))) σ := by
  have h12 := hn_le wh
  have hM : ad (mkN (St A) (hn A)) wo < 4096 := ad_lt (mk_lt12 h12)
  have hS : 2 ^ f &&& ad (mkN (St A) (hn A)) wo < 4096 := Nat.and_lt_two_pow (n := 12) _ hM
  have hrl : rc (fun h => E h &&& ad (mkN (St A) (hn A)) wo) 12 (2 ^ f &&& ad (mkN (St A) (hn A)) wo) < 4096 := rc_lt (fun h => Nat.and_lt_two_pow (n := 12) _ hM) hS
  have e := cm_rc (t := t) (wo := wo) wh hE hf
  cases hc : cmB A E f t wo
  · rw [hc] at e
    simp (disch := omega) only [c_8, e_8_0, e_8_1, e_8_2, e_8_3, e_8_6, e_8_7, e_8_10, e_8_11, e_8_14, e_8_15, e_8_18, e_8_19, n10, n01, Nat.lt_irrefl, Nat.not_lt_zero, ne_eq, Nat.add_zero, Nat.one_ne_zero, Nat.zero_ne_one, Nat.reduceEqDiff, bI_T, bI_F, bI_0, bI_1, bI_01, not_and_self, true_and, and_true, not_true_eq_false, not_false_eq_true, false_imp_iff, true_imp_iff, imp_self, gPv_n, gPv_i, gPv_r, gPv_0, Option.toList_some, Option.toList_none, List.singleton_append, List.cons_append, List.nil_append, List.length_nil, List.length_cons, Nat.zero_le, Nat.reduceAdd, Nat.reduceLeDiff, or_true, true_or, false_or, or_false, and_self, and_false, false_and, implies_true, Option.some.injEq, exists_eq_left', nL, nI_add, nI_mul, nI_clamp, nI_ltI, nI_leI, nI_eq, nI_pos, nI_pos', Nat.reduceAdd, Nat.reduceMul, Nat.reducePow, s_reach hk hN hr hE.1 hM (show f < 12 by omega), s_bitOf, nI_bit, e, Bool.false_eq_true]
  · rw [hc] at e
    simp (disch := omega) only [c_8, e_8_0, e_8_1, e_8_2, e_8_3, e_8_6, e_8_7, e_8_10, e_8_11, e_8_14, e_8_15, e_8_18, e_8_19, n10, n01, Nat.lt_irrefl, Nat.not_lt_zero, ne_eq, Nat.add_zero, Nat.one_ne_zero, Nat.zero_ne_one, Nat.reduceEqDiff, bI_T, bI_F, bI_0, bI_1, bI_01, not_and_self, true_and, and_true, not_true_eq_false, not_false_eq_true, false_imp_iff, true_imp_iff, imp_self, gPv_n, gPv_i, gPv_r, gPv_0, Option.toList_some, Option.toList_none, List.singleton_append, List.cons_append, List.nil_append, List.length_nil, List.length_cons, Nat.zero_le, Nat.reduceAdd, Nat.reduceLeDiff, or_true, true_or, false_or, or_false, and_self, and_false, false_and, implies_true, Option.some.injEq, exists_eq_left', nL, nI_add, nI_mul, nI_clamp, nI_ltI, nI_leI, nI_eq, nI_pos, nI_pos', Nat.reduceAdd, Nat.reduceMul, Nat.reducePow, s_reach hk hN hr hE.1 hM (show f < 12 by omega), s_bitOf, nI_bit, e]
def hlB (A : Nat → Int32) (E : Nat → Nat) (f t h : Nat) : Bool := decide (h ≠ f ∧ h ≠ t) && !cmB A E f t (2 ^ h)
theorem s_hl {f t : Nat} (h : Ctx B own σ A) (hE : EdG A E) (hr : ∀ j, j < 12 → gI σ (B + 29) j = nI (E j)) (hf : f < hn A) (ht : t < hn A) : ∀ m i, i + m = hn A → (wp (d + 4) pr_9 Q 24 [some (.ref (B + 33)), some (.ref (B + 29)), some (.int (nI f)), some (.int (nI t)), some (.int (nI (mkN (hlB A E f t) i))), some (.int (nI i))] [] σ ↔ Q (some (.int (nI (mkN (hlB A E f t) (hn A))))) σ) := by
  have hv := h.1
  obtain ⟨⟨wh, w2, w3, w4, w5⟩, ⟨t1, t2, t3, t4, t5⟩, lw⟩ := h.2.1
  have h12 := hn_le wh
  have hn2 := hn_eq wh
  have e5 : gI σ (B + 1) 5 = A 250 := t1.1
  have e6 : gI σ (B + 1) 6 = nI (mkN (St A) (hn A)) := t1.2.1
  have ml : mkN (St A) (hn A) < 4096 := mk_lt12 h12
  intro m
  induction m with
  | zero =>
    intro i hi
    have z : hn A ≤ i := by omega
    have ei : i = hn A := by omega
    subst ei
    simp (disch := omega) only [e_9_24, e_9_26, e_9_27, e_9_30, e_9_33, e_9_86, e_9_88, n10, n01, Nat.lt_irrefl, Nat.not_lt_zero, ne_eq, Nat.add_zero, Nat.one_ne_zero, Nat.zero_ne_one, Nat.reduceEqDiff, bI_T, bI_F, bI_0, bI_1, bI_01, not_and_self, true_and, and_true, not_true_eq_false, not_false_eq_true, false_imp_iff, true_imp_iff, imp_self, gPv_n, gPv_i, gPv_r, gPv_0, Option.toList_some, Option.toList_none, List.singleton_append, List.cons_append, List.nil_append, List.length_nil, List.length_cons, Nat.zero_le, Nat.reduceAdd, Nat.reduceLeDiff, or_true, true_or, false_or, or_false, and_self, and_false, false_and, implies_true, Option.some.injEq, exists_eq_left', nL, nI_add, nI_mul, nI_clamp, nI_ltI, nI_leI, nI_eq, nI_pos, nI_pos', Nat.reduceAdd, Nat.reduceMul, Nat.reducePow, sk_1 hv, sr_1_0 hv, sr_1_1 hv, sr_1_2 hv, sr_1_3 hv, sr_1_4 hv, sr_1_7 hv, sr_1_9 hv, sr_1_14 hv, sr_1_15 hv, sr_1_16 hv, sk_33 hv, sr_33_0 hv, sr_33_1 hv, sr_33_2 hv, sr_33_3 hv, e5, hn2, Nat.le_refl]
  | succ m ih =>
    intro i hi
    have z : ¬ hn A ≤ i := by omega
    have zf : ¬ hn A ≤ f := by omega
    have zt : ¬ hn A ≤ t := by omega
    have ih := ih (i + 1) (by omega)
    rw [e_9_24]
    by_cases c1 : i = f
    · have e : hlB A E f t i = false := by simp [hlB, c1]
      have e8 : mkN (hlB A E f t) (i + 1) = mkN (hlB A E f t) i := by simp only [mkN, e, Bool.false_eq_true, if_false, Nat.or_zero]
      rw [e8] at ih
      simp (disch := omega) only [e_9_26, e_9_27, e_9_30, e_9_33, e_9_36, e_9_38, e_9_39, e_9_42, e_9_44, e_9_45, e_9_80, e_9_83, n10, n01, Nat.lt_irrefl, Nat.not_lt_zero, ne_eq, Nat.add_zero, Nat.one_ne_zero, Nat.zero_ne_one, Nat.reduceEqDiff, bI_T, bI_F, bI_0, bI_1, bI_01, not_and_self, true_and, and_true, not_true_eq_false, not_false_eq_true, false_imp_iff, true_imp_iff, imp_self, gPv_n, gPv_i, gPv_r, gPv_0, Option.toList_some, Option.toList_none, List.singleton_append, List.cons_append, List.nil_append, List.length_nil, List.length_cons, Nat.zero_le, Nat.reduceAdd, Nat.reduceLeDiff, or_true, true_or, false_or, or_false, and_self, and_false, false_and, implies_true, Option.some.injEq, exists_eq_left', nL, nI_add, nI_mul, nI_clamp, nI_ltI, nI_leI, nI_eq, nI_pos, nI_pos', Nat.reduceAdd, Nat.reduceMul, Nat.reducePow, sk_1 hv, sr_1_0 hv, sr_1_1 hv, sr_1_2 hv, sr_1_3 hv, sr_1_4 hv, sr_1_7 hv, sr_1_9 hv, sr_1_14 hv, sr_1_15 hv, sr_1_16 hv, sk_33 hv, sr_33_0 hv, sr_33_1 hv, sr_33_2 hv, sr_33_3 hv, e5, hn2, z, zf, c1]
      rw [c1] at ih
      exact ih
    · by_cases c2 : i = t
      · have e : hlB A E f t i = false := by simp [hlB, c2]
        have e8 : mkN (hlB A E f t) (i + 1) = mkN (hlB A E f t) i := by simp only [mkN, e, Bool.false_eq_true, if_false, Nat.or_zero]
        rw [e8] at ih
        have c1' : ¬ t = f := by rw [← c2]; exact c1
        simp (disch := omega) only [e_9_26, e_9_27, e_9_30, e_9_33, e_9_36, e_9_38, e_9_39, e_9_42, e_9_44, e_9_45, e_9_80, e_9_83, n10, n01, Nat.lt_irrefl, Nat.not_lt_zero, ne_eq, Nat.add_zero, Nat.one_ne_zero, Nat.zero_ne_one, Nat.reduceEqDiff, bI_T, bI_F, bI_0, bI_1, bI_01, not_and_self, true_and, and_true, not_true_eq_false, not_false_eq_true, false_imp_iff, true_imp_iff, imp_self, gPv_n, gPv_i, gPv_r, gPv_0, Option.toList_some, Option.toList_none, List.singleton_append, List.cons_append, List.nil_append, List.length_nil, List.length_cons, Nat.zero_le, Nat.reduceAdd, Nat.reduceLeDiff, or_true, true_or, false_or, or_false, and_self, and_false, false_and, implies_true, Option.some.injEq, exists_eq_left', nL, nI_add, nI_mul, nI_clamp, nI_ltI, nI_leI, nI_eq, nI_pos, nI_pos', Nat.reduceAdd, Nat.reduceMul, Nat.reducePow, sk_1 hv, sr_1_0 hv, sr_1_1 hv, sr_1_2 hv, sr_1_3 hv, sr_1_4 hv, sr_1_7 hv, sr_1_9 hv, sr_1_14 hv, sr_1_15 hv, sr_1_16 hv, sk_33 hv, sr_33_0 hv, sr_33_1 hv, sr_33_2 hv, sr_33_3 hv, e5, hn2, z, zt, c2, c1']
        rw [c2] at ih
        exact ih
      · cases hc : cmB A E f t (2 ^ i)
        · have e : hlB A E f t i = true := by simp [hlB, c1, c2, hc]
          have e8 : mkN (hlB A E f t) (i + 1) = mkN (hlB A E f t) i ||| 2 ^ i := by simp only [mkN, e, if_true]
          rw [e8] at ih
          simp (disch := omega) only [e_9_26, e_9_27, e_9_30, e_9_33, e_9_36, e_9_38, e_9_39, e_9_42, e_9_44, e_9_45, e_9_48, e_9_48n, e_9_49, e_9_50, e_9_51, e_9_52, e_9_55, e_9_58, e_9_59, e_9_61, e_9_62, e_9_63, e_9_64, e_9_65, e_9_68, e_9_71, e_9_73, e_9_74, e_9_76, e_9_77, e_9_78, e_9_80, e_9_83, n10, n01, Nat.lt_irrefl, Nat.not_lt_zero, ne_eq, Nat.add_zero, Nat.one_ne_zero, Nat.zero_ne_one, Nat.reduceEqDiff, bI_T, bI_F, bI_0, bI_1, bI_01, not_and_self, true_and, and_true, not_true_eq_false, not_false_eq_true, false_imp_iff, true_imp_iff, imp_self, gPv_n, gPv_i, gPv_r, gPv_0, Option.toList_some, Option.toList_none, List.singleton_append, List.cons_append, List.nil_append, List.length_nil, List.length_cons, Nat.zero_le, Nat.reduceAdd, Nat.reduceLeDiff, or_true, true_or, false_or, or_false, and_self, and_false, false_and, implies_true, Option.some.injEq, exists_eq_left', nL, nI_add, nI_mul, nI_clamp, nI_ltI, nI_leI, nI_eq, nI_pos, nI_pos', Nat.reduceAdd, Nat.reduceMul, Nat.reducePow, sk_1 hv, sr_1_0 hv, sr_1_1 hv, sr_1_2 hv, sr_1_3 hv, sr_1_4 hv, sr_1_7 hv, sr_1_9 hv, sr_1_14 hv, sr_1_15 hv, sr_1_16 hv, sk_33 hv, sr_33_0 hv, sr_33_1 hv, sr_33_2 hv, sr_33_3 hv, e5, e6, hn2, z, c1, c2, nI_shl, Nat.one_mul, nI_ad, s_meets wh hE (sk_29 hv) (sn_29 hv) hr hf (show t < 12 by omega), hc, Bool.false_eq_true, nI_or]
          exact ih
        · have e : hlB A E f t i = false := by simp [hlB, hc]
          have e8 : mkN (hlB A E f t) (i + 1) = mkN (hlB A E f t) i := by simp only [mkN, e, Bool.false_eq_true, if_false, Nat.or_zero]
          rw [e8] at ih
          simp (disch := omega) only [e_9_26, e_9_27, e_9_30, e_9_33, e_9_36, e_9_38, e_9_39, e_9_42, e_9_44, e_9_45, e_9_48, e_9_48n, e_9_49, e_9_50, e_9_51, e_9_52, e_9_55, e_9_58, e_9_59, e_9_61, e_9_62, e_9_63, e_9_64, e_9_65, e_9_68, e_9_80, e_9_83, n10, n01, Nat.lt_irrefl, Nat.not_lt_zero, ne_eq, Nat.add_zero, Nat.one_ne_zero, Nat.zero_ne_one, Nat.reduceEqDiff, bI_T, bI_F, bI_0, bI_1, bI_01, not_and_self, true_and, and_true, not_true_eq_false, not_false_eq_true, false_imp_iff, true_imp_iff, imp_self, gPv_n, gPv_i, gPv_r, gPv_0, Option.toList_some, Option.toList_none, List.singleton_append, List.cons_append, List.nil_append, List.length_nil, List.length_cons, Nat.zero_le, Nat.reduceAdd, Nat.reduceLeDiff, or_true, true_or, false_or, or_false, and_self, and_false, false_and, implies_true, Option.some.injEq, exists_eq_left', nL, nI_add, nI_mul, nI_clamp, nI_ltI, nI_leI, nI_eq, nI_pos, nI_pos', Nat.reduceAdd, Nat.reduceMul, Nat.reducePow, sk_1 hv, sr_1_0 hv, sr_1_1 hv, sr_1_2 hv, sr_1_3 hv, sr_1_4 hv, sr_1_7 hv, sr_1_9 hv, sr_1_14 hv, sr_1_15 hv, sr_1_16 hv, sk_33 hv, sr_33_0 hv, sr_33_1 hv, sr_33_2 hv, sr_33_3 hv, e5, e6, hn2, z, c1, c2, nI_shl, Nat.one_mul, nI_ad, s_meets wh hE (sk_29 hv) (sn_29 hv) hr hf (show t < 12 by omega), hc]
          exact ih
theorem s_holders {f t : Nat} (h : Ctx B own σ A) (hE : EdG A E) (hr : ∀ j, j < 12 → gI σ (B + 29) j = nI (E j)) (hf : f < hn A) (ht : t < hn A) : wc (d + 5) 9 [.ref (B + 33), .ref (B + 29), .int (nI f), .int (nI t)] σ Q ↔ Q (some (.int (if cmB A E f t 0 = true then nI (mkN (hlB A E f t) (hn A)) else -nI 1))) σ := by
  have hv := h.1
  obtain ⟨⟨wh, w2, w3, w4, w5⟩, ⟨t1, t2, t3, t4, t5⟩, lw⟩ := h.2.1
  have h12 := hn_le wh
  have e6 : gI σ (B + 1) 6 = nI (ad (mkN (St A) (hn A)) 0) := by rw [ad_z]; exact t1.2.1
  cases hc : cmB A E f t 0
  · simp (disch := omega) only [c_9, e_9_0, e_9_0n, e_9_1, e_9_2, e_9_3, e_9_4, e_9_7, e_9_10, e_9_13, e_9_16, e_9_17, n10, n01, Nat.lt_irrefl, Nat.not_lt_zero, ne_eq, Nat.add_zero, Nat.one_ne_zero, Nat.zero_ne_one, Nat.reduceEqDiff, bI_T, bI_F, bI_0, bI_1, bI_01, not_and_self, true_and, and_true, not_true_eq_false, not_false_eq_true, false_imp_iff, true_imp_iff, imp_self, gPv_n, gPv_i, gPv_r, gPv_0, Option.toList_some, Option.toList_none, List.singleton_append, List.cons_append, List.nil_append, List.length_nil, List.length_cons, Nat.zero_le, Nat.reduceAdd, Nat.reduceLeDiff, or_true, true_or, false_or, or_false, and_self, and_false, false_and, implies_true, Option.some.injEq, exists_eq_left', nL, nI_add, nI_mul, nI_clamp, nI_ltI, nI_leI, nI_eq, nI_pos, nI_pos', Nat.reduceAdd, Nat.reduceMul, Nat.reducePow, sk_1 hv, sr_1_0 hv, sr_1_1 hv, sr_1_2 hv, sr_1_3 hv, sr_1_4 hv, sr_1_7 hv, sr_1_9 hv, sr_1_14 hv, sr_1_15 hv, sr_1_16 hv, sk_33 hv, sr_33_0 hv, sr_33_1 hv, sr_33_2 hv, sr_33_3 hv, e6, s_meets wh hE (sk_29 hv) (sn_29 hv) hr hf (show t < 12 by omega), hc, Bool.false_eq_true, if_false]
  · simp (disch := omega) only [c_9, e_9_0, e_9_0n, e_9_1, e_9_2, e_9_3, e_9_4, e_9_7, e_9_10, e_9_13, e_9_16, e_9_17, e_9_18, e_9_19, e_9_21, e_9_22, n10, n01, Nat.lt_irrefl, Nat.not_lt_zero, ne_eq, Nat.add_zero, Nat.one_ne_zero, Nat.zero_ne_one, Nat.reduceEqDiff, bI_T, bI_F, bI_0, bI_1, bI_01, not_and_self, true_and, and_true, not_true_eq_false, not_false_eq_true, false_imp_iff, true_imp_iff, imp_self, gPv_n, gPv_i, gPv_r, gPv_0, Option.toList_some, Option.toList_none, List.singleton_append, List.cons_append, List.nil_append, List.length_nil, List.length_cons, Nat.zero_le, Nat.reduceAdd, Nat.reduceLeDiff, or_true, true_or, false_or, or_false, and_self, and_false, false_and, implies_true, Option.some.injEq, exists_eq_left', nL, nI_add, nI_mul, nI_clamp, nI_ltI, nI_leI, nI_eq, nI_pos, nI_pos', Nat.reduceAdd, Nat.reduceMul, Nat.reducePow, sk_1 hv, sr_1_0 hv, sr_1_1 hv, sr_1_2 hv, sr_1_3 hv, sr_1_4 hv, sr_1_7 hv, sr_1_9 hv, sr_1_14 hv, sr_1_15 hv, sr_1_16 hv, sk_33 hv, sr_33_0 hv, sr_33_1 hv, sr_33_2 hv, sr_33_3 hv, e6, s_meets wh hE (sk_29 hv) (sn_29 hv) hr hf (show t < 12 by omega), hc, if_true]
    exact s_hl h hE hr hf ht (hn A) 0 (by omega)
theorem t_hl {f t : Nat} (X : MX B σ A) (hN : NX B σ (hn A) E) (hE : ∀ h, E h < 4096) (hf : f < hn A) (ht : t < hn A) : ∀ m i, i + m = hn A → (wp (d + 5) pr_247 Q 44 [some (.ref (B + 54)), some (.int (nI f)), some (.int (nI t)), some (.int (nI (mkN (hlB A E f t) i))), some (.int (nI i))] [] σ ↔ Q (some (.int (nI (mkN (hlB A E f t) (hn A))))) σ) := by
  obtain ⟨hv, hA, wh, wd, wl⟩ := id X
  have h12 := hn_le wh
  have hn2 := hn_eq wh
  have tc : ∀ (wo d : Nat) (Q : Option Value → gS → Prop), wc (d + 5) 240 [.ref (B + 54), .int (nI f), .int (nI t), .int (nI wo)] σ Q ↔ Q (some (.int (bI (cmB A E f t wo = true)))) σ := fun wo d Q => t_come X hN hE (by omega) (by omega)
  intro m
  induction m with
  | zero =>
    intro i hi
    have ei : i = hn A := by omega
    subst ei
    simp (disch := omega) only [e_247_44, e_247_46, e_247_47, e_247_50, e_247_95, e_247_96, n10, n01, Nat.lt_irrefl, Nat.not_lt_zero, ne_eq, Nat.add_zero, Nat.one_ne_zero, Nat.zero_ne_one, Nat.reduceEqDiff, bI_T, bI_F, bI_0, bI_1, bI_01, not_and_self, true_and, and_true, not_true_eq_false, not_false_eq_true, false_imp_iff, true_imp_iff, imp_self, gPv_n, gPv_i, gPv_r, gPv_0, Option.toList_some, Option.toList_none, List.singleton_append, List.cons_append, List.nil_append, List.length_nil, List.length_cons, Nat.zero_le, Nat.reduceAdd, Nat.reduceLeDiff, or_true, true_or, false_or, or_false, and_self, and_false, false_and, implies_true, Option.some.injEq, exists_eq_left', nL, nI_add, nI_mul, nI_clamp, nI_ltI, nI_leI, nI_eq, nI_pos, nI_pos', Nat.reduceAdd, Nat.reduceMul, Nat.reducePow, sk_54 hv, sr_54_2 hv, sr_54_3 hv, sr_54_4 hv, sr_54_5 hv, sr_54_7 hv, sr_54_8 hv, sr_54_9 hv, sr_54_12 hv, sr_54_13 hv, sr_54_14 hv, sr_54_22 hv, sr_54_25 hv, sr_54_26 hv, sr_54_27 hv, sr_54_34 hv, sr_54_35 hv, sr_54_36 hv, sr_54_37 hv, sr_54_38 hv, sr_54_40 hv, sr_54_43 hv, sr_54_44 hv, sr_54_45 hv, sr_54_46 hv, sr_54_47 hv, t_houses hv, hA, hn2, Nat.le_refl]
  | succ m ih =>
    intro i hi
    have z : ¬ hn A ≤ i := by omega
    have zf : ¬ hn A ≤ f := by omega
    have zt : ¬ hn A ≤ t := by omega
    have ih := ih (i + 1) (by omega)
    rw [e_247_44]
    by_cases c1 : i = f
    · have e : hlB A E f t i = false := by simp [hlB, c1]
      have e8 : mkN (hlB A E f t) (i + 1) = mkN (hlB A E f t) i ||| 0 := by simp only [mkN, e, Bool.false_eq_true, if_false]
      rw [e8] at ih
      simp (disch := omega) only [e_247_46, e_247_47, e_247_50, e_247_53, e_247_54, e_247_56, e_247_57, e_247_60, e_247_62, e_247_63, e_247_86, e_247_87, e_247_88, e_247_89, e_247_92, n10, n01, Nat.lt_irrefl, Nat.not_lt_zero, ne_eq, Nat.add_zero, Nat.one_ne_zero, Nat.zero_ne_one, Nat.reduceEqDiff, bI_T, bI_F, bI_0, bI_1, bI_01, not_and_self, true_and, and_true, not_true_eq_false, not_false_eq_true, false_imp_iff, true_imp_iff, imp_self, gPv_n, gPv_i, gPv_r, gPv_0, Option.toList_some, Option.toList_none, List.singleton_append, List.cons_append, List.nil_append, List.length_nil, List.length_cons, Nat.zero_le, Nat.reduceAdd, Nat.reduceLeDiff, or_true, true_or, false_or, or_false, and_self, and_false, false_and, implies_true, Option.some.injEq, exists_eq_left', nL, nI_add, nI_mul, nI_clamp, nI_ltI, nI_leI, nI_eq, nI_pos, nI_pos', Nat.reduceAdd, Nat.reduceMul, Nat.reducePow, sk_54 hv, sr_54_2 hv, sr_54_3 hv, sr_54_4 hv, sr_54_5 hv, sr_54_7 hv, sr_54_8 hv, sr_54_9 hv, sr_54_12 hv, sr_54_13 hv, sr_54_14 hv, sr_54_22 hv, sr_54_25 hv, sr_54_26 hv, sr_54_27 hv, sr_54_34 hv, sr_54_35 hv, sr_54_36 hv, sr_54_37 hv, sr_54_38 hv, sr_54_40 hv, sr_54_43 hv, sr_54_44 hv, sr_54_45 hv, sr_54_46 hv, sr_54_47 hv, t_houses hv, hA, hn2, z, zf, c1, nI_or]
      rw [c1] at ih
      exact ih
    · by_cases c2 : i = t
      · have e : hlB A E f t i = false := by simp [hlB, c2]
        have e8 : mkN (hlB A E f t) (i + 1) = mkN (hlB A E f t) i ||| 0 := by simp only [mkN, e, Bool.false_eq_true, if_false]
        rw [e8] at ih
        have c1' : ¬ t = f := by rw [← c2]; exact c1
        simp (disch := omega) only [e_247_46, e_247_47, e_247_50, e_247_53, e_247_54, e_247_56, e_247_57, e_247_60, e_247_62, e_247_63, e_247_86, e_247_87, e_247_88, e_247_89, e_247_92, n10, n01, Nat.lt_irrefl, Nat.not_lt_zero, ne_eq, Nat.add_zero, Nat.one_ne_zero, Nat.zero_ne_one, Nat.reduceEqDiff, bI_T, bI_F, bI_0, bI_1, bI_01, not_and_self, true_and, and_true, not_true_eq_false, not_false_eq_true, false_imp_iff, true_imp_iff, imp_self, gPv_n, gPv_i, gPv_r, gPv_0, Option.toList_some, Option.toList_none, List.singleton_append, List.cons_append, List.nil_append, List.length_nil, List.length_cons, Nat.zero_le, Nat.reduceAdd, Nat.reduceLeDiff, or_true, true_or, false_or, or_false, and_self, and_false, false_and, implies_true, Option.some.injEq, exists_eq_left', nL, nI_add, nI_mul, nI_clamp, nI_ltI, nI_leI, nI_eq, nI_pos, nI_pos', Nat.reduceAdd, Nat.reduceMul, Nat.reducePow, sk_54 hv, sr_54_2 hv, sr_54_3 hv, sr_54_4 hv, sr_54_5 hv, sr_54_7 hv, sr_54_8 hv, sr_54_9 hv, sr_54_12 hv, sr_54_13 hv, sr_54_14 hv, sr_54_22 hv, sr_54_25 hv, sr_54_26 hv, sr_54_27 hv, sr_54_34 hv, sr_54_35 hv, sr_54_36 hv, sr_54_37 hv, sr_54_38 hv, sr_54_40 hv, sr_54_43 hv, sr_54_44 hv, sr_54_45 hv, sr_54_46 hv, sr_54_47 hv, t_houses hv, hA, hn2, z, zt, c2, c1', nI_or]
        rw [c2] at ih
        exact ih
      · cases hc : cmB A E f t (2 ^ i)
        · have e : hlB A E f t i = true := by simp [hlB, c1, c2, hc]
          have e8 : mkN (hlB A E f t) (i + 1) = mkN (hlB A E f t) i ||| 2 ^ i := by simp only [mkN, e, if_true]
          rw [e8] at ih
          simp (disch := omega) only [e_247_46, e_247_47, e_247_50, e_247_53, e_247_54, e_247_56, e_247_57, e_247_60, e_247_62, e_247_63, e_247_66, e_247_67, e_247_68, e_247_69, e_247_70, e_247_72, e_247_73, e_247_76, e_247_79, e_247_80, e_247_82, e_247_83, e_247_86, e_247_87, e_247_88, e_247_89, e_247_92, n10, n01, Nat.lt_irrefl, Nat.not_lt_zero, ne_eq, Nat.add_zero, Nat.one_ne_zero, Nat.zero_ne_one, Nat.reduceEqDiff, bI_T, bI_F, bI_0, bI_1, bI_01, not_and_self, true_and, and_true, not_true_eq_false, not_false_eq_true, false_imp_iff, true_imp_iff, imp_self, gPv_n, gPv_i, gPv_r, gPv_0, Option.toList_some, Option.toList_none, List.singleton_append, List.cons_append, List.nil_append, List.length_nil, List.length_cons, Nat.zero_le, Nat.reduceAdd, Nat.reduceLeDiff, or_true, true_or, false_or, or_false, and_self, and_false, false_and, implies_true, Option.some.injEq, exists_eq_left', nL, nI_add, nI_mul, nI_clamp, nI_ltI, nI_leI, nI_eq, nI_pos, nI_pos', Nat.reduceAdd, Nat.reduceMul, Nat.reducePow, sk_54 hv, sr_54_2 hv, sr_54_3 hv, sr_54_4 hv, sr_54_5 hv, sr_54_7 hv, sr_54_8 hv, sr_54_9 hv, sr_54_12 hv, sr_54_13 hv, sr_54_14 hv, sr_54_22 hv, sr_54_25 hv, sr_54_26 hv, sr_54_27 hv, sr_54_34 hv, sr_54_35 hv, sr_54_36 hv, sr_54_37 hv, sr_54_38 hv, sr_54_40 hv, sr_54_43 hv, sr_54_44 hv, sr_54_45 hv, sr_54_46 hv, sr_54_47 hv, t_houses hv, hA, hn2, z, c1, c2, nI_shl, Nat.one_mul, tc, hc, Bool.false_eq_true, nI_or]
          exact ih
        · have e : hlB A E f t i = false := by simp [hlB, hc]
          have e8 : mkN (hlB A E f t) (i + 1) = mkN (hlB A E f t) i ||| 0 := by simp only [mkN, e, Bool.false_eq_true, if_false]
          rw [e8] at ih
          simp (disch := omega) only [e_247_46, e_247_47, e_247_50, e_247_53, e_247_54, e_247_56, e_247_57, e_247_60, e_247_62, e_247_63, e_247_66, e_247_67, e_247_68, e_247_69, e_247_70, e_247_72, e_247_73, e_247_76, e_247_86, e_247_87, e_247_88, e_247_89, e_247_92, n10, n01, Nat.lt_irrefl, Nat.not_lt_zero, ne_eq, Nat.add_zero, Nat.one_ne_zero, Nat.zero_ne_one, Nat.reduceEqDiff, bI_T, bI_F, bI_0, bI_1, bI_01, not_and_self, true_and, and_true, not_true_eq_false, not_false_eq_true, false_imp_iff, true_imp_iff, imp_self, gPv_n, gPv_i, gPv_r, gPv_0, Option.toList_some, Option.toList_none, List.singleton_append, List.cons_append, List.nil_append, List.length_nil, List.length_cons, Nat.zero_le, Nat.reduceAdd, Nat.reduceLeDiff, or_true, true_or, false_or, or_false, and_self, and_false, false_and, implies_true, Option.some.injEq, exists_eq_left', nL, nI_add, nI_mul, nI_clamp, nI_ltI, nI_leI, nI_eq, nI_pos, nI_pos', Nat.reduceAdd, Nat.reduceMul, Nat.reducePow, sk_54 hv, sr_54_2 hv, sr_54_3 hv, sr_54_4 hv, sr_54_5 hv, sr_54_7 hv, sr_54_8 hv, sr_54_9 hv, sr_54_12 hv, sr_54_13 hv, sr_54_14 hv, sr_54_22 hv, sr_54_25 hv, sr_54_26 hv, sr_54_27 hv, sr_54_34 hv, sr_54_35 hv, sr_54_36 hv, sr_54_37 hv, sr_54_38 hv, sr_54_40 hv, sr_54_43 hv, sr_54_44 hv, sr_54_45 hv, sr_54_46 hv, sr_54_47 hv, t_houses hv, hA, hn2, z, c1, c2, nI_shl, Nat.one_mul, tc, hc, nI_or]
          exact ih
end
section
variable {CV : Nat → (Nat → Int32) → (Nat → Nat → Int32) → Prop} {G : gG}
theorem ob_holders (hcv : CVl CV) : gOb (Inv LSx CV MVx G) (gb G) (gB G) (gB G + 54) 135 247 2 := by
  intro σ k as hl hk hI
  obtain ⟨p0, p1, rfl⟩ := len2 hl
  have hv := Inv_Sh hI
  have hb := Inv_b hI
  obtain ⟨own, cc, v, hc, ha, hX, hm⟩ := Inv_ctx hI hk
  obtain ⟨z30, z32⟩ := Inv_30 hI
  have w1 := hX.2.2.1
  have h12 := hn_le w1
  have hn2 := hn_eq w1
  have e5 := hc.2.1.2.1.1.1
  by_cases h0 : nI 0 ≤ p0 ∧ p0 < nI (hn (gI σ (gB G + 56)))
  · by_cases h1 : nI 0 ≤ p1 ∧ p1 < nI (hn (gI σ (gB G + 56)))
    · obtain ⟨a, ha1, rfl⟩ := in_lt (by omega) h0
      obtain ⟨b, hb1, rfl⟩ := in_lt (by omega) h1
      by_cases hab : a = b
      · simp (disch := first | omega | (simp only [IvS_I, IvS_J, IvS_r]; assumption)) only [List.map_cons, List.map_nil, Value.int.injEq, gSc_r, gSc_I, n10, n01, Nat.lt_irrefl, Nat.not_lt_zero, ne_eq, Nat.add_zero, Nat.one_ne_zero, Nat.zero_ne_one, Nat.reduceEqDiff, bI_T, bI_F, bI_0, bI_1, bI_01, not_and_self, true_and, and_true, not_true_eq_false, not_false_eq_true, false_imp_iff, true_imp_iff, imp_self, gPv_n, gPv_i, gPv_r, gPv_0, Option.toList_some, Option.toList_none, List.singleton_append, List.cons_append, List.nil_append, List.length_nil, List.length_cons, Nat.zero_le, Nat.reduceAdd, Nat.reduceLeDiff, or_true, true_or, false_or, or_false, and_self, and_false, false_and, implies_true, Option.some.injEq, exists_eq_left', nL, nI_add, nI_mul, nI_clamp, nI_ltI, nI_leI, nI_eq, nI_pos, nI_pos', Nat.reduceAdd, Nat.reduceMul, Nat.reducePow, c_135, e_135_0, e_135_1, e_135_4, e_135_5, e_135_6, e_135_9, e_135_12, e_135_13, c_102, e_102_0, e_102_1, e_102_2, e_102_5, e_102_8, e_102_9, e_102_10, e_102_13, e_102_16, e_102_17, e_102_18, e_102_21, e_102_22, e_102_25, e_102_26, c_247, e_247_0, e_247_1, e_247_2, e_247_5, e_247_8, e_247_9, e_247_10, e_247_13, e_247_16, e_247_17, e_247_18, e_247_21, e_247_22, sk_0 hv, sr_0_0 hv, sr_0_1 hv, sr_0_2 hv, sr_0_4 hv, sr_0_7 hv, sr_0_9 hv, sr_0_10 hv, sr_0_11 hv, sr_0_12 hv, sr_0_13 hv, sr_0_14 hv, sk_1 hv, sr_1_0 hv, sr_1_1 hv, sr_1_2 hv, sr_1_3 hv, sr_1_4 hv, sr_1_7 hv, sr_1_9 hv, sr_1_14 hv, sr_1_15 hv, sr_1_16 hv, sk_54 hv, sr_54_2 hv, sr_54_3 hv, sr_54_4 hv, sr_54_5 hv, sr_54_7 hv, sr_54_8 hv, sr_54_9 hv, sr_54_12 hv, sr_54_13 hv, sr_54_14 hv, sr_54_22 hv, sr_54_25 hv, sr_54_26 hv, sr_54_27 hv, sr_54_34 hv, sr_54_35 hv, sr_54_36 hv, sr_54_37 hv, sr_54_38 hv, sr_54_40 hv, sr_54_43 hv, sr_54_44 hv, sr_54_45 hv, sr_54_46 hv, sr_54_47 hv, s_has (sk_1 hv), t_isHouse hv, e5, hn2, le_sub1, hb1, hab]
        exact Inv_up hI
      · simp (disch := first | omega | (simp only [IvS_I, IvS_J, IvS_r]; assumption)) only [List.map_cons, List.map_nil, Value.int.injEq, gSc_r, gSc_I, n10, n01, Nat.lt_irrefl, Nat.not_lt_zero, ne_eq, Nat.add_zero, Nat.one_ne_zero, Nat.zero_ne_one, Nat.reduceEqDiff, bI_T, bI_F, bI_0, bI_1, bI_01, not_and_self, true_and, and_true, not_true_eq_false, not_false_eq_true, false_imp_iff, true_imp_iff, imp_self, gPv_n, gPv_i, gPv_r, gPv_0, Option.toList_some, Option.toList_none, List.singleton_append, List.cons_append, List.nil_append, List.length_nil, List.length_cons, Nat.zero_le, Nat.reduceAdd, Nat.reduceLeDiff, or_true, true_or, false_or, or_false, and_self, and_false, false_and, implies_true, Option.some.injEq, exists_eq_left', nL, nI_add, nI_mul, nI_clamp, nI_ltI, nI_leI, nI_eq, nI_pos, nI_pos', Nat.reduceAdd, Nat.reduceMul, Nat.reducePow, c_135, e_135_0, e_135_1, e_135_4, e_135_5, e_135_6, e_135_9, e_135_12, e_135_13, e_135_14, e_135_15, e_135_18, e_135_19, e_135_22, c_102, e_102_0, e_102_1, e_102_2, e_102_5, e_102_8, e_102_9, e_102_10, e_102_13, e_102_16, e_102_17, e_102_18, e_102_21, e_102_22, e_102_25, e_102_26, sk_0 hv, sr_0_0 hv, sr_0_1 hv, sr_0_2 hv, sr_0_4 hv, sr_0_7 hv, sr_0_9 hv, sr_0_10 hv, sr_0_11 hv, sr_0_12 hv, sr_0_13 hv, sr_0_14 hv, sk_1 hv, sr_1_0 hv, sr_1_1 hv, sr_1_2 hv, sr_1_3 hv, sr_1_4 hv, sr_1_7 hv, sr_1_9 hv, sr_1_14 hv, sr_1_15 hv, sr_1_16 hv, sk_25 hv, sr_25_0 hv, sr_25_1 hv, sr_25_2 hv, sr_25_3 hv, sr_25_4 hv, sr_25_5 hv, s_has (sk_1 hv), e5, hn2, ha1, hb1, hab]
        refine s_openRows (d := 992) hcv hc ha ?_
        intro τ hS hcT haT hr
        have hvT := hcT.1
        have hS1 : Sm (fun a => gB G + 25 ≤ a ∧ a < gB G + 50) σ τ := Sm_mono hS (fun a ha => by omega)
        have hE := EdG_o (dy := gI σ (gB G + 56) 249) w1
        simp (disch := omega) only [e_135_25, e_135_26, e_135_27, e_135_30, n10, n01, Nat.lt_irrefl, Nat.not_lt_zero, ne_eq, Nat.add_zero, Nat.one_ne_zero, Nat.zero_ne_one, Nat.reduceEqDiff, bI_T, bI_F, bI_0, bI_1, bI_01, not_and_self, true_and, and_true, not_true_eq_false, not_false_eq_true, false_imp_iff, true_imp_iff, imp_self, gPv_n, gPv_i, gPv_r, gPv_0, Option.toList_some, Option.toList_none, List.singleton_append, List.cons_append, List.nil_append, List.length_nil, List.length_cons, Nat.zero_le, Nat.reduceAdd, Nat.reduceLeDiff, or_true, true_or, false_or, or_false, and_self, and_false, false_and, implies_true, Option.some.injEq, exists_eq_left', nL, nI_add, nI_mul, nI_clamp, nI_ltI, nI_leI, nI_eq, nI_pos, nI_pos', Nat.reduceAdd, Nat.reduceMul, Nat.reducePow, sk_33 hvT, sr_33_0 hvT, sr_33_1 hvT, sr_33_2 hvT, sr_33_3 hvT, s_holders hcT hE hr ha1 hb1]
        refine ⟨⟨gSc_S hS (by omega), sk_54 hvT⟩, _, rfl, ?_⟩
        have XT := MX_S hX hS (by omega)
        have e250 : gI τ (gB G + 56) 250 = nI (hn (gI σ (gB G + 56))) := by rw [XT.2.1]; exact hn2
        simp (disch := first | omega | (simp only [IvS_I, IvS_J, IvS_r]; assumption)) only [List.map_cons, List.map_nil, Value.int.injEq, gSc_r, gSc_I, n10, n01, Nat.lt_irrefl, Nat.not_lt_zero, ne_eq, Nat.add_zero, Nat.one_ne_zero, Nat.zero_ne_one, Nat.reduceEqDiff, bI_T, bI_F, bI_0, bI_1, bI_01, not_and_self, true_and, and_true, not_true_eq_false, not_false_eq_true, false_imp_iff, true_imp_iff, imp_self, gPv_n, gPv_i, gPv_r, gPv_0, Option.toList_some, Option.toList_none, List.singleton_append, List.cons_append, List.nil_append, List.length_nil, List.length_cons, Nat.zero_le, Nat.reduceAdd, Nat.reduceLeDiff, or_true, true_or, false_or, or_false, and_self, and_false, false_and, implies_true, Option.some.injEq, exists_eq_left', nL, nI_add, nI_mul, nI_clamp, nI_ltI, nI_leI, nI_eq, nI_pos, nI_pos', Nat.reduceAdd, Nat.reduceMul, Nat.reducePow, c_247, e_247_0, e_247_1, e_247_2, e_247_5, e_247_8, e_247_9, e_247_10, e_247_13, e_247_16, e_247_17, e_247_18, e_247_21, e_247_22, e_247_23, e_247_24, sk_54 hvT, sr_54_2 hvT, sr_54_3 hvT, sr_54_4 hvT, sr_54_5 hvT, sr_54_7 hvT, sr_54_8 hvT, sr_54_9 hvT, sr_54_12 hvT, sr_54_13 hvT, sr_54_14 hvT, sr_54_22 hvT, sr_54_25 hvT, sr_54_26 hvT, sr_54_27 hvT, sr_54_34 hvT, sr_54_35 hvT, sr_54_36 hvT, sr_54_37 hvT, sr_54_38 hvT, sr_54_40 hvT, sr_54_43 hvT, sr_54_44 hvT, sr_54_45 hvT, sr_54_46 hvT, sr_54_47 hvT, t_isHouse hvT, e250, le_sub1, ha1, hb1, hab]
        refine t_look (d := 930) XT (Mc_S hm hS (fun a ha => by omega)) (by rw [hS.2.2.2.2.2.2.1 _ (by omega)]; exact z30) (by rw [hS.2.2.2.2.2.2.1 _ (by omega)]; exact z32) ?_
        intro τ2 hq
        have X2 := QM_X XT hq
        have hv2 := X2.1
        have hN := NX_0 XT hq
        have fin := Inv_QM hk hI hm hS1 haT hq
        have tc : ∀ (d : Nat) (Q : Option Value → gS → Prop), wc (d + 5) 240 [.ref (gB G + 54), .int (nI a), .int (nI b), .int (nI 0)] τ2 Q ↔ Q (some (.int (bI (cmB (gI σ (gB G + 56)) (opn (gI σ (gB G + 56)) (gI σ (gB G + 56) 249)) a b 0 = true)))) τ2 := fun d Q => t_come X2 hN hE.1 (by omega) (by omega)
        cases hcm : cmB (gI σ (gB G + 56)) (opn (gI σ (gB G + 56)) (gI σ (gB G + 56) 249)) a b 0
        · simp (disch := omega) only [e_247_27, e_247_28, e_247_29, e_247_30, e_247_31, e_247_34, e_247_37, e_247_38, n10, n01, Nat.lt_irrefl, Nat.not_lt_zero, ne_eq, Nat.add_zero, Nat.one_ne_zero, Nat.zero_ne_one, Nat.reduceEqDiff, bI_T, bI_F, bI_0, bI_1, bI_01, not_and_self, true_and, and_true, not_true_eq_false, not_false_eq_true, false_imp_iff, true_imp_iff, imp_self, gPv_n, gPv_i, gPv_r, gPv_0, Option.toList_some, Option.toList_none, List.singleton_append, List.cons_append, List.nil_append, List.length_nil, List.length_cons, Nat.zero_le, Nat.reduceAdd, Nat.reduceLeDiff, or_true, true_or, false_or, or_false, and_self, and_false, false_and, implies_true, Option.some.injEq, exists_eq_left', nL, nI_add, nI_mul, nI_clamp, nI_ltI, nI_leI, nI_eq, nI_pos, nI_pos', Nat.reduceAdd, Nat.reduceMul, Nat.reducePow, sk_54 hv2, sr_54_2 hv2, sr_54_3 hv2, sr_54_4 hv2, sr_54_5 hv2, sr_54_7 hv2, sr_54_8 hv2, sr_54_9 hv2, sr_54_12 hv2, sr_54_13 hv2, sr_54_14 hv2, sr_54_22 hv2, sr_54_25 hv2, sr_54_26 hv2, sr_54_27 hv2, sr_54_34 hv2, sr_54_35 hv2, sr_54_36 hv2, sr_54_37 hv2, sr_54_38 hv2, sr_54_40 hv2, sr_54_43 hv2, sr_54_44 hv2, sr_54_45 hv2, sr_54_46 hv2, sr_54_47 hv2, tc, hcm, Bool.false_eq_true, if_false]
          exact fin
        · simp (disch := omega) only [e_247_27, e_247_28, e_247_29, e_247_30, e_247_31, e_247_34, e_247_37, e_247_38, e_247_39, e_247_40, e_247_41, e_247_42, n10, n01, Nat.lt_irrefl, Nat.not_lt_zero, ne_eq, Nat.add_zero, Nat.one_ne_zero, Nat.zero_ne_one, Nat.reduceEqDiff, bI_T, bI_F, bI_0, bI_1, bI_01, not_and_self, true_and, and_true, not_true_eq_false, not_false_eq_true, false_imp_iff, true_imp_iff, imp_self, gPv_n, gPv_i, gPv_r, gPv_0, Option.toList_some, Option.toList_none, List.singleton_append, List.cons_append, List.nil_append, List.length_nil, List.length_cons, Nat.zero_le, Nat.reduceAdd, Nat.reduceLeDiff, or_true, true_or, false_or, or_false, and_self, and_false, false_and, implies_true, Option.some.injEq, exists_eq_left', nL, nI_add, nI_mul, nI_clamp, nI_ltI, nI_leI, nI_eq, nI_pos, nI_pos', Nat.reduceAdd, Nat.reduceMul, Nat.reducePow, sk_54 hv2, sr_54_2 hv2, sr_54_3 hv2, sr_54_4 hv2, sr_54_5 hv2, sr_54_7 hv2, sr_54_8 hv2, sr_54_9 hv2, sr_54_12 hv2, sr_54_13 hv2, sr_54_14 hv2, sr_54_22 hv2, sr_54_25 hv2, sr_54_26 hv2, sr_54_27 hv2, sr_54_34 hv2, sr_54_35 hv2, sr_54_36 hv2, sr_54_37 hv2, sr_54_38 hv2, sr_54_40 hv2, sr_54_43 hv2, sr_54_44 hv2, sr_54_45 hv2, sr_54_46 hv2, sr_54_47 hv2, tc, hcm, if_true]
          have := t_hl (d := 994) (Q := fun r2 σ2 => r2 = some (Value.int (nI (mkN (hlB (gI σ (gB G + 56)) (opn (gI σ (gB G + 56)) (gI σ (gB G + 56) 249)) a b) (hn (gI σ (gB G + 56)))))) ∧ Inv LSx CV MVx G σ2 (k + 1)) X2 hN hE.1 ha1 hb1 (hn (gI σ (gB G + 56))) 0 (by omega)
          exact this.mpr ⟨rfl, fin⟩
    · simp (disch := first | omega | (simp only [IvS_I, IvS_J, IvS_r]; assumption)) only [List.map_cons, List.map_nil, Value.int.injEq, gSc_r, gSc_I, n10, n01, Nat.lt_irrefl, Nat.not_lt_zero, ne_eq, Nat.add_zero, Nat.one_ne_zero, Nat.zero_ne_one, Nat.reduceEqDiff, bI_T, bI_F, bI_0, bI_1, bI_01, not_and_self, true_and, and_true, not_true_eq_false, not_false_eq_true, false_imp_iff, true_imp_iff, imp_self, gPv_n, gPv_i, gPv_r, gPv_0, Option.toList_some, Option.toList_none, List.singleton_append, List.cons_append, List.nil_append, List.length_nil, List.length_cons, Nat.zero_le, Nat.reduceAdd, Nat.reduceLeDiff, or_true, true_or, false_or, or_false, and_self, and_false, false_and, implies_true, Option.some.injEq, exists_eq_left', nL, c_135, e_135_0, e_135_1, e_135_4, e_135_5, e_135_6, e_135_9, e_135_12, e_135_13, c_102, e_102_0, e_102_1, e_102_2, e_102_5, e_102_8, e_102_9, e_102_10, e_102_13, e_102_16, e_102_17, e_102_18, e_102_21, e_102_22, e_102_25, e_102_26, c_247, e_247_0, e_247_1, e_247_2, e_247_5, e_247_8, e_247_9, e_247_10, e_247_13, e_247_16, e_247_17, e_247_18, e_247_21, e_247_22, sk_0 hv, sr_0_0 hv, sr_0_1 hv, sr_0_2 hv, sr_0_4 hv, sr_0_7 hv, sr_0_9 hv, sr_0_10 hv, sr_0_11 hv, sr_0_12 hv, sr_0_13 hv, sr_0_14 hv, sk_1 hv, sr_1_0 hv, sr_1_1 hv, sr_1_2 hv, sr_1_3 hv, sr_1_4 hv, sr_1_7 hv, sr_1_9 hv, sr_1_14 hv, sr_1_15 hv, sr_1_16 hv, sk_54 hv, sr_54_2 hv, sr_54_3 hv, sr_54_4 hv, sr_54_5 hv, sr_54_7 hv, sr_54_8 hv, sr_54_9 hv, sr_54_12 hv, sr_54_13 hv, sr_54_14 hv, sr_54_22 hv, sr_54_25 hv, sr_54_26 hv, sr_54_27 hv, sr_54_34 hv, sr_54_35 hv, sr_54_36 hv, sr_54_37 hv, sr_54_38 hv, sr_54_40 hv, sr_54_43 hv, sr_54_44 hv, sr_54_45 hv, sr_54_46 hv, sr_54_47 hv, s_has (sk_1 hv), t_isHouse hv, e5, hn2, le_sub1, h0, h1]
      exact Inv_up hI
  · simp (disch := first | omega | (simp only [IvS_I, IvS_J, IvS_r]; assumption)) only [List.map_cons, List.map_nil, Value.int.injEq, gSc_r, gSc_I, n10, n01, Nat.lt_irrefl, Nat.not_lt_zero, ne_eq, Nat.add_zero, Nat.one_ne_zero, Nat.zero_ne_one, Nat.reduceEqDiff, bI_T, bI_F, bI_0, bI_1, bI_01, not_and_self, true_and, and_true, not_true_eq_false, not_false_eq_true, false_imp_iff, true_imp_iff, imp_self, gPv_n, gPv_i, gPv_r, gPv_0, Option.toList_some, Option.toList_none, List.singleton_append, List.cons_append, List.nil_append, List.length_nil, List.length_cons, Nat.zero_le, Nat.reduceAdd, Nat.reduceLeDiff, or_true, true_or, false_or, or_false, and_self, and_false, false_and, implies_true, Option.some.injEq, exists_eq_left', nL, c_135, e_135_0, e_135_1, e_135_4, e_135_5, e_135_6, e_135_9, e_135_12, e_135_13, c_102, e_102_0, e_102_1, e_102_2, e_102_5, e_102_8, e_102_9, e_102_10, e_102_13, e_102_16, e_102_17, e_102_18, e_102_21, e_102_22, e_102_25, e_102_26, c_247, e_247_0, e_247_1, e_247_2, e_247_5, e_247_8, e_247_9, e_247_10, e_247_13, e_247_16, e_247_17, e_247_18, e_247_21, e_247_22, sk_0 hv, sr_0_0 hv, sr_0_1 hv, sr_0_2 hv, sr_0_4 hv, sr_0_7 hv, sr_0_9 hv, sr_0_10 hv, sr_0_11 hv, sr_0_12 hv, sr_0_13 hv, sr_0_14 hv, sk_1 hv, sr_1_0 hv, sr_1_1 hv, sr_1_2 hv, sr_1_3 hv, sr_1_4 hv, sr_1_7 hv, sr_1_9 hv, sr_1_14 hv, sr_1_15 hv, sr_1_16 hv, sk_54 hv, sr_54_2 hv, sr_54_3 hv, sr_54_4 hv, sr_54_5 hv, sr_54_7 hv, sr_54_8 hv, sr_54_9 hv, sr_54_12 hv, sr_54_13 hv, sr_54_14 hv, sr_54_22 hv, sr_54_25 hv, sr_54_26 hv, sr_54_27 hv, sr_54_34 hv, sr_54_35 hv, sr_54_36 hv, sr_54_37 hv, sr_54_38 hv, sr_54_40 hv, sr_54_43 hv, sr_54_44 hv, sr_54_45 hv, sr_54_46 hv, sr_54_47 hv, s_has (sk_1 hv), t_isHouse hv, e5, hn2, le_sub1, h0]
    exact Inv_up hI
end
