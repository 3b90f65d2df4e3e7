/-! the class reads a law -/
section
variable {B q : Nat} {σ : gS} {T : Nat → Nat} {d : Nat} {Q : Option Value → gS → Prop}
theorem s_nh {t : Nat} (X : TxC B q T σ) (h : TK B q T t σ) (hc : st T q t < q) (hk : kd (T (st T q t)) = 2) (K : Q (some (.int (nI (min (vT T q t) 1001)))) σ) : ∀ m i w, i + m = en T q (st T q t) → st T q t ≤ i → vl T m i w = vT T q t → wp d pr_60 Q 7 [some (.ref (B + 20)), some (.int (nI (min w 1001))), some (.int (nI i))] [] σ := by
  obtain ⟨hv, h12, q4, hT, h4⟩ := X
  obtain ⟨h5, h6, h7⟩ := h
  have ee := en_gt (T := T) hc
  intro m
  induction m with
  | zero =>
    intro i w hi hsi hv'
    have z : en T q (st T q t) ≤ i := by omega
    simp only [vl] at hv'
    rw [← hv'] at K
    simp (disch := omega) only [e_60_7, e_60_8, e_60_9, e_60_12, e_60_50, e_60_51, n10, n01, Nat.lt_irrefl, Nat.not_lt_zero, ne_eq, Nat.add_zero, Nat.one_ne_zero, Nat.zero_ne_one, Nat.reduceEqDiff, bI_T, bI_F, bI_0, bI_1, bI_01, not_and_self, true_and, and_true, not_true_eq_false, not_false_eq_true, false_imp_iff, true_imp_iff, imp_self, gPv_n, gPv_i, gPv_r, gPv_0, Option.toList_some, Option.toList_none, List.singleton_append, List.cons_append, List.nil_append, List.length_nil, List.length_cons, Nat.zero_le, Nat.reduceAdd, Nat.reduceLeDiff, or_true, true_or, false_or, or_false, and_self, and_false, false_and, implies_true, Option.some.injEq, exists_eq_left', nL, nI_add, nI_mul, nI_clamp, nI_ltI, nI_leI, nI_eq, nI_pos, nI_pos', Nat.reduceAdd, Nat.reduceMul, Nat.reducePow, sk_20 hv, sr_20_0 hv, sr_20_1 hv, sr_20_2 hv, sr_20_3 hv, h6, z]
    exact K
  | succ m ih =>
    intro i w hi hsi hv'
    have z : ¬ en T q (st T q t) ≤ i := by omega
    have z2 : ¬ q ≤ i := by omega
    have z1 : i < 400 := by omega
    obtain ⟨t1, t2⟩ := hT i (by omega)
    have dg : kd (T i) = 2 := by rw [← hk]; exact en_k hc (by omega) hsi (by omega)
    have db : 48 ≤ T i ∧ T i ≤ 57 := by
      rw [kd] at dg
      split at dg
      · omega
      · split at dg <;> omega
    rw [vl] at hv'
    have e2 : nI (min w 1001 * 10 + T i) - nI 48 = nI (min w 1001 * 10 + (T i - 48)) := by
      have : min w 1001 * 10 + T i - 48 = min w 1001 * 10 + (T i - 48) := by omega
      rw [nI_sub (by omega), this]
    have e3 : min (min w 1001 * 10 + (T i - 48)) 1001 = min (if 1000000 < w then w else 10 * w + (T i - 48)) 1001 := by
      split <;> omega
    rw [e_60_7]
    simp (disch := omega) only [e_60_8, e_60_9, e_60_12, e_60_15, e_60_16, e_60_17, e_60_20, e_60_23, e_60_24, e_60_26, e_60_27, e_60_28, e_60_31, e_60_32, e_60_33, e_60_34, e_60_36, e_60_37, e_60_40, e_60_43, e_60_44, e_60_47, n10, n01, Nat.lt_irrefl, Nat.not_lt_zero, ne_eq, Nat.add_zero, Nat.one_ne_zero, Nat.zero_ne_one, Nat.reduceEqDiff, bI_T, bI_F, bI_0, bI_1, bI_01, not_and_self, true_and, and_true, not_true_eq_false, not_false_eq_true, false_imp_iff, true_imp_iff, imp_self, gPv_n, gPv_i, gPv_r, gPv_0, Option.toList_some, Option.toList_none, List.singleton_append, List.cons_append, List.nil_append, List.length_nil, List.length_cons, Nat.zero_le, Nat.reduceAdd, Nat.reduceLeDiff, or_true, true_or, false_or, or_false, and_self, and_false, false_and, implies_true, Option.some.injEq, exists_eq_left', nL, nI_add, nI_mul, nI_clamp, nI_ltI, nI_leI, nI_eq, nI_pos, nI_pos', Nat.reduceAdd, Nat.reduceMul, Nat.reducePow, sk_19 hv, sn_19 hv, sk_20 hv, sr_20_0 hv, sr_20_1 hv, sr_20_2 hv, sr_20_3 hv, h4, h6, z, z1, z2, t1, e2, nI_min2, e3]
    exact ih (i + 1) _ (by omega) (by omega) hv'
theorem s_number {t : Nat} (X : TxC B q T σ) (h : TK B q T t σ) (hc : st T q t < q) (hk : kd (T (st T q t)) = 2) : wc (d + 1) 60 [.ref (B + 20)] σ Q ↔ Q (some (.int (nI (min (vT T q t) 1001)))) σ := by
  refine wc_one ?_
  intro Q K
  have hv := X.1
  have h5 := h.1
  have ee := en_gt (T := T) hc
  simp (disch := omega) only [c_60, e_60_0, e_60_1, e_60_2, e_60_3, e_60_6, n10, n01, Nat.lt_irrefl, Nat.not_lt_zero, ne_eq, Nat.add_zero, Nat.one_ne_zero, Nat.zero_ne_one, Nat.reduceEqDiff, bI_T, bI_F, bI_0, bI_1, bI_01, not_and_self, true_and, and_true, not_true_eq_false, not_false_eq_true, false_imp_iff, true_imp_iff, imp_self, gPv_n, gPv_i, gPv_r, gPv_0, Option.toList_some, Option.toList_none, List.singleton_append, List.cons_append, List.nil_append, List.length_nil, List.length_cons, Nat.zero_le, Nat.reduceAdd, Nat.reduceLeDiff, or_true, true_or, false_or, or_false, and_self, and_false, false_and, implies_true, Option.some.injEq, exists_eq_left', nL, sk_20 hv, sr_20_0 hv, sr_20_1 hv, sr_20_2 hv, sr_20_3 hv, h5]
  refine s_nh X h hc hk K (en T q (st T q t) - st T q t) (st T q t) 0 (by omega) (Nat.le_refl _) ?_
  rw [vT, if_pos hc, vP, if_pos hk]
theorem wi_v : wi 0 = 0 ∧ wi 1 = 1 ∧ wi 2 = 6 ∧ wi 3 = 7 ∧ wi 4 = 8 ∧ wi 5 = 9 ∧ wi 6 = 10 ∧ wi 7 = 11 ∧ wi 8 = 12 ∧ wi 9 = 13 ∧ wi 10 = 14 ∧ wi 11 = 2 ∧ wi 12 = 5 ∧ wi 13 = 4 ∧ wi 14 = 3 := by decide
theorem s_wordHere {t : Nat} (X : TxC B q T σ) (h : TK B q T t σ) : wc (d + 6) 61 [.ref (B + 20)] σ Q ↔ Q (some (.int (if 7 ≤ cT T q t ∧ cT T q t ≤ 15 then nI (cT T q t - 7) else -nI 1))) σ := by
  have hv := X.1
  have w : ∀ k, k < 15 → ∀ (d : Nat) (Q : Option Value → gS → Prop), wc (d + 5) 46 [.ref (B + 20), .ref (gT σ k)] σ Q ↔ Q (some (.int (bI (cT T q t = wi k + 1)))) σ := fun k hk d Q => s_isWord X h hk
  by_cases c : 7 ≤ cT T q t ∧ cT T q t ≤ 15
  · rw [if_pos c]
    have c' : cT T q t = 7 ∨ cT T q t = 8 ∨ cT T q t = 9 ∨ cT T q t = 10 ∨ cT T q t = 11 ∨ cT T q t = 12 ∨ cT T q t = 13 ∨ cT T q t = 14 ∨ cT T q t = 15 := by omega
    rcases c' with e | e | e | e | e | e | e | e | e <;> simp (disch := omega) only [c_61, e_61_0, e_61_1, e_61_3, e_61_6, e_61_9, e_61_10, e_61_11, e_61_12, e_61_14, e_61_17, e_61_20, e_61_21, e_61_22, e_61_23, e_61_25, e_61_28, e_61_31, e_61_32, e_61_33, e_61_34, e_61_36, e_61_39, e_61_42, e_61_43, e_61_44, e_61_45, e_61_47, e_61_50, e_61_53, e_61_54, e_61_55, e_61_56, e_61_58, e_61_61, e_61_64, e_61_65, e_61_66, e_61_67, e_61_69, e_61_72, e_61_75, e_61_77, e_61_78, e_61_79, e_61_81, e_61_84, e_61_87, e_61_89, e_61_90, e_61_91, e_61_93, e_61_96, e_61_99, e_61_101, e_61_104, e_61_105, n10, n01, Nat.lt_irrefl, Nat.not_lt_zero, ne_eq, Nat.add_zero, Nat.one_ne_zero, Nat.zero_ne_one, Nat.reduceEqDiff, bI_T, bI_F, bI_0, bI_1, bI_01, not_and_self, true_and, and_true, not_true_eq_false, not_false_eq_true, false_imp_iff, true_imp_iff, imp_self, gPv_n, gPv_i, gPv_r, gPv_0, Option.toList_some, Option.toList_none, List.singleton_append, List.cons_append, List.nil_append, List.length_nil, List.length_cons, Nat.zero_le, Nat.reduceAdd, Nat.reduceLeDiff, or_true, true_or, false_or, or_false, and_self, and_false, false_and, implies_true, Option.some.injEq, exists_eq_left', nL, nI_add, nI_mul, nI_clamp, nI_ltI, nI_leI, nI_eq, nI_pos, nI_pos', Nat.reduceAdd, Nat.reduceMul, Nat.reducePow, sk_20 hv, sr_20_0 hv, sr_20_1 hv, sr_20_2 hv, sr_20_3 hv, w 2 (by omega), w 3 (by omega), w 4 (by omega), w 5 (by omega), w 6 (by omega), w 7 (by omega), w 8 (by omega), w 9 (by omega), w 10 (by omega), wi_v, e, Nat.reduceSub]
  · rw [if_neg c]
    have n7 : ¬ cT T q t = 7 := by omega
    have n8 : ¬ cT T q t = 8 := by omega
    have n9 : ¬ cT T q t = 9 := by omega
    have n10' : ¬ cT T q t = 10 := by omega
    have n11 : ¬ cT T q t = 11 := by omega
    have n12 : ¬ cT T q t = 12 := by omega
    have n13 : ¬ cT T q t = 13 := by omega
    have n14 : ¬ cT T q t = 14 := by omega
    have n15 : ¬ cT T q t = 15 := by omega
    simp (disch := omega) only [c_61, e_61_0, e_61_1, e_61_3, e_61_6, e_61_9, e_61_10, e_61_11, e_61_12, e_61_14, e_61_17, e_61_20, e_61_21, e_61_22, e_61_23, e_61_25, e_61_28, e_61_31, e_61_32, e_61_33, e_61_34, e_61_36, e_61_39, e_61_42, e_61_43, e_61_44, e_61_45, e_61_47, e_61_50, e_61_53, e_61_54, e_61_55, e_61_56, e_61_58, e_61_61, e_61_64, e_61_65, e_61_66, e_61_67, e_61_69, e_61_72, e_61_75, e_61_77, e_61_78, e_61_79, e_61_81, e_61_84, e_61_87, e_61_89, e_61_90, e_61_91, e_61_93, e_61_96, e_61_99, e_61_101, e_61_104, e_61_105, n10, n01, Nat.lt_irrefl, Nat.not_lt_zero, ne_eq, Nat.add_zero, Nat.one_ne_zero, Nat.zero_ne_one, Nat.reduceEqDiff, bI_T, bI_F, bI_0, bI_1, bI_01, not_and_self, true_and, and_true, not_true_eq_false, not_false_eq_true, false_imp_iff, true_imp_iff, imp_self, gPv_n, gPv_i, gPv_r, gPv_0, Option.toList_some, Option.toList_none, List.singleton_append, List.cons_append, List.nil_append, List.length_nil, List.length_cons, Nat.zero_le, Nat.reduceAdd, Nat.reduceLeDiff, or_true, true_or, false_or, or_false, and_self, and_false, false_and, implies_true, Option.some.injEq, exists_eq_left', nL, nI_add, nI_mul, nI_clamp, nI_ltI, nI_leI, nI_eq, nI_pos, nI_pos', Nat.reduceAdd, Nat.reduceMul, Nat.reducePow, sk_20 hv, sr_20_0 hv, sr_20_1 hv, sr_20_2 hv, sr_20_3 hv, w 2 (by omega), w 3 (by omega), w 4 (by omega), w 5 (by omega), w 6 (by omega), w 7 (by omega), w 8 (by omega), w 9 (by omega), w 10 (by omega), wi_v, n7, n8, n9, n10', n11, n12, n13, n14, n15]
end
def dyF {α : Type} (f : (Nat → Int32) → α) : Prop := ∀ W W' : Nat → Int32, (∀ j, j ≠ 8 → W j = W' j) → f W = f W'
section
variable {B q n : Nat} {σ : gS} {T : Nat → Nat} {d : Nat} {Q : Option Value → gS → Prop}
abbrev crS (B : Nat) (σ τ : gS) : Prop := Sm (fun a => a = B + 20 ∨ a = B + 21) σ τ ∧ ∀ j, j = 4 ∨ j = 10 ∨ j = 12 → gI τ (B + 20) j = gI σ (B + 20) j
def CS (B q n : Nat) (T : Nat → Nat) (σ τ : gS) (t pq z : Nat) (X : Nat → Nat) (nd : Bool) : Prop := crS B σ τ ∧ TK B q T t τ ∧ (t ≤ n ∧ pq ≤ 50) ∧ (gI τ (B + 20) 8 = nI z ∧ gI τ (B + 20) 9 = nI pq ∧ gI τ (B + 20) 11 = bI (nd = true)) ∧ ∀ j, j < z → gI τ (B + 21) j = nI (X j) ∧ X j < 49152
def CE (B q : Nat) (T : Nat → Nat) (σ τ : gS) (e : Nat) : Prop := crS B σ τ ∧ gI τ (B + 20) 5 = nI (st T q e)
/-- what the class's reading stands on -/
def CX (B q n : Nat) (T : Nat → Nat) (σ : gS) : Prop := TxC B q T σ ∧ (∀ i, i < n → st T q i < q) ∧ st T q n = q
theorem cr_X {τ : gS} (X : CX B q n T σ) (h : crS B σ τ) : TxC B q T τ := TxC_S X.1 h.1 (by omega) (h.2 4 (by omega))
theorem CS_E {τ : gS} {t pq z : Nat} {X : Nat → Nat} {nd : Bool} (h : CS B q n T σ τ t pq z X nd) : CE B q T σ τ t := ⟨h.1, h.2.1.1⟩
theorem CX_n (X : CX B q n T σ) : n ≤ q ∧ q ≤ 400 := ⟨by have := st_ge X.2.1 n (Nat.le_refl _); rw [X.2.2] at this; exact this, X.1.2.2.1⟩
theorem CX_c (X : CX B q n T σ) {t : Nat} (h : cT T q t ≠ 0) : t < n := by
  by_cases c : t < n
  · exact c
  · exact absurd (cT_0 X.2.2 (by omega)) h
theorem k_go {τ : gS} {t pq z : Nat} {X : Nat → Nat} {nd : Bool} (Y : CX B q n T σ) (h : CS B q n T σ τ t pq z X nd) (ht : t < n) (K : ∀ τ', CS B q n T σ τ' (t + 1) pq z X nd → Q none τ') : wc (d + 2) 45 [.ref (B + 20)] τ Q := by
  obtain ⟨h1, h2, h3, h4, h5⟩ := h
  refine s_goT (cr_X Y h1) h2 ?_
  intro τ' g h2'
  have e21 : gI τ' (B + 21) = gI τ (B + 21) := g.1.2.2.2.2.2.2.1 _ (by omega)
  refine K τ' ⟨⟨Sm_trans h1.1 (Sm_mono g.1 (fun a ha => Or.inl ha)), fun j hj => by rw [g.2 j (by omega) (by omega) (by omega)]; exact h1.2 j hj⟩, h2', ⟨by omega, h3.2⟩, ?_, by rw [e21]; exact h5⟩
  rw [g.2 8 (by omega) (by omega) (by omega), g.2 9 (by omega) (by omega) (by omega), g.2 11 (by omega) (by omega) (by omega)]
  exact h4
theorem k_emit {τ : gS} {t pq z kd' num : Nat} {X : Nat → Nat} {nd : Bool} (Y : CX B q n T σ) (h : CS B q n T σ τ t pq z X nd) (hz : z < 400) (hk : kd' * 4096 + num < 49152) (K : ∀ τ', CS B q n T σ τ' t pq (z + 1) (un X z (kd' * 4096 + num)) nd → Q (some (.int (nI z))) τ') : wc (d + 1) 48 [.ref (B + 20), .int (nI kd'), .int (nI num)] τ Q := by
  obtain ⟨h1, h2, h3, h4, h5⟩ := h
  have hv := (cr_X Y h1).1
  have k21 := sk_21 hv
  have z1 : nI (z + 1) - nI 1 = nI z := by rw [nI_sub (by omega), Nat.add_sub_cancel]
  simp (disch := omega) only [c_48, e_48_0, e_48_1, e_48_4, e_48_5, e_48_8, e_48_9, e_48_12, e_48_13, e_48_14, e_48_15, e_48_18, e_48_19, e_48_22, e_48_23, e_48_26, e_48_27, e_48_28, e_48_29, e_48_30, e_48_31, e_48_31n, e_48_32, e_48_35, e_48_36, e_48_37, e_48_40, e_48_41, e_48_44, e_48_45, e_48_46, n10, n01, Nat.lt_irrefl, Nat.not_lt_zero, ne_eq, Nat.add_zero, Nat.one_ne_zero, Nat.zero_ne_one, Nat.reduceEqDiff, bI_T, bI_F, bI_0, bI_1, bI_01, not_and_self, true_and, and_true, not_true_eq_false, not_false_eq_true, false_imp_iff, true_imp_iff, imp_self, gPv_n, gPv_i, gPv_r, gPv_0, Option.toList_some, Option.toList_none, List.singleton_append, List.cons_append, List.nil_append, List.length_nil, List.length_cons, Nat.zero_le, Nat.reduceAdd, Nat.reduceLeDiff, or_true, true_or, false_or, or_false, and_self, and_false, false_and, implies_true, Option.some.injEq, exists_eq_left', nL, nI_add, nI_mul, nI_clamp, nI_ltI, nI_leI, nI_eq, nI_pos, nI_pos', Nat.reduceAdd, Nat.reduceMul, Nat.reducePow, n_K_I, n_K_J, n_K_R, n_K_r, n_N_I, n_N_J, n_N_R, n_N_r, n_R_I, n_R_J, n_R_r, n_J_I, n_J_R, n_J_r, n_I_J, n_I_R, n_n_I, n_n_J, n_n_R, n_n_r, n_w_I, n_w_J, n_w_R, n_w_r, n_T_I, n_T_J, n_T_R, n_T_r, rI_ne, rI_nk, rI_eq, rr_ne, rr_eq, n_J_J, n_R_R, Nat.add_left_cancel_iff, Nat.add_right_cancel_iff, Nat.add_eq_left, Nat.left_eq_add, Nat.reduceEqDiff, Nat.reduceAdd, Nat.zero_ne_one, Nat.one_ne_zero, false_and, and_false, true_and, and_true, and_self, if_false, if_true, ↓reduceIte, sk_20 hv, sr_20_0 hv, sr_20_1 hv, sr_20_2 hv, sr_20_3 hv, sk_21 hv, sn_21 hv, nI_of_len, h4.1, hz, z1]
  refine K _ ⟨⟨Sm_I (Sm_I h1.1 (Or.inr rfl)) (Or.inl rfl), fun j hj => by rw [rI_nk (by omega), rI_ne (by omega)]; exact h1.2 j hj⟩, ?_, h3, ⟨by rw [rI_eq], ?_, ?_⟩, ?_⟩
  · refine ⟨?_, ?_, ?_⟩
    · rw [rI_nk (by omega), rI_ne (by omega)]; exact h2.1
    · rw [rI_nk (by omega), rI_ne (by omega)]; exact h2.2.1
    · rw [rI_nk (by omega), rI_ne (by omega)]; exact h2.2.2
  · rw [rI_nk (by omega), rI_ne (by omega)]; exact h4.2.1
  · rw [rI_nk (by omega), rI_ne (by omega)]; exact h4.2.2
  · intro j hj
    rw [rI_ne (by omega)]
    by_cases g : j = z
    · rw [g, rI_eq, un_eq]; exact ⟨rfl, hk⟩
    · rw [rI_nk g, un_ne g]; exact h5 j (by omega)
theorem k_lead {τ : gS} {t pq z kd' m : Nat} {X : Nat → Nat} {nd : Bool} (Y : CX B q n T σ) (h : CS B q n T σ τ t pq z X nd) (hm : m < z) (hz : z ≤ 400) (hk : kd' * 4096 + z < 49152) (K : ∀ τ', CS B q n T σ τ' t pq z (un X m (kd' * 4096 + z)) nd → Q none τ') : wc (d + 1) 49 [.ref (B + 20), .int (nI m), .int (nI kd')] τ Q := by
  obtain ⟨h1, h2, h3, h4, h5⟩ := h
  have hv := (cr_X Y h1).1
  have k21 := sk_21 hv
  have z1 : ¬ 400 ≤ m := by omega
  have z2 : m < 400 := by omega
  simp (disch := omega) only [c_49, e_49_0, e_49_1, e_49_4, e_49_5, e_49_6, e_49_9, e_49_10, e_49_13, e_49_14, e_49_17, e_49_18, e_49_19, e_49_22, e_49_23, e_49_24, e_49_27, e_49_28, e_49_29, n10, n01, Nat.lt_irrefl, Nat.not_lt_zero, ne_eq, Nat.add_zero, Nat.one_ne_zero, Nat.zero_ne_one, Nat.reduceEqDiff, bI_T, bI_F, bI_0, bI_1, bI_01, not_and_self, true_and, and_true, not_true_eq_false, not_false_eq_true, false_imp_iff, true_imp_iff, imp_self, gPv_n, gPv_i, gPv_r, gPv_0, Option.toList_some, Option.toList_none, List.singleton_append, List.cons_append, List.nil_append, List.length_nil, List.length_cons, Nat.zero_le, Nat.reduceAdd, Nat.reduceLeDiff, or_true, true_or, false_or, or_false, and_self, and_false, false_and, implies_true, Option.some.injEq, exists_eq_left', nL, nI_add, nI_mul, nI_clamp, nI_ltI, nI_leI, nI_eq, nI_pos, nI_pos', Nat.reduceAdd, Nat.reduceMul, Nat.reducePow, n_K_I, n_K_J, n_K_R, n_K_r, n_N_I, n_N_J, n_N_R, n_N_r, n_R_I, n_R_J, n_R_r, n_J_I, n_J_R, n_J_r, n_I_J, n_I_R, n_n_I, n_n_J, n_n_R, n_n_r, n_w_I, n_w_J, n_w_R, n_w_r, n_T_I, n_T_J, n_T_R, n_T_r, rI_ne, rI_nk, rI_eq, rr_ne, rr_eq, n_J_J, n_R_R, Nat.add_left_cancel_iff, Nat.add_right_cancel_iff, Nat.add_eq_left, Nat.left_eq_add, Nat.reduceEqDiff, Nat.reduceAdd, Nat.zero_ne_one, Nat.one_ne_zero, false_and, and_false, true_and, and_true, and_self, if_false, if_true, ↓reduceIte, sk_20 hv, sr_20_0 hv, sr_20_1 hv, sr_20_2 hv, sr_20_3 hv, sk_21 hv, sn_21 hv, nI_of_len, h4.1, z1, z2]
  refine K _ ⟨⟨Sm_I h1.1 (Or.inr rfl), fun j hj => by rw [rI_ne (by omega)]; exact h1.2 j hj⟩, ?_, h3, ?_, ?_⟩
  · simp only [TK]
    rw [rI_ne (by omega)]
    exact h2
  · rw [rI_ne (by omega)]
    exact h4
  · intro j hj
    by_cases g : j = m
    · rw [g, rI_eq, un_eq]; exact ⟨rfl, hk⟩
    · rw [rI_nk g, un_ne g]; exact h5 j hj
/-- what a reading method of the class does -/
def CRd {α : Type} (B q n : Nat) (T : Nat → Nat) (σ : gS) (D i : Nat) (as : List Value) (R : Nat → Nat → zR ((Nat → Int32) → α)) (C : (Nat → Nat) → Nat → Nat → Nat → ((Nat → Int32) → α) → Prop) : Prop := ∀ τ t pq z X nd Q, CS B q n T σ τ t pq z X nd → z ≤ t → (∀ τ' e, R t pq = .inl e → CE B q T σ τ' e → Q (some (.int (nI 0))) τ') → (∀ τ' t' pq' f z' X' nd', R t pq = .inr (t', pq', f) → CS B q n T σ τ' t' pq' z' X' nd' → t < t' → z' + t ≤ z + t' → pq < pq' → (∀ j, j < z → X' j = X j) → C X' z z' (pq' - pq) f → (nd = true → nd' = true) → (nd' = true ∨ dyF f) → Q (some (.int (nI 1))) τ') → wc D i (.ref (B + 20) :: as) τ Q
set_option maxHeartbeats 1000000 in
theorem k_part {D dp : Nat} {S : Nat → Nat → zR zS} {b : Bool} (Y : CX B q n T σ) (hI : cT T q = cT T q → ∀ τ t pq z X nd Q, CS B q n T σ τ t pq z X nd → z ≤ t → cT T q t = 191 → (∀ τ' e, pPart (cT T q) (vT T q) S b t pq = .inl e → CE B q T σ τ' e → Q (some (.int (nI 0))) τ') → (∀ τ' t' pq' f z' X' nd', pPart (cT T q) (vT T q) S b t pq = .inr (t', pq', f) → CS B q n T σ τ' t' pq' z' X' nd' → t < t' → z' + t ≤ z + t' → pq < pq' → (∀ j, j < z → X' j = X j) → CdS X' z z' (pq' - pq) f → (nd = true → nd' = true) → (nd' = true ∨ dyF f) → Q (some (.int (nI 1))) τ') → wc (D + 6) 59 [.ref (B + 20), .int (nI dp)] τ Q) : CRd B q n T σ (D + 7) 58 [.int (nI dp)] (pPart (cT T q) (vT T q) S b) CdS := by
  obtain ⟨nq, q4⟩ := CX_n Y
  intro τ t pq z X nd Q h hz K0 K1
  obtain ⟨h1, h2, h3, h4, h5⟩ := id h
  have Z := cr_X Y h1
  have hv := Z.1
  have sg : ∀ (d : Nat) (Q : Option Value → gS → Prop), wc (d + 1) 47 [.ref (B + 20), .int (nI 91)] τ Q ↔ Q (some (.int (bI (cT T q t = 191)))) τ := fun d Q => s_isSign Z h2 (by omega) rfl
  by_cases a1 : cT T q t = 191
  · simp (disch := omega) only [c_58, e_58_0, e_58_1, e_58_3, e_58_6, e_58_9, e_58_10, e_58_11, n10, n01, Nat.lt_irrefl, Nat.not_lt_zero, ne_eq, Nat.add_zero, Nat.one_ne_zero, Nat.zero_ne_one, Nat.reduceEqDiff, bI_T, bI_F, bI_0, bI_1, bI_01, not_and_self, true_and, and_true, not_true_eq_false, not_false_eq_true, false_imp_iff, true_imp_iff, imp_self, gPv_n, gPv_i, gPv_r, gPv_0, Option.toList_some, Option.toList_none, List.singleton_append, List.cons_append, List.nil_append, List.length_nil, List.length_cons, Nat.zero_le, Nat.reduceAdd, Nat.reduceLeDiff, or_true, true_or, false_or, or_false, and_self, and_false, false_and, implies_true, Option.some.injEq, exists_eq_left', nL, nI_add, nI_mul, nI_clamp, nI_ltI, nI_leI, nI_eq, nI_pos, nI_pos', Nat.reduceAdd, Nat.reduceMul, Nat.reducePow, sk_20 hv, sr_20_0 hv, sr_20_1 hv, sr_20_2 hv, sr_20_3 hv, sg, a1]
    refine hI rfl τ t pq z X nd _ h hz a1 ?_ ?_
    · intro τ' e hr he
      simp (disch := omega) only [e_58_14, n10, n01, Nat.lt_irrefl, Nat.not_lt_zero, ne_eq, Nat.add_zero, Nat.one_ne_zero, Nat.zero_ne_one, Nat.reduceEqDiff, bI_T, bI_F, bI_0, bI_1, bI_01, not_and_self, true_and, and_true, not_true_eq_false, not_false_eq_true, false_imp_iff, true_imp_iff, imp_self, gPv_n, gPv_i, gPv_r, gPv_0, Option.toList_some, Option.toList_none, List.singleton_append, List.cons_append, List.nil_append, List.length_nil, List.length_cons, Nat.zero_le, Nat.reduceAdd, Nat.reduceLeDiff, or_true, true_or, false_or, or_false, and_self, and_false, false_and, implies_true, Option.some.injEq, exists_eq_left', nL, nI_add, nI_mul, nI_clamp, nI_ltI, nI_leI, nI_eq, nI_pos, nI_pos', Nat.reduceAdd, Nat.reduceMul, Nat.reducePow]
      exact K0 τ' e hr he
    · intro τ' t' pq' f z' X' nd' hr hs b1 b2 b3 b4 b5 b6 b7
      simp (disch := omega) only [e_58_14, n10, n01, Nat.lt_irrefl, Nat.not_lt_zero, ne_eq, Nat.add_zero, Nat.one_ne_zero, Nat.zero_ne_one, Nat.reduceEqDiff, bI_T, bI_F, bI_0, bI_1, bI_01, not_and_self, true_and, and_true, not_true_eq_false, not_false_eq_true, false_imp_iff, true_imp_iff, imp_self, gPv_n, gPv_i, gPv_r, gPv_0, Option.toList_some, Option.toList_none, List.singleton_append, List.cons_append, List.nil_append, List.length_nil, List.length_cons, Nat.zero_le, Nat.reduceAdd, Nat.reduceLeDiff, or_true, true_or, false_or, or_false, and_self, and_false, false_and, implies_true, Option.some.injEq, exists_eq_left', nL, nI_add, nI_mul, nI_clamp, nI_ltI, nI_leI, nI_eq, nI_pos, nI_pos', Nat.reduceAdd, Nat.reduceMul, Nat.reducePow]
      exact K1 τ' t' pq' f z' X' nd' hr hs b1 b2 b3 b4 b5 b6 b7
  · rw [pPart, if_neg a1] at K0 K1
    have w15 := wx_le (T := T) (p := st T q t) (e := en T q (st T q t))
    have kl := kd_le (T (st T q t))
    have good : ∀ (num kk : Nat) (f : zS), (cT T q t = 50 ∧ vT T q t ≤ 1000 ∨ 7 ≤ cT T q t ∧ cT T q t ≤ 15) → kk ≤ 1 → num ≤ 1000 → pq < 50 → (f = fun W => some (if cT T q t = 50 then (nI (vT T q t)).toInt64 else (W (cT T q t - 7)).toInt64)) → (∀ X : Nat → Nat, X z = kk * 4096 + num → CdS X z (z + 1) 1 f) → ∀ (τ1 : gS) (nd1 : Bool), CS B q n T σ τ1 t (pq + 1) z X nd1 → (nd = true → nd1 = true) → (nd1 = true ∨ dyF f) → ∀ x3, wp (D + 6) pr_58 Q 128 [some (.ref (B + 20)), some (.int (nI dp)), some (.int (nI num)), x3] [.int (nI num), .int (nI kk), .ref (B + 20)] τ1 := by
      intro num kk f a2 hkk hnum hpq hf hC τ1 nd1 hs hnd hdy x3
      have tn : t < n := CX_c Y (by omega)
      have hv1 := (cr_X Y hs.1).1
      simp (disch := omega) only [e_58_128, n10, n01, Nat.lt_irrefl, Nat.not_lt_zero, ne_eq, Nat.add_zero, Nat.one_ne_zero, Nat.zero_ne_one, Nat.reduceEqDiff, bI_T, bI_F, bI_0, bI_1, bI_01, not_and_self, true_and, and_true, not_true_eq_false, not_false_eq_true, false_imp_iff, true_imp_iff, imp_self, gPv_n, gPv_i, gPv_r, gPv_0, Option.toList_some, Option.toList_none, List.singleton_append, List.cons_append, List.nil_append, List.length_nil, List.length_cons, Nat.zero_le, Nat.reduceAdd, Nat.reduceLeDiff, or_true, true_or, false_or, or_false, and_self, and_false, false_and, implies_true, Option.some.injEq, exists_eq_left', sk_20 hv1, sr_20_0 hv1, sr_20_1 hv1, sr_20_2 hv1, sr_20_3 hv1]
      refine k_emit (d := D + 5) Y hs (by omega) (by omega) ?_
      intro τ2 hs2
      have hv2 := (cr_X Y hs2.1).1
      simp (disch := omega) only [e_58_131, e_58_131n, e_58_132, e_58_133, n10, n01, Nat.lt_irrefl, Nat.not_lt_zero, ne_eq, Nat.add_zero, Nat.one_ne_zero, Nat.zero_ne_one, Nat.reduceEqDiff, bI_T, bI_F, bI_0, bI_1, bI_01, not_and_self, true_and, and_true, not_true_eq_false, not_false_eq_true, false_imp_iff, true_imp_iff, imp_self, gPv_n, gPv_i, gPv_r, gPv_0, Option.toList_some, Option.toList_none, List.singleton_append, List.cons_append, List.nil_append, List.length_nil, List.length_cons, Nat.zero_le, Nat.reduceAdd, Nat.reduceLeDiff, or_true, true_or, false_or, or_false, and_self, and_false, false_and, implies_true, Option.some.injEq, exists_eq_left', sk_20 hv2, sr_20_0 hv2, sr_20_1 hv2, sr_20_2 hv2, sr_20_3 hv2]
      refine k_go (d := D + 4) Y hs2 tn ?_
      intro τ3 hs3
      simp (disch := omega) only [e_58_136, e_58_137, n10, n01, Nat.lt_irrefl, Nat.not_lt_zero, ne_eq, Nat.add_zero, Nat.one_ne_zero, Nat.zero_ne_one, Nat.reduceEqDiff, bI_T, bI_F, bI_0, bI_1, bI_01, not_and_self, true_and, and_true, not_true_eq_false, not_false_eq_true, false_imp_iff, true_imp_iff, imp_self, gPv_n, gPv_i, gPv_r, gPv_0, Option.toList_some, Option.toList_none, List.singleton_append, List.cons_append, List.nil_append, List.length_nil, List.length_cons, Nat.zero_le, Nat.reduceAdd, Nat.reduceLeDiff, or_true, true_or, false_or, or_false, and_self, and_false, false_and, implies_true, Option.some.injEq, exists_eq_left', nL, nI_add, nI_mul, nI_clamp, nI_ltI, nI_leI, nI_eq, nI_pos, nI_pos', Nat.reduceAdd, Nat.reduceMul, Nat.reducePow]
      refine K1 τ3 (t + 1) (pq + 1) f (z + 1) _ nd1 (by rw [if_pos ⟨a2, hpq⟩, hf]) hs3 (by omega) (by omega) (by omega) (fun j hj => un_ne (by omega)) ?_ hnd hdy
      rw [show pq + 1 - pq = 1 from by omega]
      exact hC _ un_eq
    by_cases c : st T q t < q
    · have h7 : gI τ (B + 20) 7 = nI (kd (T (st T q t))) := by rw [h2.2.2, tkp, if_pos c]
      by_cases k2 : kd (T (st T q t)) = 2
      · have c50 : cT T q t = 50 := by rw [cT, if_pos c, cd, if_neg (by omega), if_pos k2]
        rw [k2] at h7
        by_cases v1 : vT T q t ≤ 1000
        · have em : min (vT T q t) 1001 = vT T q t := by omega
          have v2 : ¬ 1000 < vT T q t := by omega
          by_cases p5 : pq < 50
          · have hs : CS B q n T σ (sI τ (B + 20) 9 (nI (pq + 1))) t (pq + 1) z X nd := by
              refine ⟨⟨Sm_I h1.1 (Or.inl rfl), fun j hj => by rw [rI_nk (by omega)]; exact h1.2 j hj⟩, ⟨by rw [rI_nk (by omega)]; exact h2.1, by rw [rI_nk (by omega)]; exact h2.2.1, by rw [rI_nk (by omega)]; exact h2.2.2⟩, ⟨h3.1, by omega⟩, ⟨by rw [rI_nk (by omega)]; exact h4.1, by rw [rI_eq], by rw [rI_nk (by omega)]; exact h4.2.2⟩, ?_⟩
              rw [rI_ne (by omega)]
              exact h5
            simp (disch := omega) only [c_58, e_58_0, e_58_1, e_58_3, e_58_6, e_58_15, e_58_16, e_58_19, e_58_20, e_58_23, e_58_24, e_58_27, e_58_34, e_58_35, e_58_36, e_58_39, e_58_40, e_58_43, e_58_44, e_58_47, e_58_50, e_58_51, e_58_54, e_58_55, e_58_68, e_58_69, e_58_70, e_58_73, e_58_74, e_58_77, e_58_79, e_58_84, e_58_85, e_58_85n, e_58_86, e_58_89, e_58_90, e_58_91, e_58_94, e_58_95, e_58_98, e_58_99, e_58_113, e_58_114, e_58_115, e_58_118, e_58_119, e_58_122, e_58_123, e_58_126, e_58_127, n10, n01, Nat.lt_irrefl, Nat.not_lt_zero, ne_eq, Nat.add_zero, Nat.one_ne_zero, Nat.zero_ne_one, Nat.reduceEqDiff, bI_T, bI_F, bI_0, bI_1, bI_01, not_and_self, true_and, and_true, not_true_eq_false, not_false_eq_true, false_imp_iff, true_imp_iff, imp_self, gPv_n, gPv_i, gPv_r, gPv_0, Option.toList_some, Option.toList_none, List.singleton_append, List.cons_append, List.nil_append, List.length_nil, List.length_cons, Nat.zero_le, Nat.reduceAdd, Nat.reduceLeDiff, or_true, true_or, false_or, or_false, and_self, and_false, false_and, implies_true, Option.some.injEq, exists_eq_left', nL, nI_add, nI_mul, nI_clamp, nI_ltI, nI_leI, nI_eq, nI_pos, nI_pos', Nat.reduceAdd, Nat.reduceMul, Nat.reducePow, n_K_I, n_K_J, n_K_R, n_K_r, n_N_I, n_N_J, n_N_R, n_N_r, n_R_I, n_R_J, n_R_r, n_J_I, n_J_R, n_J_r, n_I_J, n_I_R, n_n_I, n_n_J, n_n_R, n_n_r, n_w_I, n_w_J, n_w_R, n_w_r, n_T_I, n_T_J, n_T_R, n_T_r, rI_ne, rI_nk, rI_eq, rr_ne, rr_eq, n_J_J, n_R_R, Nat.add_left_cancel_iff, Nat.add_right_cancel_iff, Nat.add_eq_left, Nat.left_eq_add, Nat.reduceEqDiff, Nat.reduceAdd, Nat.zero_ne_one, Nat.one_ne_zero, false_and, and_false, true_and, and_true, and_self, if_false, if_true, ↓reduceIte, sk_20 hv, sr_20_0 hv, sr_20_1 hv, sr_20_2 hv, sr_20_3 hv, sg, a1, h7, s_number Z h2 c k2, em, v2, h4.2.1, p5]
            refine good (vT T q t) 0 _ (Or.inl ⟨c50, v1⟩) (by omega) v1 p5 rfl ?_ _ nd hs (fun h => h) (Or.inr (fun W W' _ => by simp only [c50, if_true])) _
            intro X' hX'
            have := Cd_num (X := X') (s := z) (v := vT T q t) (by omega) v1
            simp only [c50, if_true]
            exact this
          · simp (disch := omega) only [c_58, e_58_0, e_58_1, e_58_3, e_58_6, e_58_15, e_58_16, e_58_19, e_58_20, e_58_23, e_58_24, e_58_27, e_58_34, e_58_35, e_58_36, e_58_39, e_58_40, e_58_43, e_58_44, e_58_47, e_58_50, e_58_51, e_58_54, e_58_55, e_58_68, e_58_69, e_58_70, e_58_73, e_58_74, e_58_77, e_58_79, e_58_82, e_58_83, n10, n01, Nat.lt_irrefl, Nat.not_lt_zero, ne_eq, Nat.add_zero, Nat.one_ne_zero, Nat.zero_ne_one, Nat.reduceEqDiff, bI_T, bI_F, bI_0, bI_1, bI_01, not_and_self, true_and, and_true, not_true_eq_false, not_false_eq_true, false_imp_iff, true_imp_iff, imp_self, gPv_n, gPv_i, gPv_r, gPv_0, Option.toList_some, Option.toList_none, List.singleton_append, List.cons_append, List.nil_append, List.length_nil, List.length_cons, Nat.zero_le, Nat.reduceAdd, Nat.reduceLeDiff, or_true, true_or, false_or, or_false, and_self, and_false, false_and, implies_true, Option.some.injEq, exists_eq_left', nL, nI_add, nI_mul, nI_clamp, nI_ltI, nI_leI, nI_eq, nI_pos, nI_pos', Nat.reduceAdd, Nat.reduceMul, Nat.reducePow, sk_20 hv, sr_20_0 hv, sr_20_1 hv, sr_20_2 hv, sr_20_3 hv, sg, a1, h7, s_number Z h2 c k2, em, v2, h4.2.1, p5]
            exact K0 τ t (by rw [if_neg (by omega)]) (CS_E h)
        · have em : min (vT T q t) 1001 = 1001 := by omega
          simp (disch := omega) only [c_58, e_58_0, e_58_1, e_58_3, e_58_6, e_58_15, e_58_16, e_58_19, e_58_20, e_58_23, e_58_24, e_58_27, e_58_34, e_58_35, e_58_36, e_58_39, e_58_40, e_58_43, e_58_44, e_58_47, e_58_50, e_58_51, e_58_54, e_58_55, e_58_68, e_58_69, e_58_70, e_58_82, e_58_83, n10, n01, Nat.lt_irrefl, Nat.not_lt_zero, ne_eq, Nat.add_zero, Nat.one_ne_zero, Nat.zero_ne_one, Nat.reduceEqDiff, bI_T, bI_F, bI_0, bI_1, bI_01, not_and_self, true_and, and_true, not_true_eq_false, not_false_eq_true, false_imp_iff, true_imp_iff, imp_self, gPv_n, gPv_i, gPv_r, gPv_0, Option.toList_some, Option.toList_none, List.singleton_append, List.cons_append, List.nil_append, List.length_nil, List.length_cons, Nat.zero_le, Nat.reduceAdd, Nat.reduceLeDiff, or_true, true_or, false_or, or_false, and_self, and_false, false_and, implies_true, Option.some.injEq, exists_eq_left', nL, nI_add, nI_mul, nI_clamp, nI_ltI, nI_leI, nI_eq, nI_pos, nI_pos', Nat.reduceAdd, Nat.reduceMul, Nat.reducePow, sk_20 hv, sr_20_0 hv, sr_20_1 hv, sr_20_2 hv, sr_20_3 hv, sg, a1, h7, s_number Z h2 c k2, em, Nat.reduceLT]
          exact K0 τ t (by rw [if_neg (by omega)]) (CS_E h)
      · have c50 : ¬ cT T q t = 50 := by
          rw [cT, if_pos c, cd, if_neg k2]
          split <;> omega
        by_cases a7 : 7 ≤ cT T q t ∧ cT T q t ≤ 15
        · have k1 : kd (T (st T q t)) = 1 := by
            by_cases k1 : kd (T (st T q t)) = 1
            · exact k1
            · rw [cT, if_pos c, cd, if_neg k1, if_neg k2] at a7
              omega
          rw [k1] at h7
          have nn : ¬ nI (cT T q t - 7) = -nI 1 := fun z => ng_ne 1 _ (by omega) (by omega) (by omega) z.symm
          by_cases p5 : pq < 50
          · have hC : ∀ X' : Nat → Nat, X' z = 1 * 4096 + (cT T q t - 7) → CdS X' z (z + 1) 1 (fun W => some (if cT T q t = 50 then (nI (vT T q t)).toInt64 else (W (cT T q t - 7)).toInt64)) := by
              intro X' hX'
              have := Cd_word (X := X') (s := z) (w := cT T q t - 7) (by omega) (by omega)
              simp only [c50, if_false]
              exact this
            by_cases d8 : cT T q t - 7 = 8
            · have hs : CS B q n T σ (sI (sI τ (B + 20) 9 (nI (pq + 1))) (B + 20) 11 (nI 1)) t (pq + 1) z X true := by
                refine ⟨⟨Sm_I (Sm_I h1.1 (Or.inl rfl)) (Or.inl rfl), fun j hj => by rw [rI_nk (by omega), rI_nk (by omega)]; exact h1.2 j hj⟩, ⟨by rw [rI_nk (by omega), rI_nk (by omega)]; exact h2.1, by rw [rI_nk (by omega), rI_nk (by omega)]; exact h2.2.1, by rw [rI_nk (by omega), rI_nk (by omega)]; exact h2.2.2⟩, ⟨h3.1, by omega⟩, ⟨by rw [rI_nk (by omega), rI_nk (by omega)]; exact h4.1, by rw [rI_nk (by omega), rI_eq], by rw [rI_eq]; rfl⟩, ?_⟩
                rw [rI_ne (by omega), rI_ne (by omega)]
                exact h5
              have g := good 8 1 _ (Or.inr a7) (by omega) (by omega) p5 rfl (by rw [← d8]; exact hC) _ true hs (fun _ => rfl) (Or.inl rfl)
              rw [d8] at nn
              simp (disch := omega) only [c_58, e_58_0, e_58_1, e_58_3, e_58_6, e_58_15, e_58_16, e_58_19, e_58_20, e_58_30, e_58_31, e_58_34, e_58_35, e_58_36, e_58_39, e_58_40, e_58_58, e_58_59, e_58_60, e_58_63, e_58_64, e_58_67, e_58_68, e_58_69, e_58_70, e_58_73, e_58_74, e_58_77, e_58_79, e_58_84, e_58_85, e_58_85n, e_58_86, e_58_89, e_58_90, e_58_91, e_58_94, e_58_95, e_58_98, e_58_99, e_58_102, e_58_103, e_58_105, e_58_108, e_58_109, e_58_110, e_58_113, e_58_114, e_58_115, e_58_118, e_58_119, e_58_122, e_58_123, e_58_126, e_58_127, n10, n01, Nat.lt_irrefl, Nat.not_lt_zero, ne_eq, Nat.add_zero, Nat.one_ne_zero, Nat.zero_ne_one, Nat.reduceEqDiff, bI_T, bI_F, bI_0, bI_1, bI_01, not_and_self, true_and, and_true, not_true_eq_false, not_false_eq_true, false_imp_iff, true_imp_iff, imp_self, gPv_n, gPv_i, gPv_r, gPv_0, Option.toList_some, Option.toList_none, List.singleton_append, List.cons_append, List.nil_append, List.length_nil, List.length_cons, Nat.zero_le, Nat.reduceAdd, Nat.reduceLeDiff, or_true, true_or, false_or, or_false, and_self, and_false, false_and, implies_true, Option.some.injEq, exists_eq_left', nL, nI_add, nI_mul, nI_clamp, nI_ltI, nI_leI, nI_eq, nI_pos, nI_pos', Nat.reduceAdd, Nat.reduceMul, Nat.reducePow, n_K_I, n_K_J, n_K_R, n_K_r, n_N_I, n_N_J, n_N_R, n_N_r, n_R_I, n_R_J, n_R_r, n_J_I, n_J_R, n_J_r, n_I_J, n_I_R, n_n_I, n_n_J, n_n_R, n_n_r, n_w_I, n_w_J, n_w_R, n_w_r, n_T_I, n_T_J, n_T_R, n_T_r, rI_ne, rI_nk, rI_eq, rr_ne, rr_eq, n_J_J, n_R_R, Nat.add_left_cancel_iff, Nat.add_right_cancel_iff, Nat.add_eq_left, Nat.left_eq_add, Nat.reduceEqDiff, Nat.reduceAdd, Nat.zero_ne_one, Nat.one_ne_zero, false_and, and_false, true_and, and_true, and_self, if_false, if_true, ↓reduceIte, sk_20 hv, sr_20_0 hv, sr_20_1 hv, sr_20_2 hv, sr_20_3 hv, sg, a1, h7, s_wordHere Z h2, a7, if_true, d8, nn, h4.2.1, p5]
              exact g _
            · have hs : CS B q n T σ (sI τ (B + 20) 9 (nI (pq + 1))) t (pq + 1) z X nd := by
                refine ⟨⟨Sm_I h1.1 (Or.inl rfl), fun j hj => by rw [rI_nk (by omega)]; exact h1.2 j hj⟩, ⟨by rw [rI_nk (by omega)]; exact h2.1, by rw [rI_nk (by omega)]; exact h2.2.1, by rw [rI_nk (by omega)]; exact h2.2.2⟩, ⟨h3.1, by omega⟩, ⟨by rw [rI_nk (by omega)]; exact h4.1, by rw [rI_eq], by rw [rI_nk (by omega)]; exact h4.2.2⟩, ?_⟩
                rw [rI_ne (by omega)]
                exact h5
              have g := good (cT T q t - 7) 1 _ (Or.inr a7) (by omega) (by omega) p5 rfl hC _ nd hs (fun h => h) (Or.inr (fun W W' hW => by simp only [c50, if_false]; rw [hW _ d8]))
              simp (disch := omega) only [c_58, e_58_0, e_58_1, e_58_3, e_58_6, e_58_15, e_58_16, e_58_19, e_58_20, e_58_30, e_58_31, e_58_34, e_58_35, e_58_36, e_58_39, e_58_40, e_58_58, e_58_59, e_58_60, e_58_63, e_58_64, e_58_67, e_58_68, e_58_69, e_58_70, e_58_73, e_58_74, e_58_77, e_58_79, e_58_84, e_58_85, e_58_85n, e_58_86, e_58_89, e_58_90, e_58_91, e_58_94, e_58_95, e_58_98, e_58_99, e_58_102, e_58_103, e_58_105, e_58_113, e_58_114, e_58_115, e_58_118, e_58_119, e_58_122, e_58_123, e_58_126, e_58_127, n10, n01, Nat.lt_irrefl, Nat.not_lt_zero, ne_eq, Nat.add_zero, Nat.one_ne_zero, Nat.zero_ne_one, Nat.reduceEqDiff, bI_T, bI_F, bI_0, bI_1, bI_01, not_and_self, true_and, and_true, not_true_eq_false, not_false_eq_true, false_imp_iff, true_imp_iff, imp_self, gPv_n, gPv_i, gPv_r, gPv_0, Option.toList_some, Option.toList_none, List.singleton_append, List.cons_append, List.nil_append, List.length_nil, List.length_cons, Nat.zero_le, Nat.reduceAdd, Nat.reduceLeDiff, or_true, true_or, false_or, or_false, and_self, and_false, false_and, implies_true, Option.some.injEq, exists_eq_left', nL, nI_add, nI_mul, nI_clamp, nI_ltI, nI_leI, nI_eq, nI_pos, nI_pos', Nat.reduceAdd, Nat.reduceMul, Nat.reducePow, n_K_I, n_K_J, n_K_R, n_K_r, n_N_I, n_N_J, n_N_R, n_N_r, n_R_I, n_R_J, n_R_r, n_J_I, n_J_R, n_J_r, n_I_J, n_I_R, n_n_I, n_n_J, n_n_R, n_n_r, n_w_I, n_w_J, n_w_R, n_w_r, n_T_I, n_T_J, n_T_R, n_T_r, rI_ne, rI_nk, rI_eq, rr_ne, rr_eq, n_J_J, n_R_R, Nat.add_left_cancel_iff, Nat.add_right_cancel_iff, Nat.add_eq_left, Nat.left_eq_add, Nat.reduceEqDiff, Nat.reduceAdd, Nat.zero_ne_one, Nat.one_ne_zero, false_and, and_false, true_and, and_true, and_self, if_false, if_true, ↓reduceIte, sk_20 hv, sr_20_0 hv, sr_20_1 hv, sr_20_2 hv, sr_20_3 hv, sg, a1, h7, s_wordHere Z h2, a7, if_true, d8, nn, h4.2.1, p5]
              exact g _
          · simp (disch := omega) only [c_58, e_58_0, e_58_1, e_58_3, e_58_6, e_58_15, e_58_16, e_58_19, e_58_20, e_58_30, e_58_31, e_58_34, e_58_35, e_58_36, e_58_39, e_58_40, e_58_58, e_58_59, e_58_60, e_58_63, e_58_64, e_58_67, e_58_68, e_58_69, e_58_70, e_58_73, e_58_74, e_58_77, e_58_79, e_58_82, e_58_83, n10, n01, Nat.lt_irrefl, Nat.not_lt_zero, ne_eq, Nat.add_zero, Nat.one_ne_zero, Nat.zero_ne_one, Nat.reduceEqDiff, bI_T, bI_F, bI_0, bI_1, bI_01, not_and_self, true_and, and_true, not_true_eq_false, not_false_eq_true, false_imp_iff, true_imp_iff, imp_self, gPv_n, gPv_i, gPv_r, gPv_0, Option.toList_some, Option.toList_none, List.singleton_append, List.cons_append, List.nil_append, List.length_nil, List.length_cons, Nat.zero_le, Nat.reduceAdd, Nat.reduceLeDiff, or_true, true_or, false_or, or_false, and_self, and_false, false_and, implies_true, Option.some.injEq, exists_eq_left', nL, nI_add, nI_mul, nI_clamp, nI_ltI, nI_leI, nI_eq, nI_pos, nI_pos', Nat.reduceAdd, Nat.reduceMul, Nat.reducePow, sk_20 hv, sr_20_0 hv, sr_20_1 hv, sr_20_2 hv, sr_20_3 hv, sg, a1, h7, s_wordHere Z h2, a7, if_true, nn, h4.2.1, p5]
            exact K0 τ t (by rw [if_neg (by omega)]) (CS_E h)
        · simp (disch := omega) only [c_58, e_58_0, e_58_1, e_58_3, e_58_6, e_58_15, e_58_16, e_58_19, e_58_20, e_58_30, e_58_31, e_58_34, e_58_35, e_58_36, e_58_39, e_58_40, e_58_58, e_58_59, e_58_60, e_58_63, e_58_64, e_58_67, e_58_68, e_58_69, e_58_70, e_58_82, e_58_83, n10, n01, Nat.lt_irrefl, Nat.not_lt_zero, ne_eq, Nat.add_zero, Nat.one_ne_zero, Nat.zero_ne_one, Nat.reduceEqDiff, bI_T, bI_F, bI_0, bI_1, bI_01, not_and_self, true_and, and_true, not_true_eq_false, not_false_eq_true, false_imp_iff, true_imp_iff, imp_self, gPv_n, gPv_i, gPv_r, gPv_0, Option.toList_some, Option.toList_none, List.singleton_append, List.cons_append, List.nil_append, List.length_nil, List.length_cons, Nat.zero_le, Nat.reduceAdd, Nat.reduceLeDiff, or_true, true_or, false_or, or_false, and_self, and_false, false_and, implies_true, Option.some.injEq, exists_eq_left', nL, nI_add, nI_mul, nI_clamp, nI_ltI, nI_leI, nI_eq, nI_pos, nI_pos', Nat.reduceAdd, Nat.reduceMul, Nat.reducePow, sk_20 hv, sr_20_0 hv, sr_20_1 hv, sr_20_2 hv, sr_20_3 hv, sg, a1, h7, k2, s_wordHere Z h2, a7, if_false]
          exact K0 τ t (by rw [if_neg (by omega)]) (CS_E h)
    · have h7 : gI τ (B + 20) 7 = nI 0 := by rw [h2.2.2, tkp, if_neg c]
      have c0 : cT T q t = 0 := by rw [cT, if_neg c]
      have a7 : ¬ (7 ≤ cT T q t ∧ cT T q t ≤ 15) := by omega
      simp (disch := omega) only [c_58, e_58_0, e_58_1, e_58_3, e_58_6, e_58_15, e_58_16, e_58_19, e_58_20, e_58_30, e_58_31, e_58_34, e_58_35, e_58_36, e_58_39, e_58_40, e_58_58, e_58_59, e_58_60, e_58_63, e_58_64, e_58_67, e_58_68, e_58_69, e_58_70, e_58_82, e_58_83, n10, n01, Nat.lt_irrefl, Nat.not_lt_zero, ne_eq, Nat.add_zero, Nat.one_ne_zero, Nat.zero_ne_one, Nat.reduceEqDiff, bI_T, bI_F, bI_0, bI_1, bI_01, not_and_self, true_and, and_true, not_true_eq_false, not_false_eq_true, false_imp_iff, true_imp_iff, imp_self, gPv_n, gPv_i, gPv_r, gPv_0, Option.toList_some, Option.toList_none, List.singleton_append, List.cons_append, List.nil_append, List.length_nil, List.length_cons, Nat.zero_le, Nat.reduceAdd, Nat.reduceLeDiff, or_true, true_or, false_or, or_false, and_self, and_false, false_and, implies_true, Option.some.injEq, exists_eq_left', nL, nI_add, nI_mul, nI_clamp, nI_ltI, nI_leI, nI_eq, nI_pos, nI_pos', Nat.reduceAdd, Nat.reduceMul, Nat.reducePow, sk_20 hv, sr_20_0 hv, sr_20_1 hv, sr_20_2 hv, sr_20_3 hv, sg, a1, h7, s_wordHere Z h2, a7, if_false]
      exact K0 τ t (by rw [if_neg (by omega)]) (CS_E h)
end
