/-! law -/
section
variable {B n cnt : Nat} {d : Nat} {Q : Option Value → gS → Prop} {σ : gS}
theorem t_lw1 (hv0 : IvS B σ) (hc : cnt < 6) (hn : n ≤ 400) (h15 : gI σ (B + 54) 15 = nI n) (K : ∀ τ' x2, Sm (fun a => a = B + 56) σ τ' → (∀ j, j < n → gI τ' (B + 56) (262 + 400 * cnt + j) = gI σ (B + 62) j ∧ gI τ' (B + 56) (2662 + 400 * cnt + j) = gI σ (B + 63) j) → (∀ x, ¬ (262 + 400 * cnt ≤ x ∧ x < 662 + 400 * cnt) → ¬ (2662 + 400 * cnt ≤ x ∧ x < 3062 + 400 * cnt) → gI τ' (B + 56) x = gI σ (B + 56) x) → wp d pr_214 Q 122 [some (.ref (B + 54)), some (.int (nI cnt)), x2] [] τ') : ∀ m i τ, i + m = n → Sm (fun a => a = B + 56) σ τ → (∀ j, j < i → gI τ (B + 56) (262 + 400 * cnt + j) = gI σ (B + 62) j ∧ gI τ (B + 56) (2662 + 400 * cnt + j) = gI σ (B + 63) j) → (∀ x, ¬ (262 + 400 * cnt ≤ x ∧ x < 662 + 400 * cnt) → ¬ (2662 + 400 * cnt ≤ x ∧ x < 3062 + 400 * cnt) → gI τ (B + 56) x = gI σ (B + 56) x) → wp d pr_214 Q 64 [some (.ref (B + 54)), some (.int (nI cnt)), some (.int (nI i))] [] τ := by
  intro m
  induction m with
  | zero =>
    intro i τ hi hS hR hR2
    have e : i = n := by omega
    subst e
    have hv : IvS B τ := fr_IvS hS.1 hS.2.1 hS.2.2.1 hv0
    have e54 : gI τ (B + 54) = gI σ (B + 54) := hS.2.2.2.2.2.2.1 _ (by omega)
    simp (disch := omega) only [e_214_64, e_214_65, e_214_66, e_214_69, n10, n01, Nat.lt_irrefl, Nat.not_lt_zero, ne_eq, Nat.add_zero, Nat.one_ne_zero, Nat.zero_ne_one, Nat.reduceEqDiff, bI_T, bI_F, bI_0, bI_1, bI_01, not_and_self, true_and, and_true, not_true_eq_false, not_false_eq_true, false_imp_iff, true_imp_iff, imp_self, gPv_n, gPv_i, gPv_r, gPv_0, Option.toList_some, Option.toList_none, List.singleton_append, List.cons_append, List.nil_append, List.length_nil, List.length_cons, Nat.zero_le, Nat.reduceAdd, Nat.reduceLeDiff, or_true, true_or, false_or, or_false, and_self, and_false, false_and, implies_true, Option.some.injEq, exists_eq_left', nL, nI_add, nI_mul, nI_clamp, nI_ltI, nI_leI, nI_eq, nI_pos, nI_pos', Nat.reduceAdd, Nat.reduceMul, Nat.reducePow, sk_54 hv, sr_54_2 hv, sr_54_3 hv, sr_54_4 hv, sr_54_5 hv, sr_54_7 hv, sr_54_8 hv, sr_54_9 hv, sr_54_12 hv, sr_54_13 hv, sr_54_14 hv, sr_54_22 hv, sr_54_25 hv, sr_54_26 hv, sr_54_27 hv, sr_54_34 hv, sr_54_35 hv, sr_54_36 hv, sr_54_37 hv, sr_54_38 hv, sr_54_40 hv, sr_54_43 hv, sr_54_44 hv, sr_54_45 hv, sr_54_46 hv, sr_54_47 hv, e54, h15, Nat.le_refl]
    exact K τ _ hS hR hR2
  | succ m ih =>
    intro i τ hi hS hR hR2
    have hv : IvS B τ := fr_IvS hS.1 hS.2.1 hS.2.2.1 hv0
    have z : ¬ n ≤ i := by omega
    have z1 : i < 401 := by omega
    have z2 : 262 + 400 * cnt + i < 5062 := by omega
    have z3 : 2662 + 400 * cnt + i < 5062 := by omega
    have e54 : gI τ (B + 54) = gI σ (B + 54) := hS.2.2.2.2.2.2.1 _ (by omega)
    have e62 : gI τ (B + 62) = gI σ (B + 62) := hS.2.2.2.2.2.2.1 _ (by omega)
    have e63 : gI τ (B + 63) = gI σ (B + 63) := hS.2.2.2.2.2.2.1 _ (by omega)
    rw [e_214_64]
    simp (disch := omega) only [e_214_65, e_214_66, e_214_69, e_214_72, e_214_73, e_214_76, e_214_79, e_214_82, e_214_83, e_214_84, e_214_85, e_214_86, e_214_87, e_214_88, e_214_91, e_214_92, e_214_93, e_214_94, e_214_95, e_214_98, e_214_101, e_214_104, e_214_105, e_214_106, e_214_107, e_214_108, e_214_109, e_214_110, e_214_113, e_214_114, e_214_115, e_214_116, e_214_119, n10, n01, Nat.lt_irrefl, Nat.not_lt_zero, ne_eq, Nat.add_zero, Nat.one_ne_zero, Nat.zero_ne_one, Nat.reduceEqDiff, bI_T, bI_F, bI_0, bI_1, bI_01, not_and_self, true_and, and_true, not_true_eq_false, not_false_eq_true, false_imp_iff, true_imp_iff, imp_self, gPv_n, gPv_i, gPv_r, gPv_0, Option.toList_some, Option.toList_none, List.singleton_append, List.cons_append, List.nil_append, List.length_nil, List.length_cons, Nat.zero_le, Nat.reduceAdd, Nat.reduceLeDiff, or_true, true_or, false_or, or_false, and_self, and_false, false_and, implies_true, Option.some.injEq, exists_eq_left', nL, nI_add, nI_mul, nI_clamp, nI_ltI, nI_leI, nI_eq, nI_pos, nI_pos', Nat.reduceAdd, Nat.reduceMul, Nat.reducePow, n_K_I, n_K_J, n_K_R, n_K_r, n_N_I, n_N_J, n_N_R, n_N_r, n_R_I, n_R_J, n_R_r, n_J_I, n_J_R, n_J_r, n_I_J, n_I_R, n_n_I, n_n_J, n_n_R, n_n_r, n_w_I, n_w_J, n_w_R, n_w_r, n_T_I, n_T_J, n_T_R, n_T_r, rI_ne, rI_nk, rI_eq, rr_ne, rr_eq, n_J_J, n_R_R, Nat.add_left_cancel_iff, Nat.add_right_cancel_iff, Nat.add_eq_left, Nat.left_eq_add, Nat.reduceEqDiff, Nat.reduceAdd, Nat.zero_ne_one, Nat.one_ne_zero, false_and, and_false, true_and, and_true, and_self, if_false, if_true, ↓reduceIte, sk_54 hv, sr_54_2 hv, sr_54_3 hv, sr_54_4 hv, sr_54_5 hv, sr_54_7 hv, sr_54_8 hv, sr_54_9 hv, sr_54_12 hv, sr_54_13 hv, sr_54_14 hv, sr_54_22 hv, sr_54_25 hv, sr_54_26 hv, sr_54_27 hv, sr_54_34 hv, sr_54_35 hv, sr_54_36 hv, sr_54_37 hv, sr_54_38 hv, sr_54_40 hv, sr_54_43 hv, sr_54_44 hv, sr_54_45 hv, sr_54_46 hv, sr_54_47 hv, sk_56 hv, sn_56 hv, sk_62 hv, sn_62 hv, sk_63 hv, sn_63 hv, z, z1, z2, z3, e54, e62, e63, h15]
    refine ih (i + 1) _ (by omega) (Sm_I (Sm_I hS rfl) rfl) ?_ ?_
    · intro j hj
      by_cases g : j = i
      · rw [g]
        exact ⟨by rw [rI_nk (by omega), rI_eq], by rw [rI_eq]⟩
      · rw [rI_nk (by omega), rI_nk (by omega), rI_nk (by omega), rI_nk (by omega)]; exact hR j (by omega)
    · intro x hx hx2
      rw [rI_nk (by omega), rI_nk (by omega)]
      exact hR2 x hx hx2
theorem IvS_R8 {i : Nat} {v : Option Nat} : IvS B (sR σ (B + 8) i v) ↔ IvS B σ := by
  have e : ∀ a, a ≠ B + 8 → gR (sR σ (B + 8) i v) a = gR σ a := fun a ha => by
    funext j
    rw [n_R_R, if_neg (fun z => ha z.1)]
  constructor
  · intro ⟨h1, h2⟩
    refine ⟨fun o ho => by have := h1 o ho; simp only [n_K_R, n_N_R] at this; exact this, fun r hr => ?_⟩
    have := rT_8 r hr
    rw [← e _ (by omega)]
    exact h2 r hr
  · intro ⟨h1, h2⟩
    refine ⟨fun o ho => by simp only [n_K_R, n_N_R]; exact h1 o ho, fun r hr => ?_⟩
    have := rT_8 r hr
    rw [e _ (by omega)]
    exact h2 r hr
theorem st_ex {T : Nat → Nat} {q : Nat} : ∃ n, (∀ i, i < n → st T q i < q) ∧ st T q n = q := by
  have : ∃ t, st T q t = q := by
    by_cases c : ∃ t, st T q t = q
    · exact c
    · exfalso
      have h : ∀ t, t < q + 1 → st T q t < q := fun t _ => by
        have := st_le (T := T) (q := q) t
        have : st T q t ≠ q := fun z => c ⟨t, z⟩
        omega
      have := st_ge h (q + 1) (Nat.le_refl _)
      have := st_le (T := T) (q := q) (q + 1)
      omega
  obtain ⟨t, ht⟩ := this
  obtain ⟨n, h1, h2⟩ := min_ex (P := fun t => st T q t = q) ht
  refine ⟨n, fun i hi => ?_, h1⟩
  have := st_le (T := T) (q := q) i
  have : st T q i ≠ q := fun z => by have := h2 i z; omega
  omega
theorem st_un {T : Nat → Nat} {q n n' : Nat} (h1 : ∀ i, i < n → st T q i < q) (h2 : st T q n = q) (h3 : ∀ i, i < n' → st T q i < q) (h4 : st T q n' = q) : n' = n := by
  by_cases c : n' < n
  · have := h1 n' c; omega
  · by_cases c2 : n < n'
    · have := h3 n c2; omega
    · omega
theorem tok_of {T : Nat → Nat} {q : Nat} {Co Va : Nat → Int32} {t pq : Nat} {L : List zC} (hT : ∀ i, i < q → T i < 256) (hn : st T q n = q) (hn4 : n ≤ 400) (h : ∀ j, j < n → Co j = nI (cT T q j) ∧ Va j = nI (vT T q j)) (hp : pT T q n = .inr (t, pq, L)) : TokOK Co Va n L := by
  have e1 : tkC Co n = cT T q := by
    funext j
    rw [tkC]
    by_cases c : j < n
    · have := cT_b hT j
      rw [if_pos c, (h j c).1, nI_clamp (by omega)]
    · rw [if_neg c, cT_0 hn (by omega)]
  have e2 : ∀ j, j < n → tkV Va j = vT T q j := fun j hj => by
    have := vT_b hT j
    rw [tkV, (h j hj).2, nI_clamp (by omega)]
  refine ⟨⟨t, pq, ?_⟩, hn4, fun j hj => ⟨?_, ?_, ?_⟩⟩
  · rw [tkL, e1, ← hp]
    refine pLawL_c ?_ _ _ _
    intro j hj
    by_cases c : j < n
    · exact e2 j c
    · rw [cT_0 hn (by omega)] at hj; omega
  · rw [e1]; exact (h j hj).1
  · rw [e1]; exact cT_b hT j
  · rw [e2 j hj]; exact (h j hj).2
end
section
variable {G : gG}
set_option maxHeartbeats 2000000 in
theorem ob_law : gOb (Inv LSx CVx MVx G) (gb G) (gB G) (gB G + 54) 126 214 0 := by
  intro σ k as hl hk hI
  obtain rfl := len0 hl
  have hv := Inv_Sh hI
  have hb := Inv_b hI
  obtain ⟨own, i1, i2, i3, i4, i5, i6, i7, i8, i9, i10, i11⟩ := id hI
  have n80 : gB G + 80 ≤ gn σ := i1.2.2.2.2.2.2.1
  have wl := i4.1.2.2.2.2
  obtain ⟨cnt, c254, c6⟩ := wl.1
  have hcn : an (gI σ (gB G + 56)) 254 = cnt := an_v c254 (by omega)
  have t10 : gI σ (gB G + 1) 10 = nI cnt := i4.2.1.2.2.2.2.1.trans c254
  obtain ⟨q, q1, q2, q3, q4⟩ := i6
  have z254 : 254 < 5062 := by omega
  by_cases h6 : cnt = 6
  · subst h6
    simp (disch := first | omega | (simp only [IvS_I, IvS_J, IvS_r]; assumption)) only [List.map_cons, List.map_nil, Value.int.injEq, gSc_r, gSc_I, n10, n01, Nat.lt_irrefl, Nat.not_lt_zero, ne_eq, Nat.add_zero, Nat.one_ne_zero, Nat.zero_ne_one, Nat.reduceEqDiff, bI_T, bI_F, bI_0, bI_1, bI_01, not_and_self, true_and, and_true, not_true_eq_false, not_false_eq_true, false_imp_iff, true_imp_iff, imp_self, gPv_n, gPv_i, gPv_r, gPv_0, Option.toList_some, Option.toList_none, List.singleton_append, List.cons_append, List.nil_append, List.length_nil, List.length_cons, Nat.zero_le, Nat.reduceAdd, Nat.reduceLeDiff, or_true, true_or, false_or, or_false, and_self, and_false, false_and, implies_true, Option.some.injEq, exists_eq_left', nL, nI_add, nI_mul, nI_clamp, nI_ltI, nI_leI, nI_eq, nI_pos, nI_pos', Nat.reduceAdd, Nat.reduceMul, Nat.reducePow, c_126, e_126_0, e_126_1, e_126_4, e_126_5, e_126_6, e_126_7, e_126_10, e_126_11, e_126_14, e_126_17, e_126_19, e_126_22, e_126_23, e_126_25, e_126_28, c_214, e_214_0, e_214_1, e_214_4, e_214_7, e_214_8, e_214_10, e_214_13, e_214_14, e_214_15, e_214_18, e_214_19, e_214_21, e_214_24, sk_0 hv, sr_0_0 hv, sr_0_1 hv, sr_0_2 hv, sr_0_4 hv, sr_0_7 hv, sr_0_9 hv, sr_0_10 hv, sr_0_11 hv, sr_0_12 hv, sr_0_13 hv, sr_0_14 hv, sk_1 hv, sr_1_0 hv, sr_1_1 hv, sr_1_2 hv, sr_1_3 hv, sr_1_4 hv, sr_1_7 hv, sr_1_9 hv, sr_1_14 hv, sr_1_15 hv, sr_1_16 hv, sk_54 hv, sr_54_2 hv, sr_54_3 hv, sr_54_4 hv, sr_54_5 hv, sr_54_7 hv, sr_54_8 hv, sr_54_9 hv, sr_54_12 hv, sr_54_13 hv, sr_54_14 hv, sr_54_22 hv, sr_54_25 hv, sr_54_26 hv, sr_54_27 hv, sr_54_34 hv, sr_54_35 hv, sr_54_36 hv, sr_54_37 hv, sr_54_38 hv, sr_54_40 hv, sr_54_43 hv, sr_54_44 hv, sr_54_45 hv, sr_54_46 hv, sr_54_47 hv, sk_56 hv, sn_56 hv, n_K_I, n_K_J, n_K_R, n_K_r, n_N_I, n_N_J, n_N_R, n_N_r, n_R_I, n_R_J, n_R_r, n_J_I, n_J_R, n_J_r, n_I_J, n_I_R, n_n_I, n_n_J, n_n_R, n_n_r, n_w_I, n_w_J, n_w_R, n_w_r, n_T_I, n_T_J, n_T_R, n_T_r, rI_ne, rI_nk, rI_eq, rr_ne, rr_eq, n_J_J, n_R_R, Nat.add_left_cancel_iff, Nat.add_right_cancel_iff, Nat.add_eq_left, Nat.left_eq_add, Nat.reduceEqDiff, Nat.reduceAdd, Nat.zero_ne_one, Nat.one_ne_zero, false_and, and_false, true_and, and_true, and_self, if_false, if_true, ↓reduceIte, c254, t10, q2, z254, s_refuse_5, t_refuses_5]
    refine Inv_same6 (by repeat (first | exact Sm_refl _ _ | refine Sm_B ?_ (by decide) | refine Sm_B0 ?_)) hI (by intros; simp (disch := omega) only [rI_ne]) ?_ (by intros; simp (disch := omega) only [rI_ne, rI_nk]) (Or.inl (by simp (disch := omega) only [rI_ne, rI_nk])) (by intro h; simp only [I7] at h ⊢; simp (disch := omega) only [rI_ne, rI_nk, rI_eq, h, and_self]) hk
    intro _
    exact ⟨0, by omega, by simp (disch := omega) only [rI_ne, rI_nk, rI_eq], by simp (disch := omega) only [rI_ne, rI_nk, rI_eq], fun j hj => absurd hj (by omega)⟩
  · have c6' : cnt < 6 := by omega
    obtain ⟨T, hTT⟩ : ∃ T : Nat → Nat, ∀ j, j < q → (gI σ (gB G + 19) j = nI (T j) ∧ T j < 256) ∧ gI σ (gB G + 60) j = sb (T j) := by
      refine ⟨fun j => (gI σ (gB G + 19) j).toNatClampNeg, fun j hj => ?_⟩
      obtain ⟨b, b1, b2, b3⟩ := q4 j hj
      simp only [b2]
      rw [nI_clamp (by omega)]
      exact ⟨⟨rfl, b1⟩, b3⟩
    obtain ⟨n, hl, hn⟩ := st_ex (T := T) (q := q)
    have hnq : n ≤ q := by
      have := st_ge hl n (Nat.le_refl _)
      rw [hn] at this
      exact this
    simp (disch := first | omega | assumption) only [List.map_cons, List.map_nil, Value.int.injEq, gSc_r, gSc_I, n10, n01, Nat.lt_irrefl, Nat.not_lt_zero, ne_eq, Nat.add_zero, Nat.one_ne_zero, Nat.zero_ne_one, Nat.reduceEqDiff, bI_T, bI_F, bI_0, bI_1, bI_01, not_and_self, true_and, and_true, not_true_eq_false, not_false_eq_true, false_imp_iff, true_imp_iff, imp_self, gPv_n, gPv_i, gPv_r, gPv_0, Option.toList_some, Option.toList_none, List.singleton_append, List.cons_append, List.nil_append, List.length_nil, List.length_cons, Nat.zero_le, Nat.reduceAdd, Nat.reduceLeDiff, or_true, true_or, false_or, or_false, and_self, and_false, false_and, implies_true, Option.some.injEq, exists_eq_left', nL, nI_add, nI_mul, nI_clamp, nI_ltI, nI_leI, nI_eq, nI_pos, nI_pos', Nat.reduceAdd, Nat.reduceMul, Nat.reducePow, c_126, e_126_0, e_126_1, e_126_4, e_126_5, e_126_6, e_126_7, e_126_10, e_126_11, e_126_14, e_126_17, e_126_19, e_126_22, e_126_23, e_126_25, e_126_28, e_126_29, e_126_30, e_126_33, e_126_34, sk_0 hv, sr_0_0 hv, sr_0_1 hv, sr_0_2 hv, sr_0_4 hv, sr_0_7 hv, sr_0_9 hv, sr_0_10 hv, sr_0_11 hv, sr_0_12 hv, sr_0_13 hv, sr_0_14 hv, sk_1 hv, sr_1_0 hv, sr_1_1 hv, sr_1_2 hv, sr_1_3 hv, sr_1_4 hv, sr_1_7 hv, sr_1_9 hv, sr_1_14 hv, sr_1_15 hv, sr_1_16 hv, sk_20 hv, sr_20_0 hv, sr_20_1 hv, sr_20_2 hv, sr_20_3 hv, n_K_I, n_K_J, n_K_R, n_K_r, n_N_I, n_N_J, n_N_R, n_N_r, n_R_I, n_R_J, n_R_r, n_J_I, n_J_R, n_J_r, n_I_J, n_I_R, n_n_I, n_n_J, n_n_R, n_n_r, n_w_I, n_w_J, n_w_R, n_w_r, n_T_I, n_T_J, n_T_R, n_T_r, rI_ne, rI_nk, rI_eq, rr_ne, rr_eq, n_J_J, n_R_R, Nat.add_left_cancel_iff, Nat.add_right_cancel_iff, Nat.add_eq_left, Nat.left_eq_add, Nat.reduceEqDiff, Nat.reduceAdd, Nat.zero_ne_one, Nat.one_ne_zero, false_and, and_false, true_and, and_true, and_self, if_false, if_true, ↓reduceIte, t10, q2, h6, c6']
    generalize hσ1 : sI σ (gB G) 3 (nI 0) = σ1
    have S1 : Sm (fun a => a = gB G) σ σ1 := by rw [← hσ1]; exact Sm_I (Sm_refl _ _) rfl
    have hv1 : IvS (gB G) σ1 := fr_IvS S1.1 S1.2.1 S1.2.2.1 hv
    have r1 : ∀ a, a ≠ gB G → gI σ1 a = gI σ a := fun a ha => S1.2.2.2.2.2.2.1 a ha
    have b3 : gI σ1 (gB G) 3 = nI 0 := by rw [← hσ1, rI_eq]
    have bj : ∀ j, j ≠ 3 → gI σ1 (gB G) j = gI σ (gB G) j := fun j hj => by rw [← hσ1, rI_nk hj]
    have gn1 : gn σ1 = gn σ := S1.2.2.2.1
    refine s_read (d := 952) (T := T) (n := n) hv1 (fr_I12 S1.1 S1.2.2.2.2.2.1 i11.2.2.2) (by omega) q1 (fun j hj => by rw [r1 _ (by omega)]; exact (hTT j hj).1) hl hn ?_ ?_
    · intro τ1 e he S2 e12
      have hv2 : IvS (gB G) τ1 := fr_IvS S2.1 S2.2.1 S2.2.2.1 hv1
      simp (disch := first | omega | assumption | (simp only [IvS_I]; assumption)) only [n10, n01, Nat.lt_irrefl, Nat.not_lt_zero, ne_eq, Nat.add_zero, Nat.one_ne_zero, Nat.zero_ne_one, Nat.reduceEqDiff, bI_T, bI_F, bI_0, bI_1, bI_01, not_and_self, true_and, and_true, not_true_eq_false, not_false_eq_true, false_imp_iff, true_imp_iff, imp_self, gPv_n, gPv_i, gPv_r, gPv_0, Option.toList_some, Option.toList_none, List.singleton_append, List.cons_append, List.nil_append, List.length_nil, List.length_cons, Nat.zero_le, Nat.reduceAdd, Nat.reduceLeDiff, or_true, true_or, false_or, or_false, and_self, and_false, false_and, implies_true, Option.some.injEq, exists_eq_left', nL, nI_add, nI_mul, nI_clamp, nI_ltI, nI_leI, nI_eq, nI_pos, nI_pos', Nat.reduceAdd, Nat.reduceMul, Nat.reducePow, e_126_37, e_126_37n, e_126_38, e_126_39, e_126_40, e_126_43, e_126_46, e_126_49, e_126_49n, e_126_50, e_126_50n, e_126_53, e_126_54, e_126_56, e_126_59, c_43, e_43_0, e_43_1, e_43_4, sk_0 hv2, sr_0_0 hv2, sr_0_1 hv2, sr_0_2 hv2, sr_0_4 hv2, sr_0_7 hv2, sr_0_9 hv2, sr_0_10 hv2, sr_0_11 hv2, sr_0_12 hv2, sr_0_13 hv2, sr_0_14 hv2, sk_20 hv2, sr_20_0 hv2, sr_20_1 hv2, sr_20_2 hv2, sr_20_3 hv2, n_K_I, n_K_J, n_K_R, n_K_r, n_N_I, n_N_J, n_N_R, n_N_r, n_R_I, n_R_J, n_R_r, n_J_I, n_J_R, n_J_r, n_I_J, n_I_R, n_n_I, n_n_J, n_n_R, n_n_r, n_w_I, n_w_J, n_w_R, n_w_r, n_T_I, n_T_J, n_T_R, n_T_r, rI_ne, rI_nk, rI_eq, rr_ne, rr_eq, n_J_J, n_R_R, Nat.add_left_cancel_iff, Nat.add_right_cancel_iff, Nat.add_eq_left, Nat.left_eq_add, Nat.reduceEqDiff, Nat.reduceAdd, Nat.zero_ne_one, Nat.one_ne_zero, false_and, and_false, true_and, and_true, and_self, if_false, if_true, ↓reduceIte, e12, s_refuse_6]
      generalize hτ2 : sI (sI (sI τ1 (gB G) 5 _) (gB G) 8 _) (gB G + 24) 4 _ = τ2
      have S3 : Sm (fun a => a = gB G ∨ a = gB G + 24) τ1 τ2 := by rw [← hτ2]; exact Sm_I (Sm_I (Sm_I (Sm_refl _ _) (Or.inl rfl)) (Or.inl rfl)) (Or.inr rfl)
      have hv3 : IvS (gB G) τ2 := fr_IvS S3.1 S3.2.1 S3.2.2.1 hv2
      have b0 : gI τ1 (gB G) = gI σ1 (gB G) := S2.2.2.2.2.2.2.1 _ (by omega)
      have b24 : gI τ1 (gB G + 24) = gI σ (gB G + 24) := by rw [S2.2.2.2.2.2.2.1 _ (by omega), r1 _ (by omega)]
      have d5 : gI τ2 (gB G) 5 = nI (st T q e) := by rw [← hτ2, rI_ne (by omega), rI_nk (by omega), rI_eq]
      have d8 : gI τ2 (gB G) 8 = -nI 6 := by rw [← hτ2, rI_ne (by omega), rI_eq]
      have d3 : gI τ2 (gB G) 3 = nI 0 := by rw [← hτ2, rI_ne (by omega), rI_nk (by omega), rI_nk (by omega), b0]; exact b3
      have d6 : gI τ2 (gB G) 6 = gI σ (gB G) 6 := by rw [← hτ2, rI_ne (by omega), rI_nk (by omega), rI_nk (by omega), b0]; exact bj 6 (by omega)
      have d24 : ∀ j, j ≠ 4 → gI τ2 (gB G + 24) j = gI σ (gB G + 24) j := fun j hj => by rw [← hτ2, rI_nk hj, rI_ne (by omega), rI_ne (by omega), b24]
      have d244 : gI τ2 (gB G + 24) 4 = gI σ (gB G + 24) 4 + nI 1 := by rw [← hτ2, rI_eq, b24]
      have g2 : ∀ a, a ≠ gB G → a ≠ gB G + 24 → ¬ (gB G + 20 ≤ a ∧ a ≤ gB G + 23) → gI τ2 a = gI σ a := fun a h1 h2 h3 => by
        rw [S3.2.2.2.2.2.2.1 a (by omega), S2.2.2.2.2.2.2.1 a h3, r1 a h1]
      refine ⟨⟨⟨by rw [S3.1, S2.1, S1.1], by rw [S3.2.1, S2.2.1, S1.2.1], g2 _ (by omega) (by omega) (by omega)⟩, sk_54 hv2⟩, _, rfl, ?_⟩
      have m254 : gI τ2 (gB G + 56) 254 = nI cnt := by rw [g2 _ (by omega) (by omega) (by omega)]; exact c254
      have m10 : gI τ2 (gB G + 54) 10 = nI q := by rw [g2 _ (by omega) (by omega) (by omega)]; exact q3
      simp (disch := first | omega | assumption) only [List.map_cons, List.map_nil, Value.int.injEq, gSc_r, gSc_I, n10, n01, Nat.lt_irrefl, Nat.not_lt_zero, ne_eq, Nat.add_zero, Nat.one_ne_zero, Nat.zero_ne_one, Nat.reduceEqDiff, bI_T, bI_F, bI_0, bI_1, bI_01, not_and_self, true_and, and_true, not_true_eq_false, not_false_eq_true, false_imp_iff, true_imp_iff, imp_self, gPv_n, gPv_i, gPv_r, gPv_0, Option.toList_some, Option.toList_none, List.singleton_append, List.cons_append, List.nil_append, List.length_nil, List.length_cons, Nat.zero_le, Nat.reduceAdd, Nat.reduceLeDiff, or_true, true_or, false_or, or_false, and_self, and_false, false_and, implies_true, Option.some.injEq, exists_eq_left', nL, nI_add, nI_mul, nI_clamp, nI_ltI, nI_leI, nI_eq, nI_pos, nI_pos', Nat.reduceAdd, Nat.reduceMul, Nat.reducePow, c_214, e_214_0, e_214_1, e_214_4, e_214_7, e_214_8, e_214_10, e_214_25, e_214_26, sk_54 hv3, sr_54_2 hv3, sr_54_3 hv3, sr_54_4 hv3, sr_54_5 hv3, sr_54_7 hv3, sr_54_8 hv3, sr_54_9 hv3, sr_54_12 hv3, sr_54_13 hv3, sr_54_14 hv3, sr_54_22 hv3, sr_54_25 hv3, sr_54_26 hv3, sr_54_27 hv3, sr_54_34 hv3, sr_54_35 hv3, sr_54_36 hv3, sr_54_37 hv3, sr_54_38 hv3, sr_54_40 hv3, sr_54_43 hv3, sr_54_44 hv3, sr_54_45 hv3, sr_54_46 hv3, sr_54_47 hv3, sk_56 hv3, sn_56 hv3, m254, z254, h6]
      refine t_reads (d := 963) (T := T) (q := q) ⟨hv3, by rw [g2 _ (by omega) (by omega) (by omega)]; exact i11.2.2.1, q1, fun j hj => by rw [g2 _ (by omega) (by omega) (by omega)]; exact ⟨(hTT j hj).2, (hTT j hj).1.2⟩⟩ m10 ?_
      intro τ3 n' r S4 f4 f10 f15 hl' hn' hSp hr
      obtain rfl := st_un hl hn hl' hn'
      have hv4 : IvS (gB G) τ3 := fr_IvS S4.1 S4.2.1 S4.2.2.1 hv3
      rcases hr with ⟨e', he', f11, rfl⟩ | ⟨y, hy, _, _⟩
      · rw [he] at he'
        obtain rfl := Sum.inl.inj he'
        simp (disch := first | omega | assumption) only [List.map_cons, List.map_nil, Value.int.injEq, gSc_r, gSc_I, n10, n01, Nat.lt_irrefl, Nat.not_lt_zero, ne_eq, Nat.add_zero, Nat.one_ne_zero, Nat.zero_ne_one, Nat.reduceEqDiff, bI_T, bI_F, bI_0, bI_1, bI_01, not_and_self, true_and, and_true, not_true_eq_false, not_false_eq_true, false_imp_iff, true_imp_iff, imp_self, gPv_n, gPv_i, gPv_r, gPv_0, Option.toList_some, Option.toList_none, List.singleton_append, List.cons_append, List.nil_append, List.length_nil, List.length_cons, Nat.zero_le, Nat.reduceAdd, Nat.reduceLeDiff, or_true, true_or, false_or, or_false, and_self, and_false, false_and, implies_true, Option.some.injEq, exists_eq_left', nL, nI_add, nI_mul, nI_clamp, nI_ltI, nI_leI, nI_eq, nI_pos, nI_pos', Nat.reduceAdd, Nat.reduceMul, Nat.reducePow, e_214_29, e_214_32, e_214_33, e_214_35, e_214_38, sk_54 hv4, sr_54_2 hv4, sr_54_3 hv4, sr_54_4 hv4, sr_54_5 hv4, sr_54_7 hv4, sr_54_8 hv4, sr_54_9 hv4, sr_54_12 hv4, sr_54_13 hv4, sr_54_14 hv4, sr_54_22 hv4, sr_54_25 hv4, sr_54_26 hv4, sr_54_27 hv4, sr_54_34 hv4, sr_54_35 hv4, sr_54_36 hv4, sr_54_37 hv4, sr_54_38 hv4, sr_54_40 hv4, sr_54_43 hv4, sr_54_44 hv4, sr_54_45 hv4, sr_54_46 hv4, sr_54_47 hv4, n_K_I, n_K_J, n_K_R, n_K_r, n_N_I, n_N_J, n_N_R, n_N_r, n_R_I, n_R_J, n_R_r, n_J_I, n_J_R, n_J_r, n_I_J, n_I_R, n_n_I, n_n_J, n_n_R, n_n_r, n_w_I, n_w_J, n_w_R, n_w_r, n_T_I, n_T_J, n_T_R, n_T_r, rI_ne, rI_nk, rI_eq, rr_ne, rr_eq, n_J_J, n_R_R, Nat.add_left_cancel_iff, Nat.add_right_cancel_iff, Nat.add_eq_left, Nat.left_eq_add, Nat.reduceEqDiff, Nat.reduceAdd, Nat.zero_ne_one, Nat.one_ne_zero, false_and, and_false, true_and, and_true, and_self, if_false, if_true, ↓reduceIte, t_refuses_6]
        generalize hτ5 : sI (sI τ3 (gB G + 54) 0 _) (gB G + 55) 6 _ = τ5
        have S5 : Sm (fun a => a = gB G + 54 ∨ a = gB G + 55) τ3 τ5 := by rw [← hτ5]; exact Sm_I (Sm_I (Sm_refl _ _) (Or.inl rfl)) (Or.inr rfl)
        have m55 : gI τ3 (gB G + 55) = gI σ (gB G + 55) := by rw [S4.2.2.2.2.2.2.1 _ (by omega), g2 _ (by omega) (by omega) (by omega)]
        have w54 : ∀ j, j ≠ 0 → gI τ5 (gB G + 54) j = gI τ3 (gB G + 54) j := fun j hj => by rw [← hτ5, rI_ne (by omega), rI_nk hj]
        have w540 : gI τ5 (gB G + 54) 0 = -nI 6 := by rw [← hτ5, rI_ne (by omega), rI_eq]
        have w55 : ∀ j, j ≠ 6 → gI τ5 (gB G + 55) j = gI σ (gB G + 55) j := fun j hj => by rw [← hτ5, rI_nk hj, rI_ne (by omega), m55]
        have w556 : gI τ5 (gB G + 55) 6 = gI σ (gB G + 55) 6 + nI 1 := by rw [← hτ5, rI_eq, m55]
        have g5 : ∀ a, a ≠ gB G + 54 → a ≠ gB G + 55 → ¬ (gB G + 62 ≤ a ∧ a ≤ gB G + 64) → gI τ5 a = gI τ2 a := fun a h1 h2 h3 => by
          rw [S5.2.2.2.2.2.2.1 a (by omega), S4.2.2.2.2.2.2.1 a (by omega)]
        have f54 : ∀ j, j ≠ 0 → j ≠ 10 → j ≠ 11 → j ≠ 15 → j ≠ 16 → j ≠ 17 → j ≠ 18 → gI τ5 (gB G + 54) j = gI σ (gB G + 54) j := fun j h0 h1 h2 h3 h4 h5 h6 => by
          rw [w54 j h0, f4 j h1 h2 h3 h4 h5 h6, g2 _ (by omega) (by omega) (by omega)]
        refine Inv_same7 (Sm_trans (Sm_mono S1 (fun a ha => by omega)) (Sm_trans (Sm_mono S2 (fun a ha => by omega)) (Sm_trans (Sm_mono S3 (fun a ha => by omega)) (Sm_trans (Sm_mono S4 (fun a ha => by omega)) (Sm_mono S5 (fun a ha => by omega)))))) hI ?_ ?_ ?_ ?_ ?_ hk
        · intro o h1 h2 h3 h4 h5 h6 h7 h8
          rw [g5 _ (by omega) (by omega) (by omega), g2 _ (by omega) (by omega) (by omega)]
        · intro _
          exact ⟨0, by omega, by rw [g5 _ (by omega) (by omega) (by omega)]; exact d3, by rw [w54 10 (by omega)]; exact f10, fun j hj => absurd hj (by omega)⟩
        · intro j hj
          exact f54 j (by omega) (by omega) (by omega) (by omega) (by omega) (by omega) (by omega)
        · exact Or.inl (f54 1 (by omega) (by omega) (by omega) (by omega) (by omega) (by omega) (by omega))
        · intro h
          simp only [I7] at h ⊢
          rw [g5 (gB G) (by omega) (by omega) (by omega), g5 (gB G + 24) (by omega) (by omega) (by omega), d5, d6, d8, w540, w54 11 (by omega), f11, f54 6 (by omega) (by omega) (by omega) (by omega) (by omega) (by omega) (by omega), d24 0 (by omega), d24 1 (by omega), d24 2 (by omega), d24 3 (by omega), d244, w55 1 (by omega), w55 2 (by omega), w55 3 (by omega), w55 5 (by omega), w556, h.2.1, h.2.2.2.1, h.2.2.2.2.1, h.2.2.2.2.2.1, h.2.2.2.2.2.2.1, h.2.2.2.2.2.2.2]
          exact ⟨rfl, rfl, rfl, rfl, rfl, rfl, rfl, rfl⟩
      · rw [he] at hy
        exact absurd hy (by simp)
    · intro τ1 τ2 t' pq' L z m x hp S2 e12 hz hm NL CL
      obtain ⟨⟨N1, N2, N3⟩, N4, N5, _, _, _, _, _⟩ := id NL
      have gnτ : gn τ1 = gn σ := by rw [S2.2.2.2.1]; exact gn1
      rw [gnτ] at N1 N4 N5 CL
      have hvm : IvS (gB G) τ1 := fr_IvS S2.1 S2.2.1 S2.2.2.1 hv1
      have hv2 : IvS (gB G) τ2 := by
        obtain ⟨v1, v2⟩ := hvm
        refine ⟨fun o ho => by rw [(N4 _ (by omega)).1, (N4 _ (by omega)).2.1]; exact v1 o ho, fun e he => ?_⟩
        have := rT_8 e he
        rw [(N4 _ (by omega)).2.2.2.2]
        exact v2 e he
      have e12' : gI τ2 (gB G + 20) 12 = -nI 1 := by rw [(N4 _ (by omega)).2.2.1]; exact e12
      have g2 : ∀ a, a < gn σ → a ≠ gB G → ¬ (gB G + 20 ≤ a ∧ a ≤ gB G + 23) → gI τ2 a = gI σ a := fun a h0 h1 h3 => by
        rw [(N4 a h0).2.2.1, S2.2.2.2.2.2.2.1 a h3, r1 a h1]
      have b0 : gI τ2 (gB G) = gI σ1 (gB G) := by rw [(N4 _ (by omega)).2.2.1, S2.2.2.2.2.2.2.1 _ (by omega)]
      have t10' : gI τ2 (gB G + 1) 10 = nI cnt := by rw [g2 _ (by omega) (by omega) (by omega)]; exact t10
      have kP := N5.1
      have es : nI (cnt + 1) - nI 1 = nI cnt := by rw [nI_sub (by omega), Nat.add_sub_cancel]
      have k8 := sk_8 hv2
      rw [gnτ]
      simp (disch := first | omega | assumption | (simp only [IvS_I, IvS_R8]; assumption)) only [n10, n01, Nat.lt_irrefl, Nat.not_lt_zero, ne_eq, Nat.add_zero, Nat.one_ne_zero, Nat.zero_ne_one, Nat.reduceEqDiff, bI_T, bI_F, bI_0, bI_1, bI_01, not_and_self, true_and, and_true, not_true_eq_false, not_false_eq_true, false_imp_iff, true_imp_iff, imp_self, gPv_n, gPv_i, gPv_r, gPv_0, Option.toList_some, Option.toList_none, List.singleton_append, List.cons_append, List.nil_append, List.length_nil, List.length_cons, Nat.zero_le, Nat.reduceAdd, Nat.reduceLeDiff, or_true, true_or, false_or, or_false, and_self, and_false, false_and, implies_true, Option.some.injEq, exists_eq_left', nL, nI_add, nI_mul, nI_clamp, nI_ltI, nI_leI, nI_eq, nI_pos, nI_pos', Nat.reduceAdd, Nat.reduceMul, Nat.reducePow, e_126_37, e_126_37n, e_126_38, e_126_39, e_126_40, e_126_43, e_126_46, e_126_49, e_126_49n, e_126_50, e_126_50n, e_126_53, e_126_54, e_126_56, e_126_59, e_126_60, e_126_61, e_126_64, e_126_67, e_126_68, e_126_71, e_126_74, e_126_74n, e_126_75, e_126_75n, e_126_76, e_126_77, e_126_80, e_126_80n, e_126_81, e_126_84, e_126_85, e_126_86, e_126_89, e_126_90, e_126_91, e_126_94, e_126_97, e_126_98, e_126_99, e_126_102, c_43, e_43_0, e_43_1, e_43_4, sk_0 hv2, sr_0_0 hv2, sr_0_1 hv2, sr_0_2 hv2, sr_0_4 hv2, sr_0_7 hv2, sr_0_9 hv2, sr_0_10 hv2, sr_0_11 hv2, sr_0_12 hv2, sr_0_13 hv2, sr_0_14 hv2, sk_1 hv2, sr_1_0 hv2, sr_1_1 hv2, sr_1_2 hv2, sr_1_3 hv2, sr_1_4 hv2, sr_1_7 hv2, sr_1_9 hv2, sr_1_14 hv2, sr_1_15 hv2, sr_1_16 hv2, sk_8 hv2, sn_8 hv2, sk_20 hv2, sr_20_0 hv2, sr_20_1 hv2, sr_20_2 hv2, sr_20_3 hv2, n_K_I, n_K_J, n_K_R, n_K_r, n_N_I, n_N_J, n_N_R, n_N_r, n_R_I, n_R_J, n_R_r, n_J_I, n_J_R, n_J_r, n_I_J, n_I_R, n_n_I, n_n_J, n_n_R, n_n_r, n_w_I, n_w_J, n_w_R, n_w_r, n_T_I, n_T_J, n_T_R, n_T_r, rI_ne, rI_nk, rI_eq, rr_ne, rr_eq, n_J_J, n_R_R, Nat.add_left_cancel_iff, Nat.add_right_cancel_iff, Nat.add_eq_left, Nat.left_eq_add, Nat.reduceEqDiff, Nat.reduceAdd, Nat.zero_ne_one, Nat.one_ne_zero, false_and, and_false, true_and, and_true, and_self, if_false, if_true, ↓reduceIte, e12', t10', kP, es, c6', s_accept]
      generalize hτ3 : sI (sI (sR (sI τ2 (gB G) 5 _) (gB G + 8) cnt _) (gB G + 1) 10 _) (gB G) 8 _ = τ3
      have K3 : gK τ3 = gK τ2 := by rw [← hτ3]; simp only [n_K_I, n_K_R]
      have M3 : gN τ3 = gN τ2 := by rw [← hτ3]; simp only [n_N_I, n_N_R]
      have n3 : gn τ3 = gn τ2 := by rw [← hτ3]; simp only [n_n_I, n_n_R]
      have w3 : gw τ3 = gw τ2 := by rw [← hτ3]; simp only [n_w_I, n_w_R]
      have T3 : gT τ3 = gT τ2 := by rw [← hτ3]; simp only [n_T_I, n_T_R]
      have R3 : ∀ a, a ≠ gB G + 8 → gR τ3 a = gR τ2 a := fun a ha => by
        funext j
        rw [← hτ3]
        simp only [n_R_I]
        rw [n_R_R, if_neg (fun z => ha z.1), n_R_I]
      have R8 : ∀ j, j ≠ cnt → gR τ3 (gB G + 8) j = gR τ2 (gB G + 8) j := fun j hj => by
        rw [← hτ3]
        simp only [n_R_I]
        rw [n_R_R, if_neg (fun z => hj z.2), n_R_I]
      have R8c : gR τ3 (gB G + 8) cnt = some (gn σ) := by
        rw [← hτ3]
        simp only [n_R_I]
        rw [n_R_R, if_pos ⟨rfl, rfl⟩]
      have g3 : ∀ a, a ≠ gB G → a ≠ gB G + 1 → gI τ3 a = gI τ2 a := fun a h1 h2 => by
        rw [← hτ3, rI_ne h1, rI_ne h2, n_I_R, rI_ne h1]
      have d8 : gI τ3 (gB G) 8 = nI 0 := by rw [← hτ3, rI_eq]
      have d5 : gI τ3 (gB G) 5 = -nI 1 := by rw [← hτ3, rI_nk (by omega), rI_ne (by omega), n_I_R, rI_eq]
      have dj : ∀ j, j ≠ 8 → j ≠ 5 → gI τ3 (gB G) j = gI σ1 (gB G) j := fun j h1 h2 => by rw [← hτ3, rI_nk h1, rI_ne (by omega), n_I_R, rI_nk h2, b0]
      have u10 : gI τ3 (gB G + 1) 10 = nI (cnt + 1) := by rw [← hτ3, rI_ne (by omega), rI_eq]
      have uj : ∀ j, j ≠ 10 → gI τ3 (gB G + 1) j = gI σ (gB G + 1) j := fun j hj => by rw [← hτ3, rI_ne (by omega), rI_nk hj, n_I_R, rI_ne (by omega), g2 _ (by omega) (by omega) (by omega)]
      have hv3 : IvS (gB G) τ3 := by rw [← hτ3]; simp only [IvS_I, IvS_R8]; exact hv2
      have g3' : ∀ a, a < gn σ → a ≠ gB G → a ≠ gB G + 1 → ¬ (gB G + 20 ≤ a ∧ a ≤ gB G + 23) → gI τ3 a = gI σ a := fun a h0 h1 h2 h3 => by
        rw [g3 a h1 h2, g2 a h0 h1 h3]
      have KK : ∀ a, a < gn σ → gK τ3 a = gK σ a ∧ gN τ3 a = gN σ a := fun a ha => by
        rw [K3, M3, (N4 a ha).1, (N4 a ha).2.1, S2.1, S2.2.1, S1.1, S1.2.1]
        exact ⟨rfl, rfl⟩
      refine ⟨⟨⟨(KK _ (by omega)).1, (KK _ (by omega)).2, g3' _ (by omega) (by omega) (by omega) (by omega)⟩, sk_54 hv2⟩, _, rfl, ?_⟩
      have m254 : gI τ3 (gB G + 56) 254 = nI cnt := by rw [g3' _ (by omega) (by omega) (by omega) (by omega)]; exact c254
      have m10 : gI τ3 (gB G + 54) 10 = nI q := by rw [g3' _ (by omega) (by omega) (by omega) (by omega)]; exact q3
      simp (disch := first | omega | assumption) only [List.map_cons, List.map_nil, Value.int.injEq, gSc_r, gSc_I, n10, n01, Nat.lt_irrefl, Nat.not_lt_zero, ne_eq, Nat.add_zero, Nat.one_ne_zero, Nat.zero_ne_one, Nat.reduceEqDiff, bI_T, bI_F, bI_0, bI_1, bI_01, not_and_self, true_and, and_true, not_true_eq_false, not_false_eq_true, false_imp_iff, true_imp_iff, imp_self, gPv_n, gPv_i, gPv_r, gPv_0, Option.toList_some, Option.toList_none, List.singleton_append, List.cons_append, List.nil_append, List.length_nil, List.length_cons, Nat.zero_le, Nat.reduceAdd, Nat.reduceLeDiff, or_true, true_or, false_or, or_false, and_self, and_false, false_and, implies_true, Option.some.injEq, exists_eq_left', nL, nI_add, nI_mul, nI_clamp, nI_ltI, nI_leI, nI_eq, nI_pos, nI_pos', Nat.reduceAdd, Nat.reduceMul, Nat.reducePow, c_214, e_214_0, e_214_1, e_214_4, e_214_7, e_214_8, e_214_10, e_214_25, e_214_26, sk_54 hv3, sr_54_2 hv3, sr_54_3 hv3, sr_54_4 hv3, sr_54_5 hv3, sr_54_7 hv3, sr_54_8 hv3, sr_54_9 hv3, sr_54_12 hv3, sr_54_13 hv3, sr_54_14 hv3, sr_54_22 hv3, sr_54_25 hv3, sr_54_26 hv3, sr_54_27 hv3, sr_54_34 hv3, sr_54_35 hv3, sr_54_36 hv3, sr_54_37 hv3, sr_54_38 hv3, sr_54_40 hv3, sr_54_43 hv3, sr_54_44 hv3, sr_54_45 hv3, sr_54_46 hv3, sr_54_47 hv3, sk_56 hv3, sn_56 hv3, m254, z254, h6]
      refine t_reads (d := 963) (T := T) (q := q) ⟨hv3, by rw [g3' _ (by omega) (by omega) (by omega) (by omega)]; exact i11.2.2.1, q1, fun j hj => by rw [g3' _ (by omega) (by omega) (by omega) (by omega)]; exact ⟨(hTT j hj).2, (hTT j hj).1.2⟩⟩ m10 ?_
      intro τ4 n' r S4 f4 f10 f15 hl' hn' hSp hr
      obtain rfl := st_un hl hn hl' hn'
      have hv4 : IvS (gB G) τ4 := fr_IvS S4.1 S4.2.1 S4.2.2.1 hv3
      rcases hr with ⟨y, hy, _, _⟩ | ⟨y, hy, f11, rfl⟩
      · rw [hp] at hy
        exact absurd hy (by simp)
      · have a254 : gI τ4 (gB G + 56) 254 = nI cnt := by rw [S4.2.2.2.2.2.2.1 _ (by omega)]; exact m254
        have z256 : 256 + cnt < 5062 := by omega
        simp (disch := first | omega | assumption) only [List.map_cons, List.map_nil, Value.int.injEq, gSc_r, gSc_I, n10, n01, Nat.lt_irrefl, Nat.not_lt_zero, ne_eq, Nat.add_zero, Nat.one_ne_zero, Nat.zero_ne_one, Nat.reduceEqDiff, bI_T, bI_F, bI_0, bI_1, bI_01, not_and_self, true_and, and_true, not_true_eq_false, not_false_eq_true, false_imp_iff, true_imp_iff, imp_self, gPv_n, gPv_i, gPv_r, gPv_0, Option.toList_some, Option.toList_none, List.singleton_append, List.cons_append, List.nil_append, List.length_nil, List.length_cons, Nat.zero_le, Nat.reduceAdd, Nat.reduceLeDiff, or_true, true_or, false_or, or_false, and_self, and_false, false_and, implies_true, Option.some.injEq, exists_eq_left', nL, nI_add, nI_mul, nI_clamp, nI_ltI, nI_leI, nI_eq, nI_pos, nI_pos', Nat.reduceAdd, Nat.reduceMul, Nat.reducePow, e_214_29, e_214_39, e_214_40, e_214_43, e_214_46, e_214_47, e_214_48, e_214_49, e_214_52, e_214_55, e_214_56, e_214_57, e_214_58, e_214_61, e_214_62, e_214_63, sk_54 hv4, sr_54_2 hv4, sr_54_3 hv4, sr_54_4 hv4, sr_54_5 hv4, sr_54_7 hv4, sr_54_8 hv4, sr_54_9 hv4, sr_54_12 hv4, sr_54_13 hv4, sr_54_14 hv4, sr_54_22 hv4, sr_54_25 hv4, sr_54_26 hv4, sr_54_27 hv4, sr_54_34 hv4, sr_54_35 hv4, sr_54_36 hv4, sr_54_37 hv4, sr_54_38 hv4, sr_54_40 hv4, sr_54_43 hv4, sr_54_44 hv4, sr_54_45 hv4, sr_54_46 hv4, sr_54_47 hv4, sk_56 hv4, sn_56 hv4, a254, f15, z254, z256]
        generalize hτ5 : sI τ4 (gB G + 56) (256 + cnt) (nI n') = τ5
        have S5 : Sm (fun a => a = gB G + 56) τ4 τ5 := by rw [← hτ5]; exact Sm_I (Sm_refl _ _) rfl
        have hv5 : IvS (gB G) τ5 := fr_IvS S5.1 S5.2.1 S5.2.2.1 hv4
        refine t_lw1 (n := n') (cnt := cnt) hv5 c6' (by omega) (by rw [S5.2.2.2.2.2.2.1 _ (by omega)]; exact f15) ?_ n' 0 τ5 (by omega) (Sm_refl _ _) (fun j hj => absurd hj (by omega)) (fun _ _ _ => rfl)
        intro τ6 x2 S6 c1 c2
        have hv6 : IvS (gB G) τ6 := fr_IvS S6.1 S6.2.1 S6.2.2.1 hv5
        have b254 : gI τ6 (gB G + 56) 254 = nI cnt := by rw [c2 254 (by omega) (by omega), ← hτ5, rI_nk (by omega)]; exact a254
        simp (disch := first | omega | assumption | (simp only [IvS_I]; assumption)) only [List.map_cons, List.map_nil, Value.int.injEq, gSc_r, gSc_I, n10, n01, Nat.lt_irrefl, Nat.not_lt_zero, ne_eq, Nat.add_zero, Nat.one_ne_zero, Nat.zero_ne_one, Nat.reduceEqDiff, bI_T, bI_F, bI_0, bI_1, bI_01, not_and_self, true_and, and_true, not_true_eq_false, not_false_eq_true, false_imp_iff, true_imp_iff, imp_self, gPv_n, gPv_i, gPv_r, gPv_0, Option.toList_some, Option.toList_none, List.singleton_append, List.cons_append, List.nil_append, List.length_nil, List.length_cons, Nat.zero_le, Nat.reduceAdd, Nat.reduceLeDiff, or_true, true_or, false_or, or_false, and_self, and_false, false_and, implies_true, Option.some.injEq, exists_eq_left', nL, nI_add, nI_mul, nI_clamp, nI_ltI, nI_leI, nI_eq, nI_pos, nI_pos', Nat.reduceAdd, Nat.reduceMul, Nat.reducePow, e_214_122, e_214_123, e_214_126, e_214_129, e_214_130, e_214_131, e_214_132, e_214_133, e_214_134, e_214_135, e_214_136, e_214_139, sk_54 hv6, sr_54_2 hv6, sr_54_3 hv6, sr_54_4 hv6, sr_54_5 hv6, sr_54_7 hv6, sr_54_8 hv6, sr_54_9 hv6, sr_54_12 hv6, sr_54_13 hv6, sr_54_14 hv6, sr_54_22 hv6, sr_54_25 hv6, sr_54_26 hv6, sr_54_27 hv6, sr_54_34 hv6, sr_54_35 hv6, sr_54_36 hv6, sr_54_37 hv6, sr_54_38 hv6, sr_54_40 hv6, sr_54_43 hv6, sr_54_44 hv6, sr_54_45 hv6, sr_54_46 hv6, sr_54_47 hv6, sk_56 hv6, sn_56 hv6, n_K_I, n_K_J, n_K_R, n_K_r, n_N_I, n_N_J, n_N_R, n_N_r, n_R_I, n_R_J, n_R_r, n_J_I, n_J_R, n_J_r, n_I_J, n_I_R, n_n_I, n_n_J, n_n_R, n_n_r, n_w_I, n_w_J, n_w_R, n_w_r, n_T_I, n_T_J, n_T_R, n_T_r, rI_ne, rI_nk, rI_eq, rr_ne, rr_eq, n_J_J, n_R_R, Nat.add_left_cancel_iff, Nat.add_right_cancel_iff, Nat.add_eq_left, Nat.left_eq_add, Nat.reduceEqDiff, Nat.reduceAdd, Nat.zero_ne_one, Nat.one_ne_zero, false_and, and_false, true_and, and_true, and_self, if_false, if_true, ↓reduceIte, b254, z254, t_good]
        generalize hτ7 : sI (sI (sI τ6 (gB G + 56) 254 _) (gB G + 54) 0 _) (gB G + 54) 1 _ = τ7
        have S7 : Sm (fun a => a = gB G + 54 ∨ a = gB G + 56) τ6 τ7 := by rw [← hτ7]; exact Sm_I (Sm_I (Sm_I (Sm_refl _ _) (Or.inr rfl)) (Or.inl rfl)) (Or.inl rfl)
        have SS : Sm (fun a => a = gB G + 54 ∨ a = gB G + 56 ∨ (gB G + 62 ≤ a ∧ a ≤ gB G + 64)) τ3 τ7 := Sm_trans (Sm_mono S4 (fun a ha => by omega)) (Sm_trans (Sm_mono S5 (fun a ha => by omega)) (Sm_trans (Sm_mono S6 (fun a ha => by omega)) (Sm_mono S7 (fun a ha => by omega))))
        have r54 : gI τ6 (gB G + 54) = gI τ4 (gB G + 54) := by rw [S6.2.2.2.2.2.2.1 _ (by omega), S5.2.2.2.2.2.2.1 _ (by omega)]
        have f54 : ∀ j, j ≠ 0 → j ≠ 1 → gI τ7 (gB G + 54) j = gI τ4 (gB G + 54) j := fun j h0 h1 => by rw [← hτ7, rI_nk h1, rI_nk h0, rI_ne (by omega), r54]
        have f540 : gI τ7 (gB G + 54) 0 = nI 0 := by rw [← hτ7, rI_nk (by omega), rI_eq]
        have v541 : gI τ4 (gB G + 54) 1 = gI σ (gB G + 54) 1 := by rw [f4 1 (by omega) (by omega) (by omega) (by omega) (by omega) (by omega), g3' _ (by omega) (by omega) (by omega) (by omega)]
        have f541 : gI τ7 (gB G + 54) 1 = gI σ (gB G + 54) 1 + nI 1 := by rw [← hτ7, rI_eq, r54, v541]
        have A7 : ∀ j, j ≠ 254 → gI τ7 (gB G + 56) j = gI τ6 (gB G + 56) j := fun j hj => by rw [← hτ7, rI_ne (by omega), rI_ne (by omega), rI_nk hj]
        have A74 : gI τ7 (gB G + 56) 254 = nI (cnt + 1) := by rw [← hτ7, rI_ne (by omega), rI_ne (by omega), rI_eq]
        have A4 : gI τ4 (gB G + 56) = gI σ (gB G + 56) := by rw [S4.2.2.2.2.2.2.1 _ (by omega), g3' _ (by omega) (by omega) (by omega) (by omega)]
        have A5 : ∀ j, j ≠ 256 + cnt → gI τ5 (gB G + 56) j = gI σ (gB G + 56) j := fun j hj => by rw [← hτ5, rI_nk hj, A4]
        have sp : ∀ j, j < n' → gI τ5 (gB G + 62) j = nI (cT T q j) ∧ gI τ5 (gB G + 63) j = nI (vT T q j) := fun j hj => by
          rw [S5.2.2.2.2.2.2.1 _ (by omega), S5.2.2.2.2.2.2.1 _ (by omega)]
          have := hSp j (by omega)
          exact ⟨this.1, this.2.1⟩
        have eN : ∀ a, gn σ ≤ a → gI τ7 a = gI τ2 a ∧ gN τ7 a = gN τ2 a := fun a ha => by
          rw [SS.2.1, M3, SS.2.2.2.2.2.2.1 a (by omega), g3 a (by omega) (by omega)]
          exact ⟨rfl, rfl⟩
        have w1 : gw τ1 = gw σ := by rw [S2.2.2.2.2.1, S1.2.2.2.2.1]
        refine Inv_lw (own := own) (cnt := cnt) (n := n') hk i1 i2 i3 i4 i5 i7 i8 i9 i11 hcn c6' (by omega) (by rw [SS.2.2.2.1, n3]; exact N1) (by rw [SS.2.2.2.2.1, w3, N2, w1]; omega) (by rw [SS.2.2.2.2.2.1, T3, N3, S2.2.2.2.2.2.1, S1.2.2.2.2.2.1]) (fun a ha => by rw [SS.1]; exact (KK a ha).1) (fun a ha => by rw [SS.2.1]; exact (KK a ha).2) ?_ ?_ (by rw [SS.2.2.1]; exact R8c) ?_ ?_ ?_ ?_ ?_ ?_ ?_ ?_ f540 f541 ?_ ?_ A74 ?_ ?_ ?_
        · intro a ha h8
          rw [SS.2.2.1, R3 a h8, (N4 a ha).2.2.2.2, S2.2.2.1, S1.2.2.1]
        · intro j hj
          rw [SS.2.2.1, R8 j hj, (N4 _ (by omega)).2.2.2.2, S2.2.2.1, S1.2.2.1]
        · intro a ha h1 h2 h3 h4 h5 h6
          rw [SS.2.2.2.2.2.2.1 a (by omega)]
          exact g3' a ha h1 h2 h3
        · intro j h1 h2 h3
          rw [SS.2.2.2.2.2.2.1 _ (by omega), dj j h3 h2]
          exact bj j h1
        · rw [SS.2.2.2.2.2.2.1 _ (by omega), dj 3 (by omega) (by omega)]
          exact b3
        · rw [SS.2.2.2.2.2.2.1 _ (by omega), d5, f54 11 (by omega) (by omega), f11]
        · rw [SS.2.2.2.2.2.2.1 _ (by omega), d8]
        · intro j hj
          rw [SS.2.2.2.2.2.2.1 _ (by omega)]
          exact uj j hj
        · rw [SS.2.2.2.2.2.2.1 _ (by omega)]
          exact u10
        · intro j h0 h1 h2 h3 h4 h5 h6 h7
          rw [f54 j h0 h1, f4 j h2 h3 h4 h5 h6 h7, g3' _ (by omega) (by omega) (by omega) (by omega)]
        · rw [f54 10 (by omega) (by omega)]
          exact f10
        · intro j h1 h2 h3 h4
          rw [A7 j h1, c2 j h3 h4, A5 j h2]
        · rw [A7 _ (by omega), c2 _ (by omega) (by omega), ← hτ5, rI_eq]
        · rw [SS.1, SS.2.2.1, K3, R3 _ (by omega)]
          exact N5
        · rw [(eN (gn σ) (by omega)).1, (eN (gn σ + 1) (by omega)).1, (eN (gn σ + 2) (by omega)).1, (eN (gn σ + 3) (by omega)).1, (eN (gn σ + 1) (by omega)).2, (eN (gn σ + 2) (by omega)).2, (eN (gn σ + 3) (by omega)).2]
          refine ⟨L, tok_of (T := T) (q := q) (fun i hi => (hTT i hi).1.2) hn (by omega) (fun j hj => ?_) hp, CL⟩
          rw [A7 _ (by omega), A7 _ (by omega), (c1 j hj).1, (c1 j hj).2]
          exact sp j hj
end
