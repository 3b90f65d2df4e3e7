/-! cuts -/
def cC (A : Nat → Int32) (E : Nat → Nat) (f t o s : Nat) : Bool := decide (s &&& o = s) && !cmB A E f t s
def cP (A : Nat → Int32) (E : Nat → Nat) (f t o z s : Nat) : Bool := cC A E f t o s && decide (pcN s 12 = z)
theorem fo_in {C : Nat → Bool} : ∀ m i j, fo C m i = some j → C j = true ∧ i ≤ j ∧ j < i + m := by
  intro m
  induction m with
  | zero => intro i j h; cases h
  | succ m ih =>
    intro i j h
    simp only [fo] at h
    by_cases c : C i = true
    · rw [if_pos c] at h
      cases h
      exact ⟨c, by omega, by omega⟩
    · rw [if_neg c] at h
      have := ih (i + 1) j h
      exact ⟨this.1, by omega, by omega⟩
theorem CtI_w {P : Nat → Nat → Bool} {b l cb wy : Nat} (hi : CtI P b l cb wy) : wy ≤ b ∧ l ≤ 4 := by
  rcases hi with ⟨h1, h2, _⟩ | ⟨_, h2, _, h4, _⟩
  · omega
  · have := cn_le (P l) b 0
    omega
theorem and_le {s o : Nat} (h : s &&& o = s) : s ≤ o := by
  rw [← h]
  exact Nat.and_le_right
section
variable {B : Nat} {own : Nat → Nat} {σ : gS} {A : Nat → Int32} {d : Nat} {Q : Option Value → gS → Prop} {E : Nat → Nat}
set_option maxHeartbeats 2000000 in
theorem s_ctL {f t o : Nat} (h : Ctx B own σ A) (hE : EdG A E) (hr : ∀ j, j < 12 → gI σ (B + 29) j = nI (E j)) (hf : f < hn A) (ht : t < hn A) (ho : o < 2 ^ hn A) : ∀ m b n l cb wy τ (x8 : Option Value), 4096 ≤ b + m → b &&& o = b → n ≤ b → CtI (cP A E f t o) b l cb wy → Sm (fun a => a = B + 33) σ τ → gI τ (B + 33) 6 = nI cb → gI τ (B + 33) 7 = nI wy →
    (∀ τ' l' cb' wy', Sm (fun a => a = B + 33) σ τ' → CtI (cP A E f t o) (2 ^ hn A) l' cb' wy' → gI τ' (B + 33) 6 = nI cb' → gI τ' (B + 33) 7 = nI wy' → Q none τ') →
    wp (d + 4) pr_10 Q 40 [some (.ref (B + 33)), some (.ref (B + 29)), some (.int (nI f)), some (.int (nI t)), some (.int (nI o)), some (.int (nI l)), some (.int (nI b)), some (.int (nI n)), x8] [] τ := by
  have wh : Wh A := h.2.1.1.1
  have h12 := hn_le wh
  have o12 : o < 4096 := Nat.lt_of_lt_of_le ho (Nat.pow_le_pow_right (n := 2) (by decide) h12)
  intro m
  induction m with
  | zero =>
    intro b n l cb wy τ x8 hm hb
    have := and_le hb
    omega
  | succ m ih =>
    intro b n l cb wy τ x8 hm hb hnb hi hS h6 h7 K
    have hbo := and_le hb
    have b12 : b < 4096 := by omega
    have hcT := Ctx_S h (Sm_mono hS (fun a ha => by omega))
    have hv := hcT.1
    have st6 : gI τ (B + 1) 6 = nI (mkN (St A) (hn A)) := hcT.2.1.2.1.1.2.1
    have hrT : ∀ j, j < 12 → gI τ (B + 29) j = nI (E j) := by
      intro j hj
      rw [hS.2.2.2.2.2.2.1 (B + 29) (by omega)]
      exact hr j hj
    have z : ¬ 4096 ≤ n := by omega
    have pl := pc_le b 12
    obtain ⟨wb, l4⟩ := CtI_w hi
    obtain ⟨x1, x2, x3, x4⟩ := nx_ok 32 o b (Nat.lt_trans o12 (by decide)) hb
    have hP : ∀ y, cP A E f t o y b = (!cmB A E f t b && decide (pcN b 12 = y)) := by
      intro y
      simp [cP, cC, hb]
    have pf : ∀ z j, ¬ (j &&& o = j) → cP A E f t o z j = false := by
      intro z j hj
      simp [cP, cC, hj]
    -- behind the question
    have tail : ∀ l' cb' wy' τ', CtI (cP A E f t o) (b + 1) l' cb' wy' → Sm (fun a => a = B + 33) σ τ' → gI τ' (B + 33) 6 = nI cb' → gI τ' (B + 33) 7 = nI wy' → wp (d + 4) pr_10 Q 122 [some (.ref (B + 33)), some (.ref (B + 29)), some (.int (nI f)), some (.int (nI t)), some (.int (nI o)), some (.int (nI l')), some (.int (nI b)), some (.int (nI n)), some (.int (nI (pcN b 12)))] [] τ' := by
      intro l' cb' wy' τ' hi' hS' h6' h7'
      by_cases be : b = o
      · have e0 := x2 be
        simp (disch := omega) only [e_10_122, e_10_124, e_10_126, e_10_127, e_10_129, e_10_130, e_10_132, e_10_134, e_10_137, n10, n01, Nat.lt_irrefl, Nat.not_lt_zero, ne_eq, Nat.add_zero, Nat.one_ne_zero, Nat.zero_ne_one, Nat.reduceEqDiff, bI_T, bI_F, bI_0, bI_1, bI_01, not_and_self, true_and, and_true, not_true_eq_false, not_false_eq_true, false_imp_iff, true_imp_iff, imp_self, gPv_n, gPv_i, gPv_r, gPv_0, Option.toList_some, Option.toList_none, List.singleton_append, List.cons_append, List.nil_append, List.length_nil, List.length_cons, Nat.zero_le, Nat.reduceAdd, Nat.reduceLeDiff, or_true, true_or, false_or, or_false, and_self, and_false, false_and, implies_true, Option.some.injEq, exists_eq_left', nL, nI_add, nI_mul, nI_clamp, nI_ltI, nI_leI, nI_eq, nI_pos, nI_pos', Nat.reduceAdd, Nat.reduceMul, Nat.reducePow, nx_I b12 o12, e0]
        refine K τ' l' cb' wy' hS' (CtI_skip (by omega) ?_ hi') h6' h7'
        intro z j h1 h2
        refine pf z j (fun hj => ?_)
        have := and_le hj
        omega
      · have lt := x3 be
        have nle := and_le x1
        have e0 : ¬ nxN 32 o b = 0 := by omega
        simp (disch := omega) only [e_10_122, e_10_124, e_10_126, e_10_127, e_10_129, e_10_130, e_10_132, e_10_134, e_10_137, e_10_138, e_10_141, n10, n01, Nat.lt_irrefl, Nat.not_lt_zero, ne_eq, Nat.add_zero, Nat.one_ne_zero, Nat.zero_ne_one, Nat.reduceEqDiff, bI_T, bI_F, bI_0, bI_1, bI_01, not_and_self, true_and, and_true, not_true_eq_false, not_false_eq_true, false_imp_iff, true_imp_iff, imp_self, gPv_n, gPv_i, gPv_r, gPv_0, Option.toList_some, Option.toList_none, List.singleton_append, List.cons_append, List.nil_append, List.length_nil, List.length_cons, Nat.zero_le, Nat.reduceAdd, Nat.reduceLeDiff, or_true, true_or, false_or, or_false, and_self, and_false, false_and, implies_true, Option.some.injEq, exists_eq_left', nL, nI_add, nI_mul, nI_clamp, nI_ltI, nI_leI, nI_eq, nI_pos, nI_pos', Nat.reduceAdd, Nat.reduceMul, Nat.reducePow, nx_I b12 o12, e0]
        refine ih (nxN 32 o b) (n + 1) l' cb' wy' τ' _ (by omega) x1 (by omega) (CtI_skip (by omega) ?_ hi') hS' h6' h7' K
        intro z j h1 h2
        refine pf z j (fun hj => ?_)
        have := x4 j hj (by omega)
        omega
    rw [e_10_40]
    by_cases c1 : l < pcN b 12
    · simp (disch := omega) only [e_10_42, e_10_45, e_10_48, e_10_50, e_10_53, e_10_55, e_10_57, e_10_59, n10, n01, Nat.lt_irrefl, Nat.not_lt_zero, ne_eq, Nat.add_zero, Nat.one_ne_zero, Nat.zero_ne_one, Nat.reduceEqDiff, bI_T, bI_F, bI_0, bI_1, bI_01, not_and_self, true_and, and_true, not_true_eq_false, not_false_eq_true, false_imp_iff, true_imp_iff, imp_self, gPv_n, gPv_i, gPv_r, gPv_0, Option.toList_some, Option.toList_none, List.singleton_append, List.cons_append, List.nil_append, List.length_nil, List.length_cons, Nat.zero_le, Nat.reduceAdd, Nat.reduceLeDiff, or_true, true_or, false_or, or_false, and_self, and_false, false_and, implies_true, Option.some.injEq, exists_eq_left', nL, nI_add, nI_mul, nI_clamp, nI_ltI, nI_leI, nI_eq, nI_pos, nI_pos', Nat.reduceAdd, Nat.reduceMul, Nat.reducePow, z, s_bitCount b12, c1]
      exact tail l cb wy τ (CtI_no hP (fun q => by omega) hi) hS h6 h7
    · have kd : (mkN (St A) (hn A)) < 4096 := mk_lt12 h12
      cases hc : cmB A E f t b
      · have hP' : ∀ y, cP A E f t o y b = decide (pcN b 12 = y) := by intro y; rw [hP, hc]; rfl
        by_cases c2 : pcN b 12 < l
        · simp (disch := omega) only [e_10_42, e_10_45, e_10_48, e_10_50, e_10_53, e_10_55, e_10_57, e_10_59, e_10_62, e_10_62n, e_10_63, e_10_64, e_10_65, e_10_66, e_10_69, e_10_72, e_10_74, e_10_75, e_10_76, e_10_77, e_10_80, e_10_83, e_10_85, e_10_87, e_10_90, e_10_91, e_10_94, e_10_97, e_10_98, e_10_100, e_10_103, e_10_104, e_10_105, e_10_108, e_10_110, e_10_112, e_10_113, e_10_113n, e_10_114, e_10_117, e_10_118, e_10_119, n10, n01, Nat.lt_irrefl, Nat.not_lt_zero, ne_eq, Nat.add_zero, Nat.one_ne_zero, Nat.zero_ne_one, Nat.reduceEqDiff, bI_T, bI_F, bI_0, bI_1, bI_01, not_and_self, true_and, and_true, not_true_eq_false, not_false_eq_true, false_imp_iff, true_imp_iff, imp_self, gPv_n, gPv_i, gPv_r, gPv_0, Option.toList_some, Option.toList_none, List.singleton_append, List.cons_append, List.nil_append, List.length_nil, List.length_cons, Nat.zero_le, Nat.reduceAdd, Nat.reduceLeDiff, or_true, true_or, false_or, or_false, and_self, and_false, false_and, implies_true, Option.some.injEq, exists_eq_left', n_K_I, n_K_J, n_K_R, n_K_r, n_N_I, n_N_J, n_N_R, n_N_r, n_R_I, n_R_J, n_R_r, n_J_I, n_J_R, n_J_r, n_I_J, n_I_R, n_n_I, n_n_J, n_n_R, n_n_r, n_w_I, n_w_J, n_w_R, n_w_r, n_T_I, n_T_J, n_T_R, n_T_r, rI_ne, rI_nk, rI_eq, rr_ne, rr_eq, n_J_J, n_R_R, Nat.add_left_cancel_iff, Nat.add_right_cancel_iff, Nat.add_eq_left, Nat.left_eq_add, Nat.reduceEqDiff, Nat.reduceAdd, Nat.zero_ne_one, Nat.one_ne_zero, false_and, and_false, true_and, and_true, and_self, if_false, if_true, ↓reduceIte, nL, nI_add, nI_mul, nI_clamp, nI_ltI, nI_leI, nI_eq, nI_pos, nI_pos', Nat.reduceAdd, Nat.reduceMul, Nat.reducePow, sk_1 hv, sr_1_0 hv, sr_1_1 hv, sr_1_2 hv, sr_1_3 hv, sr_1_4 hv, sr_1_7 hv, sr_1_9 hv, sr_1_14 hv, sr_1_15 hv, sr_1_16 hv, sk_33 hv, sr_33_0 hv, sr_33_1 hv, sr_33_2 hv, sr_33_3 hv, z, s_bitCount b12, c1, c2, st6, nI_ad, s_meets wh hE (sk_29 hv) (sn_29 hv) hrT hf (show t < 12 by omega), hc, Bool.false_eq_true, Nat.zero_add]
          refine tail (pcN b 12) b 1 _ (CtI_new hP' (by omega) (Or.inl c2) hi) (Sm_I (Sm_I (Sm_I hS rfl) rfl) rfl) ?_ ?_
          · simp (disch := omega) only [rI_nk, rI_eq]
          · simp only [rI_eq]
        · have e : pcN b 12 = l := by omega
          by_cases w0 : wy = 0
          · rw [w0] at h7
            simp (disch := omega) only [e_10_42, e_10_45, e_10_48, e_10_50, e_10_53, e_10_55, e_10_57, e_10_59, e_10_62, e_10_62n, e_10_63, e_10_64, e_10_65, e_10_66, e_10_69, e_10_72, e_10_74, e_10_75, e_10_76, e_10_77, e_10_80, e_10_83, e_10_85, e_10_87, e_10_90, e_10_91, e_10_94, e_10_97, e_10_98, e_10_100, e_10_103, e_10_104, e_10_105, e_10_108, e_10_110, e_10_112, e_10_113, e_10_113n, e_10_114, e_10_117, e_10_118, e_10_119, n10, n01, Nat.lt_irrefl, Nat.not_lt_zero, ne_eq, Nat.add_zero, Nat.one_ne_zero, Nat.zero_ne_one, Nat.reduceEqDiff, bI_T, bI_F, bI_0, bI_1, bI_01, not_and_self, true_and, and_true, not_true_eq_false, not_false_eq_true, false_imp_iff, true_imp_iff, imp_self, gPv_n, gPv_i, gPv_r, gPv_0, Option.toList_some, Option.toList_none, List.singleton_append, List.cons_append, List.nil_append, List.length_nil, List.length_cons, Nat.zero_le, Nat.reduceAdd, Nat.reduceLeDiff, or_true, true_or, false_or, or_false, and_self, and_false, false_and, implies_true, Option.some.injEq, exists_eq_left', n_K_I, n_K_J, n_K_R, n_K_r, n_N_I, n_N_J, n_N_R, n_N_r, n_R_I, n_R_J, n_R_r, n_J_I, n_J_R, n_J_r, n_I_J, n_I_R, n_n_I, n_n_J, n_n_R, n_n_r, n_w_I, n_w_J, n_w_R, n_w_r, n_T_I, n_T_J, n_T_R, n_T_r, rI_ne, rI_nk, rI_eq, rr_ne, rr_eq, n_J_J, n_R_R, Nat.add_left_cancel_iff, Nat.add_right_cancel_iff, Nat.add_eq_left, Nat.left_eq_add, Nat.reduceEqDiff, Nat.reduceAdd, Nat.zero_ne_one, Nat.one_ne_zero, false_and, and_false, true_and, and_true, and_self, if_false, if_true, ↓reduceIte, nL, nI_add, nI_mul, nI_clamp, nI_ltI, nI_leI, nI_eq, nI_pos, nI_pos', Nat.reduceAdd, Nat.reduceMul, Nat.reducePow, sk_1 hv, sr_1_0 hv, sr_1_1 hv, sr_1_2 hv, sr_1_3 hv, sr_1_4 hv, sr_1_7 hv, sr_1_9 hv, sr_1_14 hv, sr_1_15 hv, sr_1_16 hv, sk_33 hv, sr_33_0 hv, sr_33_1 hv, sr_33_2 hv, sr_33_3 hv, z, s_bitCount b12, c1, c2, st6, nI_ad, s_meets wh hE (sk_29 hv) (sn_29 hv) hrT hf (show t < 12 by omega), hc, Bool.false_eq_true, h7, Nat.zero_add]
            refine tail (pcN b 12) b 1 _ (CtI_new hP' (by omega) (Or.inr w0) hi) (Sm_I (Sm_I (Sm_I hS rfl) rfl) rfl) ?_ ?_
            · simp (disch := omega) only [rI_nk, rI_eq]
            · simp only [rI_eq]
          · simp (disch := omega) only [e_10_42, e_10_45, e_10_48, e_10_50, e_10_53, e_10_55, e_10_57, e_10_59, e_10_62, e_10_62n, e_10_63, e_10_64, e_10_65, e_10_66, e_10_69, e_10_72, e_10_74, e_10_75, e_10_76, e_10_77, e_10_80, e_10_83, e_10_85, e_10_87, e_10_90, e_10_91, e_10_94, e_10_97, e_10_98, e_10_100, e_10_103, e_10_104, e_10_105, e_10_108, e_10_110, e_10_112, e_10_113, e_10_113n, e_10_114, e_10_117, e_10_118, e_10_119, n10, n01, Nat.lt_irrefl, Nat.not_lt_zero, ne_eq, Nat.add_zero, Nat.one_ne_zero, Nat.zero_ne_one, Nat.reduceEqDiff, bI_T, bI_F, bI_0, bI_1, bI_01, not_and_self, true_and, and_true, not_true_eq_false, not_false_eq_true, false_imp_iff, true_imp_iff, imp_self, gPv_n, gPv_i, gPv_r, gPv_0, Option.toList_some, Option.toList_none, List.singleton_append, List.cons_append, List.nil_append, List.length_nil, List.length_cons, Nat.zero_le, Nat.reduceAdd, Nat.reduceLeDiff, or_true, true_or, false_or, or_false, and_self, and_false, false_and, implies_true, Option.some.injEq, exists_eq_left', n_K_I, n_K_J, n_K_R, n_K_r, n_N_I, n_N_J, n_N_R, n_N_r, n_R_I, n_R_J, n_R_r, n_J_I, n_J_R, n_J_r, n_I_J, n_I_R, n_n_I, n_n_J, n_n_R, n_n_r, n_w_I, n_w_J, n_w_R, n_w_r, n_T_I, n_T_J, n_T_R, n_T_r, rI_ne, rI_nk, rI_eq, rr_ne, rr_eq, n_J_J, n_R_R, Nat.add_left_cancel_iff, Nat.add_right_cancel_iff, Nat.add_eq_left, Nat.left_eq_add, Nat.reduceEqDiff, Nat.reduceAdd, Nat.zero_ne_one, Nat.one_ne_zero, false_and, and_false, true_and, and_true, and_self, if_false, if_true, ↓reduceIte, nL, nI_add, nI_mul, nI_clamp, nI_ltI, nI_leI, nI_eq, nI_pos, nI_pos', Nat.reduceAdd, Nat.reduceMul, Nat.reducePow, sk_1 hv, sr_1_0 hv, sr_1_1 hv, sr_1_2 hv, sr_1_3 hv, sr_1_4 hv, sr_1_7 hv, sr_1_9 hv, sr_1_14 hv, sr_1_15 hv, sr_1_16 hv, sk_33 hv, sr_33_0 hv, sr_33_1 hv, sr_33_2 hv, sr_33_3 hv, z, s_bitCount b12, c1, c2, st6, nI_ad, s_meets wh hE (sk_29 hv) (sn_29 hv) hrT hf (show t < 12 by omega), hc, Bool.false_eq_true, h7, w0]
            refine tail l cb (wy + 1) _ (CtI_more (fun y => by rw [hP', e]) w0 hi) (Sm_I hS rfl) ?_ ?_
            · rw [rI_nk (by omega)]; exact h6
            · simp only [rI_eq]
      · simp (disch := omega) only [e_10_42, e_10_45, e_10_48, e_10_50, e_10_53, e_10_55, e_10_57, e_10_59, e_10_62, e_10_62n, e_10_63, e_10_64, e_10_65, e_10_66, e_10_69, e_10_72, e_10_74, e_10_75, e_10_76, e_10_77, e_10_80, n10, n01, Nat.lt_irrefl, Nat.not_lt_zero, ne_eq, Nat.add_zero, Nat.one_ne_zero, Nat.zero_ne_one, Nat.reduceEqDiff, bI_T, bI_F, bI_0, bI_1, bI_01, not_and_self, true_and, and_true, not_true_eq_false, not_false_eq_true, false_imp_iff, true_imp_iff, imp_self, gPv_n, gPv_i, gPv_r, gPv_0, Option.toList_some, Option.toList_none, List.singleton_append, List.cons_append, List.nil_append, List.length_nil, List.length_cons, Nat.zero_le, Nat.reduceAdd, Nat.reduceLeDiff, or_true, true_or, false_or, or_false, and_self, and_false, false_and, implies_true, Option.some.injEq, exists_eq_left', nL, nI_add, nI_mul, nI_clamp, nI_ltI, nI_leI, nI_eq, nI_pos, nI_pos', Nat.reduceAdd, Nat.reduceMul, Nat.reducePow, sk_1 hv, sr_1_0 hv, sr_1_1 hv, sr_1_2 hv, sr_1_3 hv, sr_1_4 hv, sr_1_7 hv, sr_1_9 hv, sr_1_14 hv, sr_1_15 hv, sr_1_16 hv, sk_33 hv, sr_33_0 hv, sr_33_1 hv, sr_33_2 hv, sr_33_3 hv, z, s_bitCount b12, c1, st6, nI_ad, s_meets wh hE (sk_29 hv) (sn_29 hv) hrT hf (show t < 12 by omega), hc]
        exact tail l cb wy τ (CtI_no hP (fun q => by rw [hc] at q; exact absurd q.2 (by simp)) hi) hS h6 h7
abbrev oth (A : Nat → Int32) (f t : Nat) : Nat := ad (ad (mkN (St A) (hn A)) (2 ^ f)) (2 ^ t)
theorem oth_lt {f t : Nat} : oth A f t < 2 ^ hn A := by
  refine Nat.lt_pow_two_of_testBit _ ?_
  intro i hi
  rw [tb_ad, tb_ad, tb_lt (mk_lt _ _) hi]
  rfl
theorem s_findCut {f t : Nat} (h : Ctx B own σ A) (hE : EdG A E) (hr : ∀ j, j < 12 → gI σ (B + 29) j = nI (E j)) (hf : f < hn A) (ht : t < hn A) (K : ∀ τ' l' cb' wy', Sm (fun a => a = B + 33) σ τ' → CtI (cP A E f t (oth A f t)) (2 ^ hn A) l' cb' wy' → gI τ' (B + 33) 6 = nI cb' → gI τ' (B + 33) 7 = nI wy' → Q none τ') : wc (d + 5) 10 [.ref (B + 33), .ref (B + 29), .int (nI f), .int (nI t)] σ Q := by
  have hv := h.1
  have wh : Wh A := h.2.1.1.1
  have h12 := hn_le wh
  have st6 : gI σ (B + 1) 6 = nI (mkN (St A) (hn A)) := h.2.1.2.1.1.2.1
  simp (disch := omega) only [c_10, e_10_0, e_10_1, e_10_4, e_10_7, e_10_8, e_10_9, e_10_10, e_10_11, e_10_12, e_10_13, e_10_14, e_10_15, e_10_16, e_10_17, e_10_18, e_10_19, e_10_21, e_10_22, e_10_24, e_10_25, e_10_27, e_10_28, e_10_29, e_10_32, e_10_33, e_10_34, e_10_37, e_10_38, n10, n01, Nat.lt_irrefl, Nat.not_lt_zero, ne_eq, Nat.add_zero, Nat.one_ne_zero, Nat.zero_ne_one, Nat.reduceEqDiff, bI_T, bI_F, bI_0, bI_1, bI_01, not_and_self, true_and, and_true, not_true_eq_false, not_false_eq_true, false_imp_iff, true_imp_iff, imp_self, gPv_n, gPv_i, gPv_r, gPv_0, Option.toList_some, Option.toList_none, List.singleton_append, List.cons_append, List.nil_append, List.length_nil, List.length_cons, Nat.zero_le, Nat.reduceAdd, Nat.reduceLeDiff, or_true, true_or, false_or, or_false, and_self, and_false, false_and, implies_true, Option.some.injEq, exists_eq_left', nL, nI_add, nI_mul, nI_clamp, nI_ltI, nI_leI, nI_eq, nI_pos, nI_pos', Nat.reduceAdd, Nat.reduceMul, Nat.reducePow, sk_1 hv, sr_1_0 hv, sr_1_1 hv, sr_1_2 hv, sr_1_3 hv, sr_1_4 hv, sr_1_7 hv, sr_1_9 hv, sr_1_14 hv, sr_1_15 hv, sr_1_16 hv, sk_33 hv, sr_33_0 hv, sr_33_1 hv, sr_33_2 hv, sr_33_3 hv, st6, nI_shl, Nat.one_mul, nI_ad, n_K_I]
  refine s_ctL h hE hr hf ht oth_lt 4096 0 0 4 0 0 _ _ (by omega) (Nat.zero_and _) (Nat.le_refl _) (Or.inl ⟨rfl, rfl, fun z _ => rfl⟩) (Sm_I (Sm_I (Sm_refl _ _) rfl) rfl) ?_ ?_ K
  · simp (disch := omega) only [rI_nk, rI_eq]
  · simp only [rI_eq]
def cutA (w : Nat) (R : Option (Nat × Nat × Nat)) : Int32 := match R with
  | none => if w = 2 then nI 0 else -nI 1
  | some (z, f, n) => if w = 0 then nI z else if w = 1 then nI f else nI n
theorem ad_0_iff {s o : Nat} : ad s o = 0 ↔ s &&& o = s := by
  constructor
  · intro h
    refine Nat.eq_of_testBit_eq ?_
    intro j
    have := congrArg (fun x => x.testBit j) h
    simp only [tb_ad, Nat.zero_testBit] at this
    rw [Nat.testBit_and]
    cases hs : s.testBit j
    · rfl
    · rw [hs] at this
      simpa using this
  · intro h
    refine Nat.eq_of_testBit_eq ?_
    intro j
    have := congrArg (fun x => x.testBit j) h
    simp only [Nat.testBit_and] at this
    rw [tb_ad, Nat.zero_testBit]
    cases hs : s.testBit j
    · rfl
    · rw [hs] at this
      simp at this
      simp [this]
theorem t_ct1 {f t o z w : Nat} (X : MX B σ A) (hN : NX B σ (hn A) E) (hE : ∀ h, E h < 4096) (hf : f < hn A) (ht : t < hn A) (ho : o < 4096) (hz : z ≤ 4) : ∀ m s c (fr : Option Nat), s + m = 2 ^ hn A → c ≤ s → (∀ q, fr = some q → q < 4096) → (wp (d + 5) pr_248 Q 88 [some (.ref (B + 54)), some (.int (nI f)), some (.int (nI t)), some (.int (nI w)), some (.int (nI o)), some (.int (nI z)), some (.int (nI c)), some (.int (foI fr)), some (.int (nI s))] [] σ ↔ wp (d + 5) pr_248 Q 157 [some (.ref (B + 54)), some (.int (nI f)), some (.int (nI t)), some (.int (nI w)), some (.int (nI o)), some (.int (nI z)), some (.int (nI (c + cn (cP A E f t o z) m s))), some (.int (foI (fr.or (fo (cP A E f t o z) m s)))), some (.int (nI (2 ^ hn A)))] [] σ) := by
  obtain ⟨hv, hA, wh, wd, wl⟩ := id X
  have h12 := hn_le wh
  have hn2 := hn_eq wh
  have N12 : 2 ^ hn A ≤ 4096 := Nat.pow_le_pow_right (n := 2) (by decide) h12
  have tc : ∀ (wo d : Nat) (Q : Option Value → gS → Prop), wc (d + 5) 240 [.ref (B + 54), .int (nI f), .int (nI t), .int (nI wo)] σ Q ↔ Q (some (.int (bI (cmB A E f t wo = true)))) σ := fun wo d Q => t_come X hN hE (by omega) (by omega)
  intro m
  induction m with
  | zero =>
    intro s c fr hs hc hfr
    have e : s = 2 ^ hn A := by omega
    subst e
    simp (disch := omega) only [e_248_88, e_248_90, e_248_91, e_248_92, e_248_95, e_248_96, n10, n01, Nat.lt_irrefl, Nat.not_lt_zero, ne_eq, Nat.add_zero, Nat.one_ne_zero, Nat.zero_ne_one, Nat.reduceEqDiff, bI_T, bI_F, bI_0, bI_1, bI_01, not_and_self, true_and, and_true, not_true_eq_false, not_false_eq_true, false_imp_iff, true_imp_iff, imp_self, gPv_n, gPv_i, gPv_r, gPv_0, Option.toList_some, Option.toList_none, List.singleton_append, List.cons_append, List.nil_append, List.length_nil, List.length_cons, Nat.zero_le, Nat.reduceAdd, Nat.reduceLeDiff, or_true, true_or, false_or, or_false, and_self, and_false, false_and, implies_true, Option.some.injEq, exists_eq_left', nL, nI_add, nI_mul, nI_clamp, nI_ltI, nI_leI, nI_eq, nI_pos, nI_pos', Nat.reduceAdd, Nat.reduceMul, Nat.reducePow, sk_54 hv, sr_54_2 hv, sr_54_3 hv, sr_54_4 hv, sr_54_5 hv, sr_54_7 hv, sr_54_8 hv, sr_54_9 hv, sr_54_12 hv, sr_54_13 hv, sr_54_14 hv, sr_54_22 hv, sr_54_25 hv, sr_54_26 hv, sr_54_27 hv, sr_54_34 hv, sr_54_35 hv, sr_54_36 hv, sr_54_37 hv, sr_54_38 hv, sr_54_40 hv, sr_54_43 hv, sr_54_44 hv, sr_54_45 hv, sr_54_46 hv, sr_54_47 hv, t_houses hv, hA, hn2, nI_shl, Nat.one_mul, Nat.le_refl, cn, fo, Option.or_none]
  | succ m ih =>
    intro s c fr hs hc hfr
    have zz : ¬ 2 ^ hn A ≤ s := by omega
    have pl := pc_le s 12
    have al : ad s o < 4096 := ad_lt (by omega)
    rw [e_248_88]
    have skip : cP A E f t o z s = false → (wp (d + 5) pr_248 Q 88 [some (.ref (B + 54)), some (.int (nI f)), some (.int (nI t)), some (.int (nI w)), some (.int (nI o)), some (.int (nI z)), some (.int (nI c)), some (.int (foI fr)), some (.int (nI (s + 1)))] [] σ ↔ wp (d + 5) pr_248 Q 157 [some (.ref (B + 54)), some (.int (nI f)), some (.int (nI t)), some (.int (nI w)), some (.int (nI o)), some (.int (nI z)), some (.int (nI (c + cn (cP A E f t o z) (m + 1) s))), some (.int (foI (fr.or (fo (cP A E f t o z) (m + 1) s)))), some (.int (nI (2 ^ hn A)))] [] σ) := by
      intro hp
      rw [ih (s + 1) c fr (by omega) (by omega) hfr]
      simp only [cn, fo, hp, Bool.false_eq_true, if_false, Nat.zero_add]
    by_cases c1 : s &&& o = s
    · have c1' := ad_0_iff.mpr c1
      by_cases c2 : pcN s 12 = z
      · cases hc3 : cmB A E f t s
        · have hp : cP A E f t o z s = true := by simp [cP, cC, c1, c2, hc3]
          cases fr with
          | none =>
            simp (disch := omega) only [e_248_90, e_248_91, e_248_92, e_248_95, e_248_96, e_248_99, e_248_101, e_248_103, e_248_104, e_248_105, e_248_106, e_248_109, e_248_111, e_248_114, e_248_116, e_248_119, e_248_120, e_248_121, e_248_122, e_248_124, e_248_127, e_248_130, e_248_133, e_248_135, e_248_136, e_248_139, e_248_141, e_248_144, e_248_146, e_248_148, e_248_151, e_248_154, n10, n01, Nat.lt_irrefl, Nat.not_lt_zero, ne_eq, Nat.add_zero, Nat.one_ne_zero, Nat.zero_ne_one, Nat.reduceEqDiff, bI_T, bI_F, bI_0, bI_1, bI_01, not_and_self, true_and, and_true, not_true_eq_false, not_false_eq_true, false_imp_iff, true_imp_iff, imp_self, gPv_n, gPv_i, gPv_r, gPv_0, Option.toList_some, Option.toList_none, List.singleton_append, List.cons_append, List.nil_append, List.length_nil, List.length_cons, Nat.zero_le, Nat.reduceAdd, Nat.reduceLeDiff, or_true, true_or, false_or, or_false, and_self, and_false, false_and, implies_true, Option.some.injEq, exists_eq_left', nL, nI_add, nI_mul, nI_clamp, nI_ltI, nI_leI, nI_eq, nI_pos, nI_pos', Nat.reduceAdd, Nat.reduceMul, Nat.reducePow, sk_54 hv, sr_54_2 hv, sr_54_3 hv, sr_54_4 hv, sr_54_5 hv, sr_54_7 hv, sr_54_8 hv, sr_54_9 hv, sr_54_12 hv, sr_54_13 hv, sr_54_14 hv, sr_54_22 hv, sr_54_25 hv, sr_54_26 hv, sr_54_27 hv, sr_54_34 hv, sr_54_35 hv, sr_54_36 hv, sr_54_37 hv, sr_54_38 hv, sr_54_40 hv, sr_54_43 hv, sr_54_44 hv, sr_54_45 hv, sr_54_46 hv, sr_54_47 hv, t_houses hv, hA, hn2, nI_shl, Nat.one_mul, zz, nI_ad, c1', t_ones (show s < 2147483648 by omega), c2, tc, hc3, Bool.false_eq_true, foI]
            have := ih (s + 1) (c + 1) (some s) (by omega) (by omega) (fun q hq => by cases hq; omega)
            simp only [foI, Option.some_or] at this
            rw [this]
            simp only [cn, fo, hp, if_true, Option.none_or, foI]
            rw [Nat.add_assoc]
          | some q =>
            have hq := hfr q rfl
            have hqn : ¬ nI q = -nI 1 := fun z => ng_ne 1 q (by omega) (by omega) (by omega) z.symm
            simp (disch := omega) only [e_248_90, e_248_91, e_248_92, e_248_95, e_248_96, e_248_99, e_248_101, e_248_103, e_248_104, e_248_105, e_248_106, e_248_109, e_248_111, e_248_114, e_248_116, e_248_119, e_248_120, e_248_121, e_248_122, e_248_124, e_248_127, e_248_130, e_248_133, e_248_135, e_248_136, e_248_139, e_248_141, e_248_144, e_248_146, e_248_148, e_248_151, e_248_154, n10, n01, Nat.lt_irrefl, Nat.not_lt_zero, ne_eq, Nat.add_zero, Nat.one_ne_zero, Nat.zero_ne_one, Nat.reduceEqDiff, bI_T, bI_F, bI_0, bI_1, bI_01, not_and_self, true_and, and_true, not_true_eq_false, not_false_eq_true, false_imp_iff, true_imp_iff, imp_self, gPv_n, gPv_i, gPv_r, gPv_0, Option.toList_some, Option.toList_none, List.singleton_append, List.cons_append, List.nil_append, List.length_nil, List.length_cons, Nat.zero_le, Nat.reduceAdd, Nat.reduceLeDiff, or_true, true_or, false_or, or_false, and_self, and_false, false_and, implies_true, Option.some.injEq, exists_eq_left', nL, nI_add, nI_mul, nI_clamp, nI_ltI, nI_leI, nI_eq, nI_pos, nI_pos', Nat.reduceAdd, Nat.reduceMul, Nat.reducePow, sk_54 hv, sr_54_2 hv, sr_54_3 hv, sr_54_4 hv, sr_54_5 hv, sr_54_7 hv, sr_54_8 hv, sr_54_9 hv, sr_54_12 hv, sr_54_13 hv, sr_54_14 hv, sr_54_22 hv, sr_54_25 hv, sr_54_26 hv, sr_54_27 hv, sr_54_34 hv, sr_54_35 hv, sr_54_36 hv, sr_54_37 hv, sr_54_38 hv, sr_54_40 hv, sr_54_43 hv, sr_54_44 hv, sr_54_45 hv, sr_54_46 hv, sr_54_47 hv, t_houses hv, hA, hn2, nI_shl, Nat.one_mul, zz, nI_ad, c1', t_ones (show s < 2147483648 by omega), c2, tc, hc3, Bool.false_eq_true, foI, hqn]
            have := ih (s + 1) (c + 1) (some q) (by omega) (by omega) hfr
            simp only [foI, Option.some_or] at this
            rw [this]
            simp only [cn, fo, hp, if_true, Option.some_or, foI]
            rw [Nat.add_assoc]
        · have hp : cP A E f t o z s = false := by simp [cP, cC, hc3]
          simp (disch := omega) only [e_248_90, e_248_91, e_248_92, e_248_95, e_248_96, e_248_99, e_248_101, e_248_103, e_248_104, e_248_105, e_248_106, e_248_109, e_248_111, e_248_114, e_248_116, e_248_119, e_248_120, e_248_121, e_248_122, e_248_124, e_248_127, e_248_130, e_248_151, e_248_154, n10, n01, Nat.lt_irrefl, Nat.not_lt_zero, ne_eq, Nat.add_zero, Nat.one_ne_zero, Nat.zero_ne_one, Nat.reduceEqDiff, bI_T, bI_F, bI_0, bI_1, bI_01, not_and_self, true_and, and_true, not_true_eq_false, not_false_eq_true, false_imp_iff, true_imp_iff, imp_self, gPv_n, gPv_i, gPv_r, gPv_0, Option.toList_some, Option.toList_none, List.singleton_append, List.cons_append, List.nil_append, List.length_nil, List.length_cons, Nat.zero_le, Nat.reduceAdd, Nat.reduceLeDiff, or_true, true_or, false_or, or_false, and_self, and_false, false_and, implies_true, Option.some.injEq, exists_eq_left', nL, nI_add, nI_mul, nI_clamp, nI_ltI, nI_leI, nI_eq, nI_pos, nI_pos', Nat.reduceAdd, Nat.reduceMul, Nat.reducePow, sk_54 hv, sr_54_2 hv, sr_54_3 hv, sr_54_4 hv, sr_54_5 hv, sr_54_7 hv, sr_54_8 hv, sr_54_9 hv, sr_54_12 hv, sr_54_13 hv, sr_54_14 hv, sr_54_22 hv, sr_54_25 hv, sr_54_26 hv, sr_54_27 hv, sr_54_34 hv, sr_54_35 hv, sr_54_36 hv, sr_54_37 hv, sr_54_38 hv, sr_54_40 hv, sr_54_43 hv, sr_54_44 hv, sr_54_45 hv, sr_54_46 hv, sr_54_47 hv, t_houses hv, hA, hn2, nI_shl, Nat.one_mul, zz, nI_ad, c1', t_ones (show s < 2147483648 by omega), c2, tc, hc3]
          exact skip hp
      · have hp : cP A E f t o z s = false := by simp [cP, c2]
        simp (disch := omega) only [e_248_90, e_248_91, e_248_92, e_248_95, e_248_96, e_248_99, e_248_101, e_248_103, e_248_104, e_248_105, e_248_106, e_248_109, e_248_111, e_248_114, e_248_116, e_248_151, e_248_154, n10, n01, Nat.lt_irrefl, Nat.not_lt_zero, ne_eq, Nat.add_zero, Nat.one_ne_zero, Nat.zero_ne_one, Nat.reduceEqDiff, bI_T, bI_F, bI_0, bI_1, bI_01, not_and_self, true_and, and_true, not_true_eq_false, not_false_eq_true, false_imp_iff, true_imp_iff, imp_self, gPv_n, gPv_i, gPv_r, gPv_0, Option.toList_some, Option.toList_none, List.singleton_append, List.cons_append, List.nil_append, List.length_nil, List.length_cons, Nat.zero_le, Nat.reduceAdd, Nat.reduceLeDiff, or_true, true_or, false_or, or_false, and_self, and_false, false_and, implies_true, Option.some.injEq, exists_eq_left', nL, nI_add, nI_mul, nI_clamp, nI_ltI, nI_leI, nI_eq, nI_pos, nI_pos', Nat.reduceAdd, Nat.reduceMul, Nat.reducePow, sk_54 hv, sr_54_2 hv, sr_54_3 hv, sr_54_4 hv, sr_54_5 hv, sr_54_7 hv, sr_54_8 hv, sr_54_9 hv, sr_54_12 hv, sr_54_13 hv, sr_54_14 hv, sr_54_22 hv, sr_54_25 hv, sr_54_26 hv, sr_54_27 hv, sr_54_34 hv, sr_54_35 hv, sr_54_36 hv, sr_54_37 hv, sr_54_38 hv, sr_54_40 hv, sr_54_43 hv, sr_54_44 hv, sr_54_45 hv, sr_54_46 hv, sr_54_47 hv, t_houses hv, hA, hn2, nI_shl, Nat.one_mul, zz, nI_ad, c1', t_ones (show s < 2147483648 by omega), c2]
        exact skip hp
    · have c1' : ¬ ad s o = 0 := fun z => c1 (ad_0_iff.mp z)
      have hp : cP A E f t o z s = false := by simp [cP, cC, c1]
      simp (disch := omega) only [e_248_90, e_248_91, e_248_92, e_248_95, e_248_96, e_248_99, e_248_101, e_248_103, e_248_104, e_248_105, e_248_106, e_248_151, e_248_154, n10, n01, Nat.lt_irrefl, Nat.not_lt_zero, ne_eq, Nat.add_zero, Nat.one_ne_zero, Nat.zero_ne_one, Nat.reduceEqDiff, bI_T, bI_F, bI_0, bI_1, bI_01, not_and_self, true_and, and_true, not_true_eq_false, not_false_eq_true, false_imp_iff, true_imp_iff, imp_self, gPv_n, gPv_i, gPv_r, gPv_0, Option.toList_some, Option.toList_none, List.singleton_append, List.cons_append, List.nil_append, List.length_nil, List.length_cons, Nat.zero_le, Nat.reduceAdd, Nat.reduceLeDiff, or_true, true_or, false_or, or_false, and_self, and_false, false_and, implies_true, Option.some.injEq, exists_eq_left', nL, nI_add, nI_mul, nI_clamp, nI_ltI, nI_leI, nI_eq, nI_pos, nI_pos', Nat.reduceAdd, Nat.reduceMul, Nat.reducePow, sk_54 hv, sr_54_2 hv, sr_54_3 hv, sr_54_4 hv, sr_54_5 hv, sr_54_7 hv, sr_54_8 hv, sr_54_9 hv, sr_54_12 hv, sr_54_13 hv, sr_54_14 hv, sr_54_22 hv, sr_54_25 hv, sr_54_26 hv, sr_54_27 hv, sr_54_34 hv, sr_54_35 hv, sr_54_36 hv, sr_54_37 hv, sr_54_38 hv, sr_54_40 hv, sr_54_43 hv, sr_54_44 hv, sr_54_45 hv, sr_54_46 hv, sr_54_47 hv, t_houses hv, hA, hn2, nI_shl, Nat.one_mul, zz, nI_ad, c1']
      exact skip hp
theorem t_ct2 {f t o w : Nat} (X : MX B σ A) (hN : NX B σ (hn A) E) (hE : ∀ h, E h < 4096) (hf : f < hn A) (ht : t < hn A) (ho : o < 4096) (hw : w ≤ 2) : ∀ m z (x6 x7 x8 : Option Value), z + m = 5 → (wp (d + 5) pr_248 Q 73 [some (.ref (B + 54)), some (.int (nI f)), some (.int (nI t)), some (.int (nI w)), some (.int (nI o)), some (.int (nI z)), x6, x7, x8] [] σ ↔ Q (some (.int (cutA w (ctR (cP A E f t o) (2 ^ hn A) m z)))) σ) := by
  have wh := X.2.2.1
  have h12 := hn_le wh
  have N12 : 2 ^ hn A ≤ 4096 := Nat.pow_le_pow_right (n := 2) (by decide) h12
  have hw' : w = 0 ∨ w = 1 ∨ w = 2 := by omega
  intro m
  induction m with
  | zero =>
    intro z x6 x7 x8 hz
    have c : 4 < z := by omega
    rcases hw' with rfl | rfl | rfl <;> simp (disch := omega) only [e_248_73, e_248_75, e_248_76, e_248_190, e_248_191, e_248_192, e_248_195, e_248_196, e_248_199, e_248_200, n10, n01, Nat.lt_irrefl, Nat.not_lt_zero, ne_eq, Nat.add_zero, Nat.one_ne_zero, Nat.zero_ne_one, Nat.reduceEqDiff, bI_T, bI_F, bI_0, bI_1, bI_01, not_and_self, true_and, and_true, not_true_eq_false, not_false_eq_true, false_imp_iff, true_imp_iff, imp_self, gPv_n, gPv_i, gPv_r, gPv_0, Option.toList_some, Option.toList_none, List.singleton_append, List.cons_append, List.nil_append, List.length_nil, List.length_cons, Nat.zero_le, Nat.reduceAdd, Nat.reduceLeDiff, or_true, true_or, false_or, or_false, and_self, and_false, false_and, implies_true, Option.some.injEq, exists_eq_left', nL, nI_add, nI_mul, nI_clamp, nI_ltI, nI_leI, nI_eq, nI_pos, nI_pos', Nat.reduceAdd, Nat.reduceMul, Nat.reducePow, c, ctR, cutA, if_true, if_false]
  | succ m ih =>
    intro z x6 x7 x8 hz
    have c : ¬ 4 < z := by omega
    have hc := cn_le (cP A E f t o z) (2 ^ hn A) 0
    rw [e_248_73]
    simp (disch := omega) only [e_248_75, e_248_76, e_248_79, e_248_80, e_248_82, e_248_83, e_248_85, e_248_86, n10, n01, Nat.lt_irrefl, Nat.not_lt_zero, ne_eq, Nat.add_zero, Nat.one_ne_zero, Nat.zero_ne_one, Nat.reduceEqDiff, bI_T, bI_F, bI_0, bI_1, bI_01, not_and_self, true_and, and_true, not_true_eq_false, not_false_eq_true, false_imp_iff, true_imp_iff, imp_self, gPv_n, gPv_i, gPv_r, gPv_0, Option.toList_some, Option.toList_none, List.singleton_append, List.cons_append, List.nil_append, List.length_nil, List.length_cons, Nat.zero_le, Nat.reduceAdd, Nat.reduceLeDiff, or_true, true_or, false_or, or_false, and_self, and_false, false_and, implies_true, Option.some.injEq, exists_eq_left', nL, nI_add, nI_mul, nI_clamp, nI_ltI, nI_leI, nI_eq, nI_pos, nI_pos', Nat.reduceAdd, Nat.reduceMul, Nat.reducePow, c]
    have r := t_ct1 (d := d) (Q := Q) (w := w) X hN hE hf ht ho (show z ≤ 4 by omega) (2 ^ hn A) 0 0 none (by omega) (Nat.le_refl _) (fun q hq => by cases hq)
    simp only [foI, Option.none_or, Nat.zero_add] at r
    rw [r]
    by_cases c0 : cn (cP A E f t o z) (2 ^ hn A) 0 ≤ 0
    · have c0' : ¬ 0 < cn (cP A E f t o z) (2 ^ hn A) 0 := by omega
      simp (disch := omega) only [e_248_157, e_248_159, e_248_184, e_248_187, n10, n01, Nat.lt_irrefl, Nat.not_lt_zero, ne_eq, Nat.add_zero, Nat.one_ne_zero, Nat.zero_ne_one, Nat.reduceEqDiff, bI_T, bI_F, bI_0, bI_1, bI_01, not_and_self, true_and, and_true, not_true_eq_false, not_false_eq_true, false_imp_iff, true_imp_iff, imp_self, gPv_n, gPv_i, gPv_r, gPv_0, Option.toList_some, Option.toList_none, List.singleton_append, List.cons_append, List.nil_append, List.length_nil, List.length_cons, Nat.zero_le, Nat.reduceAdd, Nat.reduceLeDiff, or_true, true_or, false_or, or_false, and_self, and_false, false_and, implies_true, Option.some.injEq, exists_eq_left', nL, nI_add, nI_mul, nI_clamp, nI_ltI, nI_leI, nI_eq, nI_pos, nI_pos', Nat.reduceAdd, Nat.reduceMul, Nat.reducePow, c0]
      rw [ih (z + 1) _ _ _ (by omega)]
      simp only [ctR, c0', if_false]
    · have c0' : 0 < cn (cP A E f t o z) (2 ^ hn A) 0 := by omega
      cases hfo : fo (cP A E f t o z) (2 ^ hn A) 0 with
      | none =>
        exfalso
        have : ∀ m i, fo (cP A E f t o z) m i = none → cn (cP A E f t o z) m i = 0 := by
          intro m
          induction m with
          | zero => intro i _; rfl
          | succ m ihm =>
            intro i h
            simp only [fo] at h
            by_cases q : cP A E f t o z i = true
            · rw [if_pos q] at h; cases h
            · rw [if_neg q] at h
              simp only [cn, q]
              rw [ihm (i + 1) h]
              rfl
        have := this _ _ hfo
        omega
      | some q =>
        rcases hw' with rfl | rfl | rfl <;> simp (disch := omega) only [e_248_157, e_248_159, e_248_162, e_248_163, e_248_166, e_248_168, e_248_171, e_248_172, e_248_173, e_248_176, e_248_178, e_248_181, e_248_183, n10, n01, Nat.lt_irrefl, Nat.not_lt_zero, ne_eq, Nat.add_zero, Nat.one_ne_zero, Nat.zero_ne_one, Nat.reduceEqDiff, bI_T, bI_F, bI_0, bI_1, bI_01, not_and_self, true_and, and_true, not_true_eq_false, not_false_eq_true, false_imp_iff, true_imp_iff, imp_self, gPv_n, gPv_i, gPv_r, gPv_0, Option.toList_some, Option.toList_none, List.singleton_append, List.cons_append, List.nil_append, List.length_nil, List.length_cons, Nat.zero_le, Nat.reduceAdd, Nat.reduceLeDiff, or_true, true_or, false_or, or_false, and_self, and_false, false_and, implies_true, Option.some.injEq, exists_eq_left', nL, nI_add, nI_mul, nI_clamp, nI_ltI, nI_leI, nI_eq, nI_pos, nI_pos', Nat.reduceAdd, Nat.reduceMul, Nat.reducePow, c0, ctR, c0', if_true, if_false, cutA, foI, hfo, Option.getD_some]
end
section
variable {CV : Nat → (Nat → Int32) → (Nat → Nat → Int32) → Prop} {G : gG}
set_option maxHeartbeats 2000000 in
theorem ob_cut (hcv : CVl CV) : gOb (Inv LSx CV MVx G) (gb G) (gB G) (gB G + 54) 136 248 3 := by
  intro σ k as hl hk hI
  obtain ⟨p0, p1, p2, rfl⟩ := len3 hl
  have hv := Inv_Sh hI
  have hb := Inv_b hI
  obtain ⟨own, cc, v, hc, ha, hX, hm⟩ := Inv_ctx hI hk
  obtain ⟨z30, z32⟩ := Inv_30 hI
  have w1 := hX.2.2.1
  have h12 := hn_le w1
  have hn2 := hn_eq w1
  have e5 := hc.2.1.2.1.1.1
  have e6 : gI σ (gB G + 1) 6 = nI (mkN (St (gI σ (gB G + 56))) (hn (gI σ (gB G + 56)))) := hc.2.1.2.1.1.2.1
  have ml : mkN (St (gI σ (gB G + 56))) (hn (gI σ (gB G + 56))) < 4096 := mk_lt12 h12
  by_cases h0 : nI 0 ≤ p0 ∧ p0 < nI (hn (gI σ (gB G + 56)))
  · by_cases h1 : nI 0 ≤ p1 ∧ p1 < nI (hn (gI σ (gB G + 56)))
    · obtain ⟨a, ha1, rfl⟩ := in_lt (by omega) h0
      obtain ⟨b, hb1, rfl⟩ := in_lt (by omega) h1
      by_cases hab : a = b
      · simp (disch := first | omega | (simp only [IvS_I, IvS_J, IvS_r]; assumption)) only [List.map_cons, List.map_nil, Value.int.injEq, gSc_r, gSc_I, n10, n01, Nat.lt_irrefl, Nat.not_lt_zero, ne_eq, Nat.add_zero, Nat.one_ne_zero, Nat.zero_ne_one, Nat.reduceEqDiff, bI_T, bI_F, bI_0, bI_1, bI_01, not_and_self, true_and, and_true, not_true_eq_false, not_false_eq_true, false_imp_iff, true_imp_iff, imp_self, gPv_n, gPv_i, gPv_r, gPv_0, Option.toList_some, Option.toList_none, List.singleton_append, List.cons_append, List.nil_append, List.length_nil, List.length_cons, Nat.zero_le, Nat.reduceAdd, Nat.reduceLeDiff, or_true, true_or, false_or, or_false, and_self, and_false, false_and, implies_true, Option.some.injEq, exists_eq_left', nL, nI_add, nI_mul, nI_clamp, nI_ltI, nI_leI, nI_eq, nI_pos, nI_pos', Nat.reduceAdd, Nat.reduceMul, Nat.reducePow, c_136, e_136_0, e_136_1, e_136_4, e_136_5, e_136_6, e_136_9, e_136_12, e_136_13, e_136_14, e_136_15, e_136_18, e_136_21, e_136_22, c_102, e_102_0, e_102_1, e_102_2, e_102_5, e_102_8, e_102_9, e_102_10, e_102_13, e_102_16, e_102_17, e_102_18, e_102_21, e_102_22, e_102_25, e_102_26, c_248, e_248_0, e_248_1, e_248_2, e_248_5, e_248_8, e_248_9, e_248_10, e_248_13, e_248_16, e_248_17, e_248_18, e_248_21, e_248_22, e_248_23, e_248_26, e_248_29, e_248_30, e_248_31, e_248_34, e_248_37, e_248_38, e_248_39, e_248_40, e_248_43, e_248_46, e_248_47, sk_0 hv, sr_0_0 hv, sr_0_1 hv, sr_0_2 hv, sr_0_4 hv, sr_0_7 hv, sr_0_9 hv, sr_0_10 hv, sr_0_11 hv, sr_0_12 hv, sr_0_13 hv, sr_0_14 hv, sk_1 hv, sr_1_0 hv, sr_1_1 hv, sr_1_2 hv, sr_1_3 hv, sr_1_4 hv, sr_1_7 hv, sr_1_9 hv, sr_1_14 hv, sr_1_15 hv, sr_1_16 hv, sk_54 hv, sr_54_2 hv, sr_54_3 hv, sr_54_4 hv, sr_54_5 hv, sr_54_7 hv, sr_54_8 hv, sr_54_9 hv, sr_54_12 hv, sr_54_13 hv, sr_54_14 hv, sr_54_22 hv, sr_54_25 hv, sr_54_26 hv, sr_54_27 hv, sr_54_34 hv, sr_54_35 hv, sr_54_36 hv, sr_54_37 hv, sr_54_38 hv, sr_54_40 hv, sr_54_43 hv, sr_54_44 hv, sr_54_45 hv, sr_54_46 hv, sr_54_47 hv, s_has (sk_1 hv), t_isHouse hv, e5, hn2, le_sub1, hb1, hab]
        exact Inv_up hI
      · have ea : (mkN (St (gI σ (gB G + 56))) (hn (gI σ (gB G + 56)))).testBit a = St (gI σ (gB G + 56)) a := by rw [tb_mk]; simp [ha1]
        have eb : (mkN (St (gI σ (gB G + 56))) (hn (gI σ (gB G + 56)))).testBit b = St (gI σ (gB G + 56)) b := by rw [tb_mk]; simp [hb1]
        by_cases h2 : nI 0 ≤ p2 ∧ p2 ≤ nI 2
        · by_cases sa : St (gI σ (gB G + 56)) a = true
          · by_cases sb' : St (gI σ (gB G + 56)) b = true
            · obtain ⟨w, hw, rfl⟩ := in_nI (by omega) h2
              simp (disch := first | omega | (simp only [IvS_I, IvS_J, IvS_r]; assumption)) only [List.map_cons, List.map_nil, Value.int.injEq, gSc_r, gSc_I, n10, n01, Nat.lt_irrefl, Nat.not_lt_zero, ne_eq, Nat.add_zero, Nat.one_ne_zero, Nat.zero_ne_one, Nat.reduceEqDiff, bI_T, bI_F, bI_0, bI_1, bI_01, not_and_self, true_and, and_true, not_true_eq_false, not_false_eq_true, false_imp_iff, true_imp_iff, imp_self, gPv_n, gPv_i, gPv_r, gPv_0, Option.toList_some, Option.toList_none, List.singleton_append, List.cons_append, List.nil_append, List.length_nil, List.length_cons, Nat.zero_le, Nat.reduceAdd, Nat.reduceLeDiff, or_true, true_or, false_or, or_false, and_self, and_false, false_and, implies_true, Option.some.injEq, exists_eq_left', nL, nI_add, nI_mul, nI_clamp, nI_ltI, nI_leI, nI_eq, nI_pos, nI_pos', Nat.reduceAdd, Nat.reduceMul, Nat.reducePow, c_136, e_136_0, e_136_1, e_136_4, e_136_5, e_136_6, e_136_9, e_136_12, e_136_13, e_136_14, e_136_15, e_136_18, e_136_21, e_136_22, e_136_23, e_136_24, e_136_27, e_136_30, e_136_31, e_136_34, e_136_37, e_136_38, e_136_41, e_136_44, e_136_45, e_136_48, e_136_51, e_136_52, e_136_53, e_136_54, e_136_57, e_136_58, e_136_61, c_102, e_102_0, e_102_1, e_102_2, e_102_5, e_102_8, e_102_9, e_102_10, e_102_13, e_102_16, e_102_17, e_102_18, e_102_21, e_102_22, e_102_25, e_102_26, sk_0 hv, sr_0_0 hv, sr_0_1 hv, sr_0_2 hv, sr_0_4 hv, sr_0_7 hv, sr_0_9 hv, sr_0_10 hv, sr_0_11 hv, sr_0_12 hv, sr_0_13 hv, sr_0_14 hv, sk_1 hv, sr_1_0 hv, sr_1_1 hv, sr_1_2 hv, sr_1_3 hv, sr_1_4 hv, sr_1_7 hv, sr_1_9 hv, sr_1_14 hv, sr_1_15 hv, sr_1_16 hv, sk_25 hv, sr_25_0 hv, sr_25_1 hv, sr_25_2 hv, sr_25_3 hv, sr_25_4 hv, sr_25_5 hv, s_has (sk_1 hv), s_within, s_bitOf, e5, e6, hn2, ha1, hb1, hab, hw, nI_bit, ea, eb, sa, sb']
              refine s_openRows (d := 992) hcv hc ha ?_
              intro τ hS hcT haT hr
              have hvT := hcT.1
              have hE := EdG_o (dy := gI σ (gB G + 56) 249) w1
              simp (disch := omega) only [e_136_64, e_136_65, e_136_66, n10, n01, Nat.lt_irrefl, Nat.not_lt_zero, ne_eq, Nat.add_zero, Nat.one_ne_zero, Nat.zero_ne_one, Nat.reduceEqDiff, bI_T, bI_F, bI_0, bI_1, bI_01, not_and_self, true_and, and_true, not_true_eq_false, not_false_eq_true, false_imp_iff, true_imp_iff, imp_self, gPv_n, gPv_i, gPv_r, gPv_0, Option.toList_some, Option.toList_none, List.singleton_append, List.cons_append, List.nil_append, List.length_nil, List.length_cons, Nat.zero_le, Nat.reduceAdd, Nat.reduceLeDiff, or_true, true_or, false_or, or_false, and_self, and_false, false_and, implies_true, Option.some.injEq, exists_eq_left', nL, nI_add, nI_mul, nI_clamp, nI_ltI, nI_leI, nI_eq, nI_pos, nI_pos', Nat.reduceAdd, Nat.reduceMul, Nat.reducePow, sk_33 hvT, sr_33_0 hvT, sr_33_1 hvT, sr_33_2 hvT, sr_33_3 hvT]
              refine s_findCut (d := 994) hcT hE hr ha1 hb1 ?_
              intro τ1 l cb wy hS1' hi h6 h7
              have hvT1 : IvS (gB G) τ1 := fr_IvS hS1'.1 hS1'.2.1 hS1'.2.2.1 hvT
              have hS01 : Sm (fun a => gB G + 25 ≤ a ∧ a < gB G + 50) σ τ1 := Sm_trans (Sm_mono hS (fun a ha => by omega)) (Sm_mono hS1' (fun a ha => by omega))
              have haT1 := Ca_P hcv haT hS1' (fun a ha => by omega)
              have XT := MX_S hX hS01 (by omega)
              have e250 : gI τ1 (gB G + 56) 250 = nI (hn (gI σ (gB G + 56))) := by rw [XT.2.1]; exact hn2
              have N12 : 2 ^ hn (gI σ (gB G + 56)) ≤ 4096 := Nat.pow_le_pow_right (n := 2) (by decide) h12
              obtain ⟨wb, l4⟩ := CtI_w hi
              have mod : ∀ x : Int32, x = cutA w (ctR (cP (gI σ (gB G + 56)) (opn (gI σ (gB G + 56)) (gI σ (gB G + 56) 249)) a b (oth (gI σ (gB G + 56)) a b)) (2 ^ hn (gI σ (gB G + 56))) 5 0) → (gSc (gb G) σ τ1 ∧ gK τ1 (gB G + 54) = 13) ∧ ∃ v : Int32, Value.int x = Value.int v ∧ wc 1000 248 [.ref (gB G + 54), .int (nI a), .int (nI b), .int (nI w)] τ1 (fun r2 σ2 => r2 = some (.int v) ∧ Inv LSx CV MVx G σ2 (k + 1)) := by
                intro x hx
                refine ⟨⟨gSc_S hS01 (by omega), sk_54 hvT1⟩, x, rfl, ?_⟩
                have sta : ∀ (d : Nat) (Q : Option Value → gS → Prop) (h : Nat), h < 12 → (wc (d + 2) 174 [.ref (gB G + 54), .int (nI h)] τ1 Q ↔ Q (some (.int (bI (St (gI σ (gB G + 56)) h = true)))) τ1) := fun d Q h hh => by have := t_stands (d := d) (Q := Q) hvT1 hh; rw [XT.2.1] at this; exact this
                have saT : bI (St (gI σ (gB G + 56)) a = true) = nI 1 := bI_t sa
                have sbT : bI (St (gI σ (gB G + 56)) b = true) = nI 1 := bI_t sb'
                simp (disch := first | omega | (simp only [IvS_I, IvS_J, IvS_r]; assumption)) only [n10, n01, Nat.lt_irrefl, Nat.not_lt_zero, ne_eq, Nat.add_zero, Nat.one_ne_zero, Nat.zero_ne_one, Nat.reduceEqDiff, bI_T, bI_F, bI_0, bI_1, bI_01, not_and_self, true_and, and_true, not_true_eq_false, not_false_eq_true, false_imp_iff, true_imp_iff, imp_self, gPv_n, gPv_i, gPv_r, gPv_0, Option.toList_some, Option.toList_none, List.singleton_append, List.cons_append, List.nil_append, List.length_nil, List.length_cons, Nat.zero_le, Nat.reduceAdd, Nat.reduceLeDiff, or_true, true_or, false_or, or_false, and_self, and_false, false_and, implies_true, Option.some.injEq, exists_eq_left', nL, nI_add, nI_mul, nI_clamp, nI_ltI, nI_leI, nI_eq, nI_pos, nI_pos', Nat.reduceAdd, Nat.reduceMul, Nat.reducePow, c_248, e_248_0, e_248_1, e_248_2, e_248_5, e_248_8, e_248_9, e_248_10, e_248_13, e_248_16, e_248_17, e_248_18, e_248_21, e_248_22, e_248_23, e_248_26, e_248_29, e_248_30, e_248_31, e_248_34, e_248_37, e_248_38, e_248_39, e_248_40, e_248_43, e_248_46, e_248_47, e_248_48, e_248_49, sk_54 hvT1, sr_54_2 hvT1, sr_54_3 hvT1, sr_54_4 hvT1, sr_54_5 hvT1, sr_54_7 hvT1, sr_54_8 hvT1, sr_54_9 hvT1, sr_54_12 hvT1, sr_54_13 hvT1, sr_54_14 hvT1, sr_54_22 hvT1, sr_54_25 hvT1, sr_54_26 hvT1, sr_54_27 hvT1, sr_54_34 hvT1, sr_54_35 hvT1, sr_54_36 hvT1, sr_54_37 hvT1, sr_54_38 hvT1, sr_54_40 hvT1, sr_54_43 hvT1, sr_54_44 hvT1, sr_54_45 hvT1, sr_54_46 hvT1, sr_54_47 hvT1, t_isHouse hvT1, t_lies, sta, saT, sbT, e250, le_sub1, ha1, hb1, hab, hw, sa, sb']
                refine t_look (d := 930) XT (Mc_S hm hS01 (fun a ha => by omega)) (by rw [hS01.2.2.2.2.2.2.1 _ (by omega)]; exact z30) (by rw [hS01.2.2.2.2.2.2.1 _ (by omega)]; exact z32) ?_
                intro τ2 hq
                have X2 := QM_X XT hq
                have hv2 := X2.1
                have hN := NX_0 XT hq
                have fin := Inv_QM hk hI hm hS01 haT1 hq
                have wh2 : Wh (gI τ2 (gB G + 56)) := by rw [X2.2.1]; exact w1
                have st := fun (d : Nat) (Q : Option Value → gS → Prop) => t_standing (d := d) (Q := Q) hv2 wh2
                simp only [X2.2.1] at st
                have o12 : oth (gI σ (gB G + 56)) a b < 4096 := ad_lt (ad_lt ml)
                simp (disch := omega) only [e_248_52, e_248_53, e_248_56, e_248_57, e_248_58, e_248_59, e_248_60, e_248_61, e_248_62, e_248_63, e_248_64, e_248_65, e_248_66, e_248_67, e_248_68, e_248_70, e_248_71, n10, n01, Nat.lt_irrefl, Nat.not_lt_zero, ne_eq, Nat.add_zero, Nat.one_ne_zero, Nat.zero_ne_one, Nat.reduceEqDiff, bI_T, bI_F, bI_0, bI_1, bI_01, not_and_self, true_and, and_true, not_true_eq_false, not_false_eq_true, false_imp_iff, true_imp_iff, imp_self, gPv_n, gPv_i, gPv_r, gPv_0, Option.toList_some, Option.toList_none, List.singleton_append, List.cons_append, List.nil_append, List.length_nil, List.length_cons, Nat.zero_le, Nat.reduceAdd, Nat.reduceLeDiff, or_true, true_or, false_or, or_false, and_self, and_false, false_and, implies_true, Option.some.injEq, exists_eq_left', nL, nI_add, nI_mul, nI_clamp, nI_ltI, nI_leI, nI_eq, nI_pos, nI_pos', Nat.reduceAdd, Nat.reduceMul, Nat.reducePow, sk_54 hv2, sr_54_2 hv2, sr_54_3 hv2, sr_54_4 hv2, sr_54_5 hv2, sr_54_7 hv2, sr_54_8 hv2, sr_54_9 hv2, sr_54_12 hv2, sr_54_13 hv2, sr_54_14 hv2, sr_54_22 hv2, sr_54_25 hv2, sr_54_26 hv2, sr_54_27 hv2, sr_54_34 hv2, sr_54_35 hv2, sr_54_36 hv2, sr_54_37 hv2, sr_54_38 hv2, sr_54_40 hv2, sr_54_43 hv2, sr_54_44 hv2, sr_54_45 hv2, sr_54_46 hv2, sr_54_47 hv2, st, nI_shl, Nat.one_mul, nI_ad]
                have r := t_ct2 (d := 994) (Q := fun r2 σ2 => r2 = some (Value.int x) ∧ Inv LSx CV MVx G σ2 (k + 1)) X2 hN hE.1 ha1 hb1 o12 hw 5 0 none none none rfl
                exact r.mpr ⟨by rw [hx], fin⟩
              rcases CtI_end hi with ⟨w0, e⟩ | ⟨w0, e⟩
              · rw [e] at mod
                rw [w0] at h7
                have hw' : w = 0 ∨ w = 1 ∨ w = 2 := by omega
                rcases hw' with rfl | rfl | rfl
                · simp (disch := omega) only [e_136_69, e_136_70, e_136_71, e_136_74, e_136_75, e_136_78, e_136_81, e_136_82, e_136_83, e_136_86, e_136_89, e_136_92, e_136_93, e_136_94, e_136_95, e_136_98, e_136_99, e_136_102, e_136_105, e_136_108, e_136_111, e_136_112, e_136_115, e_136_118, n10, n01, Nat.lt_irrefl, Nat.not_lt_zero, ne_eq, Nat.add_zero, Nat.one_ne_zero, Nat.zero_ne_one, Nat.reduceEqDiff, bI_T, bI_F, bI_0, bI_1, bI_01, not_and_self, true_and, and_true, not_true_eq_false, not_false_eq_true, false_imp_iff, true_imp_iff, imp_self, gPv_n, gPv_i, gPv_r, gPv_0, Option.toList_some, Option.toList_none, List.singleton_append, List.cons_append, List.nil_append, List.length_nil, List.length_cons, Nat.zero_le, Nat.reduceAdd, Nat.reduceLeDiff, or_true, true_or, false_or, or_false, and_self, and_false, false_and, implies_true, Option.some.injEq, exists_eq_left', nL, nI_add, nI_mul, nI_clamp, nI_ltI, nI_leI, nI_eq, nI_pos, nI_pos', Nat.reduceAdd, Nat.reduceMul, Nat.reducePow, sk_0 hvT1, sr_0_0 hvT1, sr_0_1 hvT1, sr_0_2 hvT1, sr_0_4 hvT1, sr_0_7 hvT1, sr_0_9 hvT1, sr_0_10 hvT1, sr_0_11 hvT1, sr_0_12 hvT1, sr_0_13 hvT1, sr_0_14 hvT1, sk_33 hvT1, sr_33_0 hvT1, sr_33_1 hvT1, sr_33_2 hvT1, sr_33_3 hvT1, h7]
                  exact mod _ rfl
                · simp (disch := omega) only [e_136_69, e_136_70, e_136_71, e_136_74, e_136_75, e_136_78, e_136_81, e_136_82, e_136_83, e_136_86, e_136_89, e_136_92, e_136_93, e_136_94, e_136_95, e_136_98, e_136_99, e_136_102, e_136_105, e_136_108, e_136_111, e_136_112, e_136_115, e_136_118, n10, n01, Nat.lt_irrefl, Nat.not_lt_zero, ne_eq, Nat.add_zero, Nat.one_ne_zero, Nat.zero_ne_one, Nat.reduceEqDiff, bI_T, bI_F, bI_0, bI_1, bI_01, not_and_self, true_and, and_true, not_true_eq_false, not_false_eq_true, false_imp_iff, true_imp_iff, imp_self, gPv_n, gPv_i, gPv_r, gPv_0, Option.toList_some, Option.toList_none, List.singleton_append, List.cons_append, List.nil_append, List.length_nil, List.length_cons, Nat.zero_le, Nat.reduceAdd, Nat.reduceLeDiff, or_true, true_or, false_or, or_false, and_self, and_false, false_and, implies_true, Option.some.injEq, exists_eq_left', nL, nI_add, nI_mul, nI_clamp, nI_ltI, nI_leI, nI_eq, nI_pos, nI_pos', Nat.reduceAdd, Nat.reduceMul, Nat.reducePow, sk_0 hvT1, sr_0_0 hvT1, sr_0_1 hvT1, sr_0_2 hvT1, sr_0_4 hvT1, sr_0_7 hvT1, sr_0_9 hvT1, sr_0_10 hvT1, sr_0_11 hvT1, sr_0_12 hvT1, sr_0_13 hvT1, sr_0_14 hvT1, sk_33 hvT1, sr_33_0 hvT1, sr_33_1 hvT1, sr_33_2 hvT1, sr_33_3 hvT1, h7]
                  exact mod _ rfl
                · simp (disch := omega) only [e_136_69, e_136_70, e_136_71, e_136_74, e_136_75, e_136_78, e_136_81, e_136_82, e_136_83, e_136_86, e_136_89, e_136_92, e_136_93, e_136_94, e_136_95, e_136_98, e_136_99, e_136_102, e_136_105, e_136_108, e_136_111, e_136_112, e_136_115, e_136_118, n10, n01, Nat.lt_irrefl, Nat.not_lt_zero, ne_eq, Nat.add_zero, Nat.one_ne_zero, Nat.zero_ne_one, Nat.reduceEqDiff, bI_T, bI_F, bI_0, bI_1, bI_01, not_and_self, true_and, and_true, not_true_eq_false, not_false_eq_true, false_imp_iff, true_imp_iff, imp_self, gPv_n, gPv_i, gPv_r, gPv_0, Option.toList_some, Option.toList_none, List.singleton_append, List.cons_append, List.nil_append, List.length_nil, List.length_cons, Nat.zero_le, Nat.reduceAdd, Nat.reduceLeDiff, or_true, true_or, false_or, or_false, and_self, and_false, false_and, implies_true, Option.some.injEq, exists_eq_left', nL, nI_add, nI_mul, nI_clamp, nI_ltI, nI_leI, nI_eq, nI_pos, nI_pos', Nat.reduceAdd, Nat.reduceMul, Nat.reducePow, sk_0 hvT1, sr_0_0 hvT1, sr_0_1 hvT1, sr_0_2 hvT1, sr_0_4 hvT1, sr_0_7 hvT1, sr_0_9 hvT1, sr_0_10 hvT1, sr_0_11 hvT1, sr_0_12 hvT1, sr_0_13 hvT1, sr_0_14 hvT1, sk_33 hvT1, sr_33_0 hvT1, sr_33_1 hvT1, sr_33_2 hvT1, sr_33_3 hvT1, h7]
                  exact mod _ rfl
              · rw [e] at mod
                have hcb : pcN cb 12 = l ∧ cb < 4096 := by
                  rcases hi with ⟨q1, _⟩ | ⟨_, _, _, _, q5⟩
                  · omega
                  · obtain ⟨q6, _, q8⟩ := fo_in _ _ _ q5
                    simp only [cP, Bool.and_eq_true, decide_eq_true_eq] at q6
                    exact ⟨q6.2, by omega⟩
                have w0' : ¬ wy = 0 := by omega
                have hw' : w = 0 ∨ w = 1 ∨ w = 2 := by omega
                rcases hw' with rfl | rfl | rfl
                · simp (disch := omega) only [e_136_69, e_136_70, e_136_71, e_136_74, e_136_75, e_136_78, e_136_81, e_136_82, e_136_83, e_136_86, e_136_89, e_136_92, e_136_93, e_136_94, e_136_95, e_136_98, e_136_99, e_136_102, e_136_105, e_136_108, e_136_111, e_136_112, e_136_115, e_136_118, n10, n01, Nat.lt_irrefl, Nat.not_lt_zero, ne_eq, Nat.add_zero, Nat.one_ne_zero, Nat.zero_ne_one, Nat.reduceEqDiff, bI_T, bI_F, bI_0, bI_1, bI_01, not_and_self, true_and, and_true, not_true_eq_false, not_false_eq_true, false_imp_iff, true_imp_iff, imp_self, gPv_n, gPv_i, gPv_r, gPv_0, Option.toList_some, Option.toList_none, List.singleton_append, List.cons_append, List.nil_append, List.length_nil, List.length_cons, Nat.zero_le, Nat.reduceAdd, Nat.reduceLeDiff, or_true, true_or, false_or, or_false, and_self, and_false, false_and, implies_true, Option.some.injEq, exists_eq_left', nL, nI_add, nI_mul, nI_clamp, nI_ltI, nI_leI, nI_eq, nI_pos, nI_pos', Nat.reduceAdd, Nat.reduceMul, Nat.reducePow, sk_0 hvT1, sr_0_0 hvT1, sr_0_1 hvT1, sr_0_2 hvT1, sr_0_4 hvT1, sr_0_7 hvT1, sr_0_9 hvT1, sr_0_10 hvT1, sr_0_11 hvT1, sr_0_12 hvT1, sr_0_13 hvT1, sr_0_14 hvT1, sk_33 hvT1, sr_33_0 hvT1, sr_33_1 hvT1, sr_33_2 hvT1, sr_33_3 hvT1, h6, h7, w0', s_bitCount hcb.2, hcb.1]
                  exact mod _ rfl
                · simp (disch := omega) only [e_136_69, e_136_70, e_136_71, e_136_74, e_136_75, e_136_78, e_136_81, e_136_82, e_136_83, e_136_86, e_136_89, e_136_92, e_136_93, e_136_94, e_136_95, e_136_98, e_136_99, e_136_102, e_136_105, e_136_108, e_136_111, e_136_112, e_136_115, e_136_118, n10, n01, Nat.lt_irrefl, Nat.not_lt_zero, ne_eq, Nat.add_zero, Nat.one_ne_zero, Nat.zero_ne_one, Nat.reduceEqDiff, bI_T, bI_F, bI_0, bI_1, bI_01, not_and_self, true_and, and_true, not_true_eq_false, not_false_eq_true, false_imp_iff, true_imp_iff, imp_self, gPv_n, gPv_i, gPv_r, gPv_0, Option.toList_some, Option.toList_none, List.singleton_append, List.cons_append, List.nil_append, List.length_nil, List.length_cons, Nat.zero_le, Nat.reduceAdd, Nat.reduceLeDiff, or_true, true_or, false_or, or_false, and_self, and_false, false_and, implies_true, Option.some.injEq, exists_eq_left', nL, nI_add, nI_mul, nI_clamp, nI_ltI, nI_leI, nI_eq, nI_pos, nI_pos', Nat.reduceAdd, Nat.reduceMul, Nat.reducePow, sk_0 hvT1, sr_0_0 hvT1, sr_0_1 hvT1, sr_0_2 hvT1, sr_0_4 hvT1, sr_0_7 hvT1, sr_0_9 hvT1, sr_0_10 hvT1, sr_0_11 hvT1, sr_0_12 hvT1, sr_0_13 hvT1, sr_0_14 hvT1, sk_33 hvT1, sr_33_0 hvT1, sr_33_1 hvT1, sr_33_2 hvT1, sr_33_3 hvT1, h6, h7, w0']
                  exact mod _ rfl
                · simp (disch := omega) only [e_136_69, e_136_70, e_136_71, e_136_74, e_136_75, e_136_78, e_136_81, e_136_82, e_136_83, e_136_86, e_136_89, e_136_92, e_136_93, e_136_94, e_136_95, e_136_98, e_136_99, e_136_102, e_136_105, e_136_108, e_136_111, e_136_112, e_136_115, e_136_118, n10, n01, Nat.lt_irrefl, Nat.not_lt_zero, ne_eq, Nat.add_zero, Nat.one_ne_zero, Nat.zero_ne_one, Nat.reduceEqDiff, bI_T, bI_F, bI_0, bI_1, bI_01, not_and_self, true_and, and_true, not_true_eq_false, not_false_eq_true, false_imp_iff, true_imp_iff, imp_self, gPv_n, gPv_i, gPv_r, gPv_0, Option.toList_some, Option.toList_none, List.singleton_append, List.cons_append, List.nil_append, List.length_nil, List.length_cons, Nat.zero_le, Nat.reduceAdd, Nat.reduceLeDiff, or_true, true_or, false_or, or_false, and_self, and_false, false_and, implies_true, Option.some.injEq, exists_eq_left', nL, nI_add, nI_mul, nI_clamp, nI_ltI, nI_leI, nI_eq, nI_pos, nI_pos', Nat.reduceAdd, Nat.reduceMul, Nat.reducePow, sk_0 hvT1, sr_0_0 hvT1, sr_0_1 hvT1, sr_0_2 hvT1, sr_0_4 hvT1, sr_0_7 hvT1, sr_0_9 hvT1, sr_0_10 hvT1, sr_0_11 hvT1, sr_0_12 hvT1, sr_0_13 hvT1, sr_0_14 hvT1, sk_33 hvT1, sr_33_0 hvT1, sr_33_1 hvT1, sr_33_2 hvT1, sr_33_3 hvT1, h7]
                  exact mod _ rfl
            · have sb'' : St (gI σ (gB G + 56)) b = false := by simpa using sb'
              simp (disch := first | omega | (simp only [IvS_I, IvS_J, IvS_r]; assumption)) only [List.map_cons, List.map_nil, Value.int.injEq, gSc_r, gSc_I, n10, n01, Nat.lt_irrefl, Nat.not_lt_zero, ne_eq, Nat.add_zero, Nat.one_ne_zero, Nat.zero_ne_one, Nat.reduceEqDiff, bI_T, bI_F, bI_0, bI_1, bI_01, not_and_self, true_and, and_true, not_true_eq_false, not_false_eq_true, false_imp_iff, true_imp_iff, imp_self, gPv_n, gPv_i, gPv_r, gPv_0, Option.toList_some, Option.toList_none, List.singleton_append, List.cons_append, List.nil_append, List.length_nil, List.length_cons, Nat.zero_le, Nat.reduceAdd, Nat.reduceLeDiff, or_true, true_or, false_or, or_false, and_self, and_false, false_and, implies_true, Option.some.injEq, exists_eq_left', nL, nI_eq, nI_ltI, nI_leI, Nat.zero_le, c_136, e_136_0, e_136_1, e_136_4, e_136_5, e_136_6, e_136_9, e_136_12, e_136_13, e_136_14, e_136_15, e_136_18, e_136_21, e_136_22, e_136_23, e_136_24, e_136_27, e_136_30, e_136_31, e_136_34, e_136_37, e_136_38, e_136_41, e_136_44, e_136_45, e_136_48, e_136_51, e_136_52, c_102, e_102_0, e_102_1, e_102_2, e_102_5, e_102_8, e_102_9, e_102_10, e_102_13, e_102_16, e_102_17, e_102_18, e_102_21, e_102_22, e_102_25, e_102_26, c_248, e_248_0, e_248_1, e_248_2, e_248_5, e_248_8, e_248_9, e_248_10, e_248_13, e_248_16, e_248_17, e_248_18, e_248_21, e_248_22, e_248_23, e_248_26, e_248_29, e_248_30, e_248_31, e_248_34, e_248_37, e_248_38, e_248_39, e_248_40, e_248_43, e_248_46, e_248_47, sk_0 hv, sr_0_0 hv, sr_0_1 hv, sr_0_2 hv, sr_0_4 hv, sr_0_7 hv, sr_0_9 hv, sr_0_10 hv, sr_0_11 hv, sr_0_12 hv, sr_0_13 hv, sr_0_14 hv, sk_1 hv, sr_1_0 hv, sr_1_1 hv, sr_1_2 hv, sr_1_3 hv, sr_1_4 hv, sr_1_7 hv, sr_1_9 hv, sr_1_14 hv, sr_1_15 hv, sr_1_16 hv, sk_54 hv, sr_54_2 hv, sr_54_3 hv, sr_54_4 hv, sr_54_5 hv, sr_54_7 hv, sr_54_8 hv, sr_54_9 hv, sr_54_12 hv, sr_54_13 hv, sr_54_14 hv, sr_54_22 hv, sr_54_25 hv, sr_54_26 hv, sr_54_27 hv, sr_54_34 hv, sr_54_35 hv, sr_54_36 hv, sr_54_37 hv, sr_54_38 hv, sr_54_40 hv, sr_54_43 hv, sr_54_44 hv, sr_54_45 hv, sr_54_46 hv, sr_54_47 hv, s_has (sk_1 hv), s_within, s_bitOf, t_isHouse hv, t_stands hv, t_lies, e5, e6, hn2, le_sub1, ha1, hb1, hab, h2, nI_bit, ea, eb, sa, sb'', Bool.false_eq_true]
              exact Inv_up hI
          · have sa' : St (gI σ (gB G + 56)) a = false := by simpa using sa
            simp (disch := first | omega | (simp only [IvS_I, IvS_J, IvS_r]; assumption)) only [List.map_cons, List.map_nil, Value.int.injEq, gSc_r, gSc_I, n10, n01, Nat.lt_irrefl, Nat.not_lt_zero, ne_eq, Nat.add_zero, Nat.one_ne_zero, Nat.zero_ne_one, Nat.reduceEqDiff, bI_T, bI_F, bI_0, bI_1, bI_01, not_and_self, true_and, and_true, not_true_eq_false, not_false_eq_true, false_imp_iff, true_imp_iff, imp_self, gPv_n, gPv_i, gPv_r, gPv_0, Option.toList_some, Option.toList_none, List.singleton_append, List.cons_append, List.nil_append, List.length_nil, List.length_cons, Nat.zero_le, Nat.reduceAdd, Nat.reduceLeDiff, or_true, true_or, false_or, or_false, and_self, and_false, false_and, implies_true, Option.some.injEq, exists_eq_left', nL, nI_eq, nI_ltI, nI_leI, Nat.zero_le, c_136, e_136_0, e_136_1, e_136_4, e_136_5, e_136_6, e_136_9, e_136_12, e_136_13, e_136_14, e_136_15, e_136_18, e_136_21, e_136_22, e_136_23, e_136_24, e_136_27, e_136_30, e_136_31, e_136_34, e_136_37, e_136_38, e_136_41, e_136_44, e_136_45, e_136_48, e_136_51, e_136_52, c_102, e_102_0, e_102_1, e_102_2, e_102_5, e_102_8, e_102_9, e_102_10, e_102_13, e_102_16, e_102_17, e_102_18, e_102_21, e_102_22, e_102_25, e_102_26, c_248, e_248_0, e_248_1, e_248_2, e_248_5, e_248_8, e_248_9, e_248_10, e_248_13, e_248_16, e_248_17, e_248_18, e_248_21, e_248_22, e_248_23, e_248_26, e_248_29, e_248_30, e_248_31, e_248_34, e_248_37, e_248_38, e_248_39, e_248_40, e_248_43, e_248_46, e_248_47, sk_0 hv, sr_0_0 hv, sr_0_1 hv, sr_0_2 hv, sr_0_4 hv, sr_0_7 hv, sr_0_9 hv, sr_0_10 hv, sr_0_11 hv, sr_0_12 hv, sr_0_13 hv, sr_0_14 hv, sk_1 hv, sr_1_0 hv, sr_1_1 hv, sr_1_2 hv, sr_1_3 hv, sr_1_4 hv, sr_1_7 hv, sr_1_9 hv, sr_1_14 hv, sr_1_15 hv, sr_1_16 hv, sk_54 hv, sr_54_2 hv, sr_54_3 hv, sr_54_4 hv, sr_54_5 hv, sr_54_7 hv, sr_54_8 hv, sr_54_9 hv, sr_54_12 hv, sr_54_13 hv, sr_54_14 hv, sr_54_22 hv, sr_54_25 hv, sr_54_26 hv, sr_54_27 hv, sr_54_34 hv, sr_54_35 hv, sr_54_36 hv, sr_54_37 hv, sr_54_38 hv, sr_54_40 hv, sr_54_43 hv, sr_54_44 hv, sr_54_45 hv, sr_54_46 hv, sr_54_47 hv, s_has (sk_1 hv), s_within, s_bitOf, t_isHouse hv, t_stands hv, t_lies, e5, e6, hn2, le_sub1, ha1, hb1, hab, h2, nI_bit, ea, eb, sa', Bool.false_eq_true]
            exact Inv_up hI
        · have nope : ∀ x : Prop, (x ∧ x) = x := fun x => and_self x
          cases sa : St (gI σ (gB G + 56)) a <;> cases sb' : St (gI σ (gB G + 56)) b <;> simp (disch := first | omega | (simp only [IvS_I, IvS_J, IvS_r]; assumption)) only [List.map_cons, List.map_nil, Value.int.injEq, gSc_r, gSc_I, n10, n01, Nat.lt_irrefl, Nat.not_lt_zero, ne_eq, Nat.add_zero, Nat.one_ne_zero, Nat.zero_ne_one, Nat.reduceEqDiff, bI_T, bI_F, bI_0, bI_1, bI_01, not_and_self, true_and, and_true, not_true_eq_false, not_false_eq_true, false_imp_iff, true_imp_iff, imp_self, gPv_n, gPv_i, gPv_r, gPv_0, Option.toList_some, Option.toList_none, List.singleton_append, List.cons_append, List.nil_append, List.length_nil, List.length_cons, Nat.zero_le, Nat.reduceAdd, Nat.reduceLeDiff, or_true, true_or, false_or, or_false, and_self, and_false, false_and, implies_true, Option.some.injEq, exists_eq_left', nL, nI_eq, nI_ltI, nI_leI, Nat.zero_le, c_136, e_136_0, e_136_1, e_136_4, e_136_5, e_136_6, e_136_9, e_136_12, e_136_13, e_136_14, e_136_15, e_136_18, e_136_21, e_136_22, c_102, e_102_0, e_102_1, e_102_2, e_102_5, e_102_8, e_102_9, e_102_10, e_102_13, e_102_16, e_102_17, e_102_18, e_102_21, e_102_22, e_102_25, e_102_26, c_248, e_248_0, e_248_1, e_248_2, e_248_5, e_248_8, e_248_9, e_248_10, e_248_13, e_248_16, e_248_17, e_248_18, e_248_21, e_248_22, e_248_23, e_248_26, e_248_29, e_248_30, e_248_31, e_248_34, e_248_37, e_248_38, e_248_39, e_248_40, e_248_43, e_248_46, e_248_47, sk_0 hv, sr_0_0 hv, sr_0_1 hv, sr_0_2 hv, sr_0_4 hv, sr_0_7 hv, sr_0_9 hv, sr_0_10 hv, sr_0_11 hv, sr_0_12 hv, sr_0_13 hv, sr_0_14 hv, sk_1 hv, sr_1_0 hv, sr_1_1 hv, sr_1_2 hv, sr_1_3 hv, sr_1_4 hv, sr_1_7 hv, sr_1_9 hv, sr_1_14 hv, sr_1_15 hv, sr_1_16 hv, sk_54 hv, sr_54_2 hv, sr_54_3 hv, sr_54_4 hv, sr_54_5 hv, sr_54_7 hv, sr_54_8 hv, sr_54_9 hv, sr_54_12 hv, sr_54_13 hv, sr_54_14 hv, sr_54_22 hv, sr_54_25 hv, sr_54_26 hv, sr_54_27 hv, sr_54_34 hv, sr_54_35 hv, sr_54_36 hv, sr_54_37 hv, sr_54_38 hv, sr_54_40 hv, sr_54_43 hv, sr_54_44 hv, sr_54_45 hv, sr_54_46 hv, sr_54_47 hv, s_has (sk_1 hv), s_within, t_isHouse hv, t_stands hv, t_lies, e5, hn2, le_sub1, ha1, hb1, hab, h2, sa, sb', Bool.false_eq_true] <;> exact Inv_up hI
    · simp (disch := first | omega | (simp only [IvS_I, IvS_J, IvS_r]; assumption)) only [List.map_cons, List.map_nil, Value.int.injEq, gSc_r, gSc_I, n10, n01, Nat.lt_irrefl, Nat.not_lt_zero, ne_eq, Nat.add_zero, Nat.one_ne_zero, Nat.zero_ne_one, Nat.reduceEqDiff, bI_T, bI_F, bI_0, bI_1, bI_01, not_and_self, true_and, and_true, not_true_eq_false, not_false_eq_true, false_imp_iff, true_imp_iff, imp_self, gPv_n, gPv_i, gPv_r, gPv_0, Option.toList_some, Option.toList_none, List.singleton_append, List.cons_append, List.nil_append, List.length_nil, List.length_cons, Nat.zero_le, Nat.reduceAdd, Nat.reduceLeDiff, or_true, true_or, false_or, or_false, and_self, and_false, false_and, implies_true, Option.some.injEq, exists_eq_left', nL, c_136, e_136_0, e_136_1, e_136_4, e_136_5, e_136_6, e_136_9, e_136_12, e_136_13, e_136_14, e_136_15, e_136_18, e_136_21, e_136_22, c_102, e_102_0, e_102_1, e_102_2, e_102_5, e_102_8, e_102_9, e_102_10, e_102_13, e_102_16, e_102_17, e_102_18, e_102_21, e_102_22, e_102_25, e_102_26, c_248, e_248_0, e_248_1, e_248_2, e_248_5, e_248_8, e_248_9, e_248_10, e_248_13, e_248_16, e_248_17, e_248_18, e_248_21, e_248_22, e_248_23, e_248_26, e_248_29, e_248_30, e_248_31, e_248_34, e_248_37, e_248_38, e_248_39, e_248_40, e_248_43, e_248_46, e_248_47, sk_0 hv, sr_0_0 hv, sr_0_1 hv, sr_0_2 hv, sr_0_4 hv, sr_0_7 hv, sr_0_9 hv, sr_0_10 hv, sr_0_11 hv, sr_0_12 hv, sr_0_13 hv, sr_0_14 hv, sk_1 hv, sr_1_0 hv, sr_1_1 hv, sr_1_2 hv, sr_1_3 hv, sr_1_4 hv, sr_1_7 hv, sr_1_9 hv, sr_1_14 hv, sr_1_15 hv, sr_1_16 hv, sk_54 hv, sr_54_2 hv, sr_54_3 hv, sr_54_4 hv, sr_54_5 hv, sr_54_7 hv, sr_54_8 hv, sr_54_9 hv, sr_54_12 hv, sr_54_13 hv, sr_54_14 hv, sr_54_22 hv, sr_54_25 hv, sr_54_26 hv, sr_54_27 hv, sr_54_34 hv, sr_54_35 hv, sr_54_36 hv, sr_54_37 hv, sr_54_38 hv, sr_54_40 hv, sr_54_43 hv, sr_54_44 hv, sr_54_45 hv, sr_54_46 hv, sr_54_47 hv, s_has (sk_1 hv), t_isHouse hv, e5, hn2, le_sub1, h0, h1]
      exact Inv_up hI
  · simp (disch := first | omega | (simp only [IvS_I, IvS_J, IvS_r]; assumption)) only [List.map_cons, List.map_nil, Value.int.injEq, gSc_r, gSc_I, n10, n01, Nat.lt_irrefl, Nat.not_lt_zero, ne_eq, Nat.add_zero, Nat.one_ne_zero, Nat.zero_ne_one, Nat.reduceEqDiff, bI_T, bI_F, bI_0, bI_1, bI_01, not_and_self, true_and, and_true, not_true_eq_false, not_false_eq_true, false_imp_iff, true_imp_iff, imp_self, gPv_n, gPv_i, gPv_r, gPv_0, Option.toList_some, Option.toList_none, List.singleton_append, List.cons_append, List.nil_append, List.length_nil, List.length_cons, Nat.zero_le, Nat.reduceAdd, Nat.reduceLeDiff, or_true, true_or, false_or, or_false, and_self, and_false, false_and, implies_true, Option.some.injEq, exists_eq_left', nL, c_136, e_136_0, e_136_1, e_136_4, e_136_5, e_136_6, e_136_9, e_136_12, e_136_13, e_136_14, e_136_15, e_136_18, e_136_21, e_136_22, c_102, e_102_0, e_102_1, e_102_2, e_102_5, e_102_8, e_102_9, e_102_10, e_102_13, e_102_16, e_102_17, e_102_18, e_102_21, e_102_22, e_102_25, e_102_26, c_248, e_248_0, e_248_1, e_248_2, e_248_5, e_248_8, e_248_9, e_248_10, e_248_13, e_248_16, e_248_17, e_248_18, e_248_21, e_248_22, e_248_23, e_248_26, e_248_29, e_248_30, e_248_31, e_248_34, e_248_37, e_248_38, e_248_39, e_248_40, e_248_43, e_248_46, e_248_47, sk_0 hv, sr_0_0 hv, sr_0_1 hv, sr_0_2 hv, sr_0_4 hv, sr_0_7 hv, sr_0_9 hv, sr_0_10 hv, sr_0_11 hv, sr_0_12 hv, sr_0_13 hv, sr_0_14 hv, sk_1 hv, sr_1_0 hv, sr_1_1 hv, sr_1_2 hv, sr_1_3 hv, sr_1_4 hv, sr_1_7 hv, sr_1_9 hv, sr_1_14 hv, sr_1_15 hv, sr_1_16 hv, sk_54 hv, sr_54_2 hv, sr_54_3 hv, sr_54_4 hv, sr_54_5 hv, sr_54_7 hv, sr_54_8 hv, sr_54_9 hv, sr_54_12 hv, sr_54_13 hv, sr_54_14 hv, sr_54_22 hv, sr_54_25 hv, sr_54_26 hv, sr_54_27 hv, sr_54_34 hv, sr_54_35 hv, sr_54_36 hv, sr_54_37 hv, sr_54_38 hv, sr_54_40 hv, sr_54_43 hv, sr_54_44 hv, sr_54_45 hv, sr_54_46 hv, sr_54_47 hv, s_has (sk_1 hv), t_isHouse hv, e5, hn2, le_sub1, h0]
    exact Inv_up hI
end
