/-! doors: the class lists the pairs that make a difference -/
def dfB (A : Nat → Int32) (a b : Nat) : Bool := ((opn A (A 249) a ^^^ wdn A (A 249) a).testBit b || (opn A (A 249) b ^^^ wdn A (A 249) b).testBit a)
def chB (A : Nat → Int32) (p : Nat) : Bool := prB A p && dfB A (p / 12) (p % 12)
def nx (C : Nat → Bool) (p : Nat) : Nat := match fo C (144 - p) p with
  | some r => r
  | none => 144
def ps (C : Nat → Bool) : Nat → Nat
  | 0 => nx C 0
  | i + 1 => nx C (ps C i + 1)
theorem nx_t {C : Nat → Bool} {p : Nat} (hp : p < 144) (h : C p = true) : nx C p = p := by
  obtain ⟨m, e⟩ : ∃ m, 144 - p = m + 1 := ⟨144 - p - 1, by omega⟩
  rw [nx, e, fo, if_pos h]
theorem nx_f {C : Nat → Bool} {p : Nat} (hp : p < 144) (h : C p = false) : nx C p = nx C (p + 1) := by
  obtain ⟨m, e⟩ : ∃ m, 144 - p = m + 1 := ⟨144 - p - 1, by omega⟩
  rw [nx, e, fo, h, nx, show 144 - (p + 1) = m from by omega]
  simp
theorem nx_e {C : Nat → Bool} {p : Nat} (hp : 144 ≤ p) : nx C p = 144 := by
  rw [nx, show 144 - p = 0 from by omega, fo]
theorem nx_sk {C : Nat → Bool} {p r : Nat} (h1 : p ≤ r) (h2 : r < nx C p) (h3 : r < 144) : C r = false := by
  revert h2
  rw [nx]
  cases c : fo C (144 - p) p with
  | none =>
    intro _
    exact fo_none _ _ c r h1 (by omega)
  | some q =>
    intro h2
    have h2 : r < q := h2
    obtain ⟨_, _, q3⟩ := fo_in _ _ _ c
    have := fo_add C (r - p + 1) (144 - p - (r - p + 1)) p
    rw [show r - p + 1 + (144 - p - (r - p + 1)) = 144 - p from by omega, c] at this
    cases c2 : fo C (r - p + 1) p with
    | none => exact fo_none _ _ c2 r h1 (by omega)
    | some q' =>
      rw [c2] at this
      obtain ⟨_, _, q4⟩ := fo_in _ _ _ c2
      have : q = q' := by simpa using this
      omega
theorem nx_le {C : Nat → Bool} {p : Nat} (hp : p ≤ 144) : p ≤ nx C p ∧ nx C p ≤ 144 := by
  rw [nx]
  cases c : fo C (144 - p) p with
  | none => exact ⟨hp, Nat.le_refl _⟩
  | some q =>
    obtain ⟨_, q2, q3⟩ := fo_in _ _ _ c
    exact ⟨q2, show q ≤ 144 by omega⟩
set_option maxRecDepth 20000 in
theorem ch_66 {A : Nat → Int32} {p : Nat} (hp : p < 144) (h : chB A p = true) : cn (chB A) p 0 < 66 := by
  have h1 : cn (chB A) 144 0 ≤ cn (fun p => decide (p / 12 < p % 12)) 144 0 := cn_mo (fun j hj => by
    simp only [chB, prB, Bool.and_eq_true, decide_eq_true_iff] at hj
    exact decide_eq_true hj.1.1.1) 144 0
  have h2 : cn (fun p => decide (p / 12 < p % 12)) 144 0 = 66 := by decide
  have h3 := cn_add (chB A) (p + 1) (144 - (p + 1)) 0
  rw [show p + 1 + (144 - (p + 1)) = 144 from by omega, cn_s (b := p), h] at h3
  simp only [if_true] at h3
  omega
section
variable {B : Nat} {own : Nat → Nat} {σ : gS} {A : Nat → Int32} {d v : Nat} {Q : Option Value → gS → Prop} {E : Nat → Nat}
def LsR (B : Nat) (A : Nat → Int32) (c : Nat) (τ : gS) : Prop := ∀ i, i < c → gI τ (B + 39) i = nI (ps (chB A) i / 12) ∧ gI τ (B + 40) i = nI (ps (chB A) i % 12) ∧ chB A (ps (chB A) i) = true ∧ ps (chB A) i < 144
def LsI (B : Nat) (σ : gS) (A : Nat → Int32) (p : Nat) (τ : gS) : Prop := Sm (fun a => a = B + 37 ∨ a = B + 39 ∨ a = B + 40) σ τ ∧ (∀ j, j ≠ 4 → gI τ (B + 37) j = gI σ (B + 37) j) ∧ gI τ (B + 37) 4 = nI (cn (chB A) p 0) ∧ LsR B A (cn (chB A) p 0) τ ∧ ps (chB A) (cn (chB A) p 0) = nx (chB A) p
theorem LsI_0 {p : Nat} {τ : gS} (h : LsI B σ A p τ) (hp : p < 144) (c : chB A p = false) : LsI B σ A (p + 1) τ := by
  have e2 : cn (chB A) (p + 1) 0 = cn (chB A) p 0 := by rw [cn_s, c]; simp
  obtain ⟨h1, h2, h3, h4, h5⟩ := h
  refine ⟨h1, h2, ?_, ?_, ?_⟩
  · rw [e2]; exact h3
  · rw [e2]; exact h4
  · rw [e2, h5, nx_f hp c]
theorem LsI_sk {a : Nat} {τ : gS} : ∀ m b, a + m = b → b ≤ 144 → LsI B σ A a τ → (∀ j, a ≤ j → j < b → chB A j = false) → LsI B σ A b τ := by
  intro m
  induction m with
  | zero =>
    intro b hb _ h _
    rw [← hb]
    exact h
  | succ m ih =>
    intro b hb hb2 h hc
    rw [show b = a + m + 1 from by omega]
    exact LsI_0 (ih (a + m) rfl (by omega) h (fun j j1 j2 => hc j j1 (by omega))) (by omega) (hc _ (by omega) (by omega))
set_option maxHeartbeats 1000000 in
theorem s_lp1 {a : Nat} (hc : Ctx B own σ A) (hO : ∀ j, j < 12 → gI σ (B + 29) j = nI (opn A (A 249) j)) (hW : ∀ j, j < 12 → gI σ (B + 30) j = nI (wdn A (A 249) j)) (ha : a < hn A) : ∀ m b τ (x5 : Option Value), b + m = hn A → a < b → LsI B σ A (12 * a + b) τ →
    (∀ τ' x5, LsI B σ A (12 * a + hn A) τ' → wp (d + 4) pr_14 Q 132 [some (.ref (B + 37)), some (.ref (B + 29)), some (.ref (B + 30)), some (.int (nI a)), some (.int (nI (hn A))), x5] [] τ') →
    wp (d + 4) pr_14 Q 23 [some (.ref (B + 37)), some (.ref (B + 29)), some (.ref (B + 30)), some (.int (nI a)), some (.int (nI b)), x5] [] τ := by
  have w1 : Wh A := hc.2.1.1.1
  have h12 := hn_le w1
  have hn2 := hn_eq w1
  intro m
  induction m with
  | zero =>
    intro b τ x5 hb hab hF K
    have e : b = hn A := by omega
    subst e
    have hcT : Ctx B own τ A := Ctx_S hc (Sm_mono hF.1 (fun a ha => by omega))
    have hvT := hcT.1
    have e5 : gI τ (B + 1) 5 = nI (hn A) := hcT.2.1.2.1.1.1.trans hn2
    simp (disch := omega) only [e_14_23, e_14_25, e_14_26, e_14_29, e_14_32, n10, n01, Nat.lt_irrefl, Nat.not_lt_zero, ne_eq, Nat.add_zero, Nat.one_ne_zero, Nat.zero_ne_one, Nat.reduceEqDiff, bI_T, bI_F, bI_0, bI_1, bI_01, not_and_self, true_and, and_true, not_true_eq_false, not_false_eq_true, false_imp_iff, true_imp_iff, imp_self, gPv_n, gPv_i, gPv_r, gPv_0, Option.toList_some, Option.toList_none, List.singleton_append, List.cons_append, List.nil_append, List.length_nil, List.length_cons, Nat.zero_le, Nat.reduceAdd, Nat.reduceLeDiff, or_true, true_or, false_or, or_false, and_self, and_false, false_and, implies_true, Option.some.injEq, exists_eq_left', nL, nI_add, nI_mul, nI_clamp, nI_ltI, nI_leI, nI_eq, nI_pos, nI_pos', Nat.reduceAdd, Nat.reduceMul, Nat.reducePow, sk_1 hvT, sr_1_0 hvT, sr_1_1 hvT, sr_1_2 hvT, sr_1_3 hvT, sr_1_4 hvT, sr_1_7 hvT, sr_1_9 hvT, sr_1_14 hvT, sr_1_15 hvT, sr_1_16 hvT, sk_37 hvT, sr_37_0 hvT, sr_37_1 hvT, sr_37_2 hvT, sr_37_3 hvT, sr_37_5 hvT, e5, Nat.le_refl]
    exact K τ x5 hF
  | succ m ih =>
    intro b τ x5 hb hab hF K
    have hb' : b < hn A := by omega
    have z : ¬ hn A ≤ b := by omega
    have hcT : Ctx B own τ A := Ctx_S hc (Sm_mono hF.1 (fun a ha => by omega))
    have hvT := hcT.1
    obtain ⟨⟨_, w2, w3, w4, w5⟩, ⟨t1, t2, t3, t4, t5⟩, lw⟩ := hcT.2.1
    have e5 : gI τ (B + 1) 5 = nI (hn A) := t1.1.trans hn2
    have d1 : gI τ (B + 7) a = nI (mkN (Dr A a) 12) := t2.2 a ha
    have m1 : mkN (Dr A a) 12 < 4096 := mk_lt12 (Nat.le_refl 12)
    have b12 : b < 12 := by omega
    have a12 : a < 12 := by omega
    have ed : (mkN (Dr A a) 12).testBit b = Dr A a b := by rw [tb_mk]; simp [b12]
    have eq1 : (12 * a + b) / 12 = a := by omega
    have eq2 : (12 * a + b) % 12 = b := by omega
    obtain ⟨f1, f2, f3, f4, f5⟩ := id hF
    have oA : gI τ (B + 29) a = nI (opn A (A 249) a) := by rw [f1.2.2.2.2.2.2.1 _ (by omega)]; exact hO a a12
    have oB : gI τ (B + 29) b = nI (opn A (A 249) b) := by rw [f1.2.2.2.2.2.2.1 _ (by omega)]; exact hO b b12
    have wA : gI τ (B + 30) a = nI (wdn A (A 249) a) := by rw [f1.2.2.2.2.2.2.1 _ (by omega)]; exact hW a a12
    have wB : gI τ (B + 30) b = nI (wdn A (A 249) b) := by rw [f1.2.2.2.2.2.2.1 _ (by omega)]; exact hW b b12
    have xa : opn A (A 249) a ^^^ wdn A (A 249) a < 4096 := Nat.xor_lt_two_pow (n := 12) (opn_lt w1) (wdn_lt w1)
    have xb : opn A (A 249) b ^^^ wdn A (A 249) b < 4096 := Nat.xor_lt_two_pow (n := 12) (opn_lt w1) (wdn_lt w1)
    have ba : ((nI (opn A (A 249) a) ^^^ nI (wdn A (A 249) a)) >>> (nI b &&& nI 31)) &&& nI 1 ||| ((nI (opn A (A 249) b) ^^^ nI (wdn A (A 249) b)) >>> (nI a &&& nI 31)) &&& nI 1 = bI (dfB A a b = true) := by
      rw [nI_xor, nI_xor, nI_bit (by omega) (by omega), nI_bit (by omega) (by omega), dfB]
      cases (opn A (A 249) a ^^^ wdn A (A 249) a).testBit b <;> cases (opn A (A 249) b ^^^ wdn A (A 249) b).testBit a <;> rfl
    have cl := cn_le (chB A) (12 * a + b) 0
    have cp : chB A (12 * a + b) = (!Dr A a b && dfB A a b) := by
      simp only [chB, prB, eq1, eq2]
      simp [hab, hb']
    rw [e_14_23]
    cases df : dfB A a b
    · rw [df] at cp ba
      simp (disch := omega) only [e_14_25, e_14_26, e_14_29, e_14_32, e_14_35, e_14_35n, e_14_36, e_14_37, e_14_38, e_14_38n, e_14_39, e_14_40, e_14_41, e_14_42, e_14_44, e_14_47, e_14_47n, e_14_48, e_14_50, e_14_51, e_14_51n, e_14_52, e_14_54, e_14_55, e_14_56, e_14_57, e_14_60, e_14_61, e_14_63, e_14_65, e_14_66, e_14_126, e_14_129, n10, n01, Nat.lt_irrefl, Nat.not_lt_zero, ne_eq, Nat.add_zero, Nat.one_ne_zero, Nat.zero_ne_one, Nat.reduceEqDiff, bI_T, bI_F, bI_0, bI_1, bI_01, not_and_self, true_and, and_true, not_true_eq_false, not_false_eq_true, false_imp_iff, true_imp_iff, imp_self, gPv_n, gPv_i, gPv_r, gPv_0, Option.toList_some, Option.toList_none, List.singleton_append, List.cons_append, List.nil_append, List.length_nil, List.length_cons, Nat.zero_le, Nat.reduceAdd, Nat.reduceLeDiff, or_true, true_or, false_or, or_false, and_self, and_false, false_and, implies_true, Option.some.injEq, exists_eq_left', nL, nI_add, nI_mul, nI_clamp, nI_ltI, nI_leI, nI_eq, nI_pos, nI_pos', Nat.reduceAdd, Nat.reduceMul, Nat.reducePow, sk_1 hvT, sr_1_0 hvT, sr_1_1 hvT, sr_1_2 hvT, sr_1_3 hvT, sr_1_4 hvT, sr_1_7 hvT, sr_1_9 hvT, sr_1_14 hvT, sr_1_15 hvT, sr_1_16 hvT, sk_7 hvT, sn_7 hvT, sk_29 hvT, sn_29 hvT, sk_30 hvT, sn_30 hvT, sk_37 hvT, sr_37_0 hvT, sr_37_1 hvT, sr_37_2 hvT, sr_37_3 hvT, sr_37_5 hvT, e5, z, s_bitOf, oA, oB, wA, wB, a12, b12, ba, Bool.false_eq_true]
      exact ih (b + 1) τ _ (by omega) (by omega) (LsI_0 (p := 12 * a + b) hF (by omega) (by rw [cp, Bool.and_false])) K
    · rw [df] at cp ba
      cases dd : Dr A a b
      · rw [dd] at cp
        have c66 := ch_66 (A := A) (p := 12 * a + b) (by omega) cp
        have z66 : ¬ 66 ≤ cn (chB A) (12 * a + b) 0 := by omega
        simp (disch := omega) only [e_14_25, e_14_26, e_14_29, e_14_32, e_14_35, e_14_35n, e_14_36, e_14_37, e_14_38, e_14_38n, e_14_39, e_14_40, e_14_41, e_14_42, e_14_44, e_14_47, e_14_47n, e_14_48, e_14_50, e_14_51, e_14_51n, e_14_52, e_14_54, e_14_55, e_14_56, e_14_57, e_14_60, e_14_61, e_14_63, e_14_65, e_14_66, e_14_69, e_14_70, e_14_73, e_14_76, e_14_77, e_14_78, e_14_80, e_14_83, e_14_86, e_14_87, e_14_90, e_14_92, e_14_95, e_14_96, e_14_99, e_14_100, e_14_103, e_14_104, e_14_105, e_14_106, e_14_109, e_14_110, e_14_113, e_14_115, e_14_116, e_14_117, e_14_117n, e_14_118, e_14_121, e_14_122, e_14_123, e_14_126, e_14_129, n10, n01, Nat.lt_irrefl, Nat.not_lt_zero, ne_eq, Nat.add_zero, Nat.one_ne_zero, Nat.zero_ne_one, Nat.reduceEqDiff, bI_T, bI_F, bI_0, bI_1, bI_01, not_and_self, true_and, and_true, not_true_eq_false, not_false_eq_true, false_imp_iff, true_imp_iff, imp_self, gPv_n, gPv_i, gPv_r, gPv_0, Option.toList_some, Option.toList_none, List.singleton_append, List.cons_append, List.nil_append, List.length_nil, List.length_cons, Nat.zero_le, Nat.reduceAdd, Nat.reduceLeDiff, or_true, true_or, false_or, or_false, and_self, and_false, false_and, implies_true, Option.some.injEq, exists_eq_left', nL, nI_add, nI_mul, nI_clamp, nI_ltI, nI_leI, nI_eq, nI_pos, nI_pos', Nat.reduceAdd, Nat.reduceMul, Nat.reducePow, sk_1 hvT, sr_1_0 hvT, sr_1_1 hvT, sr_1_2 hvT, sr_1_3 hvT, sr_1_4 hvT, sr_1_7 hvT, sr_1_9 hvT, sr_1_14 hvT, sr_1_15 hvT, sr_1_16 hvT, sk_7 hvT, sn_7 hvT, sk_29 hvT, sn_29 hvT, sk_30 hvT, sn_30 hvT, sk_37 hvT, sr_37_0 hvT, sr_37_1 hvT, sr_37_2 hvT, sr_37_3 hvT, sr_37_5 hvT, sk_39 hvT, sn_39 hvT, sk_40 hvT, sn_40 hvT, n_K_I, n_K_J, n_K_R, n_K_r, n_N_I, n_N_J, n_N_R, n_N_r, n_R_I, n_R_J, n_R_r, n_J_I, n_J_R, n_J_r, n_I_J, n_I_R, n_n_I, n_n_J, n_n_R, n_n_r, n_w_I, n_w_J, n_w_R, n_w_r, n_T_I, n_T_J, n_T_R, n_T_r, rI_ne, rI_nk, rI_eq, rr_ne, rr_eq, n_J_J, n_R_R, Nat.add_left_cancel_iff, Nat.add_right_cancel_iff, Nat.add_eq_left, Nat.left_eq_add, Nat.reduceEqDiff, Nat.reduceAdd, Nat.zero_ne_one, Nat.one_ne_zero, false_and, and_false, true_and, and_true, and_self, if_false, if_true, ↓reduceIte, e5, z, s_bitOf, oA, oB, wA, wB, a12, b12, ba, d1, nI_bit, ed, dd, f3, z66, c66, Bool.false_eq_true]
        have pc : ps (chB A) (cn (chB A) (12 * a + b) 0) = 12 * a + b := by rw [f5, nx_t (by omega) cp]
        have e2 : cn (chB A) (12 * a + b + 1) 0 = cn (chB A) (12 * a + b) 0 + 1 := by rw [cn_s, cp]; simp
        refine ih (b + 1) _ _ (by omega) (by omega) ⟨Sm_I (Sm_I (Sm_I f1 (by omega)) (by omega)) (by omega), ?_, ?_, ?_, ?_⟩ K
        · intro j hj
          rw [rI_nk hj, rI_ne (by omega), rI_ne (by omega)]
          exact f2 j hj
        · rw [rI_eq, show 12 * a + (b + 1) = 12 * a + b + 1 from by omega, e2]
        · intro i hi
          rw [show 12 * a + (b + 1) = 12 * a + b + 1 from by omega, e2] at hi
          by_cases ic : i = cn (chB A) (12 * a + b) 0
          · rw [ic, pc, eq1, eq2]
            refine ⟨?_, ?_, cp, by omega⟩
            · rw [rI_ne (by omega), rI_ne (by omega), rI_eq]
            · rw [rI_ne (by omega), rI_eq]
          · obtain ⟨k1, k2, k3⟩ := f4 i (by omega)
            refine ⟨?_, ?_, k3⟩
            · rw [rI_ne (by omega), rI_ne (by omega), rI_nk ic]
              exact k1
            · rw [rI_ne (by omega), rI_nk ic, rI_ne (by omega)]
              exact k2
        · rw [show 12 * a + (b + 1) = 12 * a + b + 1 from by omega, e2, ps, pc]
      · rw [dd] at cp
        simp (disch := omega) only [e_14_25, e_14_26, e_14_29, e_14_32, e_14_35, e_14_35n, e_14_36, e_14_37, e_14_38, e_14_38n, e_14_39, e_14_40, e_14_41, e_14_42, e_14_44, e_14_47, e_14_47n, e_14_48, e_14_50, e_14_51, e_14_51n, e_14_52, e_14_54, e_14_55, e_14_56, e_14_57, e_14_60, e_14_61, e_14_63, e_14_65, e_14_66, e_14_69, e_14_70, e_14_73, e_14_76, e_14_77, e_14_78, e_14_80, e_14_83, e_14_126, e_14_129, n10, n01, Nat.lt_irrefl, Nat.not_lt_zero, ne_eq, Nat.add_zero, Nat.one_ne_zero, Nat.zero_ne_one, Nat.reduceEqDiff, bI_T, bI_F, bI_0, bI_1, bI_01, not_and_self, true_and, and_true, not_true_eq_false, not_false_eq_true, false_imp_iff, true_imp_iff, imp_self, gPv_n, gPv_i, gPv_r, gPv_0, Option.toList_some, Option.toList_none, List.singleton_append, List.cons_append, List.nil_append, List.length_nil, List.length_cons, Nat.zero_le, Nat.reduceAdd, Nat.reduceLeDiff, or_true, true_or, false_or, or_false, and_self, and_false, false_and, implies_true, Option.some.injEq, exists_eq_left', nL, nI_add, nI_mul, nI_clamp, nI_ltI, nI_leI, nI_eq, nI_pos, nI_pos', Nat.reduceAdd, Nat.reduceMul, Nat.reducePow, sk_1 hvT, sr_1_0 hvT, sr_1_1 hvT, sr_1_2 hvT, sr_1_3 hvT, sr_1_4 hvT, sr_1_7 hvT, sr_1_9 hvT, sr_1_14 hvT, sr_1_15 hvT, sr_1_16 hvT, sk_7 hvT, sn_7 hvT, sk_29 hvT, sn_29 hvT, sk_30 hvT, sn_30 hvT, sk_37 hvT, sr_37_0 hvT, sr_37_1 hvT, sr_37_2 hvT, sr_37_3 hvT, sr_37_5 hvT, e5, z, s_bitOf, oA, oB, wA, wB, a12, b12, ba, d1, nI_bit, ed, dd]
        exact ih (b + 1) τ _ (by omega) (by omega) (LsI_0 (p := 12 * a + b) hF (by omega) (by rw [cp]; rfl)) K
end
