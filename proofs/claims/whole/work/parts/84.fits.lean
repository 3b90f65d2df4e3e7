/-! fits: the class -/
theorem cn_fo' {C : Nat → Bool} : ∀ m i, cn C m i = 0 ↔ fo C m i = none := by
  intro m
  induction m with
  | zero => intro i; simp [cn, fo]
  | succ m ih =>
    intro i
    simp only [cn, fo]
    cases c : C i
    · simp only [Bool.false_eq_true, if_false, Nat.zero_add]
      exact ih (i + 1)
    · simp
def ftB (A : Nat → Int32) (h p : Nat) : Bool := decide (p / 12 < p % 12 ∧ p % 12 < hn A) && !Dr A (p / 12) (p % 12) && decide (wrN A (dE (opn A (A 249)) (wdn A (A 249)) (p / 12) (p % 12)) h = 0)
def FtX (C : Nat → Bool) (p : Nat) (R : Nat → Int32) : Prop := R 6 = nI (cn C p 0) ∧ R 7 = foI ((fo C p 0).map (fun x => x / 12)) ∧ R 8 = foI ((fo C p 0).map (fun x => x % 12))
def FtR (A : Nat → Int32) (h : Nat) (R : Nat → Int32) : Prop := R 5 = bI (wrN A (opn A (A 249)) h = 0) ∧ FtX (ftB A h) 144 R
theorem FtX_0 {C : Nat → Bool} {p : Nat} {R : Nat → Int32} (h : FtX C p R) (c : C p = false) : FtX C (p + 1) R := by
  obtain ⟨h1, h2, h3⟩ := h
  refine ⟨?_, ?_, ?_⟩
  · rw [cn_s, c]
    exact h1
  · rw [fo_s, c]
    simpa using h2
  · rw [fo_s, c]
    simpa using h3
theorem FtX_sk {C : Nat → Bool} {a b : Nat} {R : Nat → Int32} (h : FtX C a R) (hab : a ≤ b) (hc : ∀ j, a ≤ j → j < b → C j = false) : FtX C b R := by
  obtain ⟨e1, e2⟩ := cn_sk hab hc
  simp only [FtX, e1, e2]
  exact h
section
variable {CV : Nat → (Nat → Int32) → (Nat → Nat → Int32) → Prop} {B : Nat} {own : Nat → Nat} {σ : gS} {A : Nat → Int32} {d cc : Nat} {Q : Option Value → gS → Prop} {E : Nat → Nat}
theorem s_tryDoor {C : Nat → Bool} {p h a b : Nat} (hc : Ctx B own σ A) (hE : EdG A E) (hR : ∀ j, j < 12 → gI σ (B + 43) j = nI (E j)) (hh : h < hn A) (hp : p < 144) (hX : FtX C p (gI σ (B + 42))) (hC : C p = decide (wrN A E h = 0)) (ha : p / 12 = a) (hb : p % 12 = b) (K : ∀ τ, Sm (fun a => a = B + 42 ∨ a = B + 44) σ τ → (∀ j, j < 6 → gI τ (B + 42) j = gI σ (B + 42) j) → FtX C (p + 1) (gI τ (B + 42)) → Q none τ) : wc (d + 4) 35 [.ref (B + 42), .int (nI h), .int (nI a), .int (nI b)] σ Q := by
  have hv := hc.1
  obtain ⟨x1, x2, x3⟩ := id hX
  have cl := cn_le C p 0
  simp (disch := omega) only [c_35, e_35_0, e_35_1, e_35_2, e_35_5, e_35_6, n10, n01, Nat.lt_irrefl, Nat.not_lt_zero, ne_eq, Nat.add_zero, Nat.one_ne_zero, Nat.zero_ne_one, Nat.reduceEqDiff, bI_T, bI_F, bI_0, bI_1, bI_01, not_and_self, true_and, and_true, not_true_eq_false, not_false_eq_true, false_imp_iff, true_imp_iff, imp_self, gPv_n, gPv_i, gPv_r, gPv_0, Option.toList_some, Option.toList_none, List.singleton_append, List.cons_append, List.nil_append, List.length_nil, List.length_cons, Nat.zero_le, Nat.reduceAdd, Nat.reduceLeDiff, or_true, true_or, false_or, or_false, and_self, and_false, false_and, implies_true, Option.some.injEq, exists_eq_left', nL, sk_42 hv, sr_42_0 hv, sr_42_1 hv, sr_42_2 hv, sk_43 hv, sn_43 hv]
  refine s_wrongLogs (d := d) hc (Or.inr rfl) hE hR hh ?_
  intro τ hS
  have hvT : IvS B τ := fr_IvS hS.1 hS.2.1 hS.2.2.1 hv
  have e42 : gI τ (B + 42) = gI σ (B + 42) := hS.2.2.2.2.2.2.1 _ (by omega)
  have wl : wrN A E h ≤ an A 253 := cn_le _ _ _
  have l8 := (log_n hc.2.1.1.2.2.2.1).1
  have hS' : Sm (fun a => a = B + 42 ∨ a = B + 44) σ τ := Sm_mono hS (fun a ha => Or.inr ha)
  by_cases w : wrN A E h = 0
  · have cp : C p = true := by rw [hC]; simp [w]
    by_cases c0 : cn C p 0 = 0
    · have f0 := (cn_fo' p 0).mp c0
      have x1' : gI σ (B + 42) 6 = nI 0 := by rw [x1, c0]
      simp (disch := omega) only [e_35_9, e_35_12, e_35_13, e_35_14, e_35_17, e_35_20, e_35_21, e_35_22, e_35_25, e_35_26, e_35_27, e_35_30, e_35_31, e_35_31n, e_35_32, e_35_35, e_35_36, e_35_37, e_35_40, n10, n01, Nat.lt_irrefl, Nat.not_lt_zero, ne_eq, Nat.add_zero, Nat.one_ne_zero, Nat.zero_ne_one, Nat.reduceEqDiff, bI_T, bI_F, bI_0, bI_1, bI_01, not_and_self, true_and, and_true, not_true_eq_false, not_false_eq_true, false_imp_iff, true_imp_iff, imp_self, gPv_n, gPv_i, gPv_r, gPv_0, Option.toList_some, Option.toList_none, List.singleton_append, List.cons_append, List.nil_append, List.length_nil, List.length_cons, Nat.zero_le, Nat.reduceAdd, Nat.reduceLeDiff, or_true, true_or, false_or, or_false, and_self, and_false, false_and, implies_true, Option.some.injEq, exists_eq_left', nL, nI_add, nI_mul, nI_clamp, nI_ltI, nI_leI, nI_eq, nI_pos, nI_pos', Nat.reduceAdd, Nat.reduceMul, Nat.reducePow, n_K_I, n_K_J, n_K_R, n_K_r, n_N_I, n_N_J, n_N_R, n_N_r, n_R_I, n_R_J, n_R_r, n_J_I, n_J_R, n_J_r, n_I_J, n_I_R, n_n_I, n_n_J, n_n_R, n_n_r, n_w_I, n_w_J, n_w_R, n_w_r, n_T_I, n_T_J, n_T_R, n_T_r, rI_ne, rI_nk, rI_eq, rr_ne, rr_eq, n_J_J, n_R_R, Nat.add_left_cancel_iff, Nat.add_right_cancel_iff, Nat.add_eq_left, Nat.left_eq_add, Nat.reduceEqDiff, Nat.reduceAdd, Nat.zero_ne_one, Nat.one_ne_zero, false_and, and_false, true_and, and_true, and_self, if_false, if_true, ↓reduceIte, sk_42 hvT, sr_42_0 hvT, sr_42_1 hvT, sr_42_2 hvT, e42, x1', w]
      refine K _ (Sm_I (Sm_I (Sm_I hS' (Or.inl rfl)) (Or.inl rfl)) (Or.inl rfl)) ?_ ⟨?_, ?_, ?_⟩
      · intro j hj
        rw [rI_nk (by omega), rI_nk (by omega), rI_nk (by omega), e42]
      · rw [rI_eq, cn_s, c0, cp]
        rfl
      · rw [rI_nk (by omega), rI_nk (by omega), rI_eq, fo_s, f0, cp]
        simp only [if_true, Option.none_or, Option.map_some, foI, ha]
      · rw [rI_nk (by omega), rI_eq, fo_s, f0, cp]
        simp only [if_true, Option.none_or, Option.map_some, foI, hb]
    · obtain ⟨q, hq⟩ : ∃ q, fo C p 0 = some q := by
        cases z : fo C p 0 with
        | none => exact absurd ((cn_fo' p 0).mpr z) c0
        | some q => exact ⟨q, rfl⟩
      simp (disch := omega) only [e_35_9, e_35_12, e_35_13, e_35_14, e_35_17, e_35_20, e_35_21, e_35_22, e_35_25, e_35_26, e_35_27, e_35_30, e_35_31, e_35_31n, e_35_32, e_35_35, e_35_36, e_35_37, e_35_40, n10, n01, Nat.lt_irrefl, Nat.not_lt_zero, ne_eq, Nat.add_zero, Nat.one_ne_zero, Nat.zero_ne_one, Nat.reduceEqDiff, bI_T, bI_F, bI_0, bI_1, bI_01, not_and_self, true_and, and_true, not_true_eq_false, not_false_eq_true, false_imp_iff, true_imp_iff, imp_self, gPv_n, gPv_i, gPv_r, gPv_0, Option.toList_some, Option.toList_none, List.singleton_append, List.cons_append, List.nil_append, List.length_nil, List.length_cons, Nat.zero_le, Nat.reduceAdd, Nat.reduceLeDiff, or_true, true_or, false_or, or_false, and_self, and_false, false_and, implies_true, Option.some.injEq, exists_eq_left', nL, nI_add, nI_mul, nI_clamp, nI_ltI, nI_leI, nI_eq, nI_pos, nI_pos', Nat.reduceAdd, Nat.reduceMul, Nat.reducePow, n_K_I, n_K_J, n_K_R, n_K_r, n_N_I, n_N_J, n_N_R, n_N_r, n_R_I, n_R_J, n_R_r, n_J_I, n_J_R, n_J_r, n_I_J, n_I_R, n_n_I, n_n_J, n_n_R, n_n_r, n_w_I, n_w_J, n_w_R, n_w_r, n_T_I, n_T_J, n_T_R, n_T_r, rI_ne, rI_nk, rI_eq, rr_ne, rr_eq, n_J_J, n_R_R, Nat.add_left_cancel_iff, Nat.add_right_cancel_iff, Nat.add_eq_left, Nat.left_eq_add, Nat.reduceEqDiff, Nat.reduceAdd, Nat.zero_ne_one, Nat.one_ne_zero, false_and, and_false, true_and, and_true, and_self, if_false, if_true, ↓reduceIte, sk_42 hvT, sr_42_0 hvT, sr_42_1 hvT, sr_42_2 hvT, e42, x1, w, c0]
      refine K _ (Sm_I hS' (Or.inl rfl)) ?_ ⟨?_, ?_, ?_⟩
      · intro j hj
        rw [rI_nk (by omega), e42]
      · rw [rI_eq, cn_s, cp]
        rfl
      · rw [rI_nk (by omega), e42, x2, fo_s, hq]
        rfl
      · rw [rI_nk (by omega), e42, x3, fo_s, hq]
        rfl
  · have cp : C p = false := by rw [hC]; simp [w]
    simp (disch := omega) only [e_35_9, e_35_12, e_35_13, e_35_14, e_35_17, e_35_20, e_35_21, e_35_22, e_35_25, e_35_26, e_35_27, e_35_30, e_35_31, e_35_31n, e_35_32, e_35_35, e_35_36, e_35_37, e_35_40, n10, n01, Nat.lt_irrefl, Nat.not_lt_zero, ne_eq, Nat.add_zero, Nat.one_ne_zero, Nat.zero_ne_one, Nat.reduceEqDiff, bI_T, bI_F, bI_0, bI_1, bI_01, not_and_self, true_and, and_true, not_true_eq_false, not_false_eq_true, false_imp_iff, true_imp_iff, imp_self, gPv_n, gPv_i, gPv_r, gPv_0, Option.toList_some, Option.toList_none, List.singleton_append, List.cons_append, List.nil_append, List.length_nil, List.length_cons, Nat.zero_le, Nat.reduceAdd, Nat.reduceLeDiff, or_true, true_or, false_or, or_false, and_self, and_false, false_and, implies_true, Option.some.injEq, exists_eq_left', nL, nI_add, nI_mul, nI_clamp, nI_ltI, nI_leI, nI_eq, nI_pos, nI_pos', Nat.reduceAdd, Nat.reduceMul, Nat.reducePow, w]
    refine K _ hS' (fun j _ => by rw [e42]) ?_
    rw [e42]
    exact FtX_0 hX cp
abbrev FtI (B : Nat) (σ : gS) (A : Nat → Int32) (h p : Nat) (y3 y4 y5 : Int32) (τ : gS) : Prop := Sm (fun a => B + 42 ≤ a ∧ a ≤ B + 44) σ τ ∧ (∀ j, j < 12 → gI τ (B + 43) j = nI (opn A (A 249) j)) ∧ (gI τ (B + 42) 3 = y3 ∧ gI τ (B + 42) 4 = y4 ∧ gI τ (B + 42) 5 = y5) ∧ FtX (ftB A h) p (gI τ (B + 42))
set_option maxHeartbeats 1000000 in
theorem s_ft1 {h a : Nat} {y3 y4 y5 : Int32} (hc : Ctx B own σ A) (hO : ∀ j, j < 12 → gI σ (B + 29) j = nI (opn A (A 249) j)) (hW : ∀ j, j < 12 → gI σ (B + 30) j = nI (wdn A (A 249) j)) (hh : h < hn A) (ha : a < hn A) : ∀ m b τ, b + m = hn A → a < b → FtI B σ A h (12 * a + b) y3 y4 y5 τ →
    (∀ τ', FtI B σ A h (12 * a + hn A) y3 y4 y5 τ' → wp (d + 4) pr_34 Q 184 [some (.ref (B + 42)), some (.ref (B + 29)), some (.ref (B + 30)), some (.int (nI h)), some (.int (nI a)), some (.int (nI (hn A)))] [] τ') →
    wp (d + 4) pr_34 Q 115 [some (.ref (B + 42)), some (.ref (B + 29)), some (.ref (B + 30)), some (.int (nI h)), some (.int (nI a)), some (.int (nI b))] [] τ := by
  have w1 : Wh A := hc.2.1.1.1
  have h12 := hn_le w1
  have hn2 := hn_eq w1
  intro m
  induction m with
  | zero =>
    intro b τ hb hab hF K
    have e : b = hn A := by omega
    subst e
    have hcT : Ctx B own τ A := Ctx_S hc (Sm_mono hF.1 (fun a ha => by omega))
    have hvT := hcT.1
    have e5 : gI τ (B + 1) 5 = nI (hn A) := hcT.2.1.2.1.1.1.trans hn2
    simp (disch := omega) only [e_34_115, e_34_117, e_34_118, e_34_121, e_34_124, n10, n01, Nat.lt_irrefl, Nat.not_lt_zero, ne_eq, Nat.add_zero, Nat.one_ne_zero, Nat.zero_ne_one, Nat.reduceEqDiff, bI_T, bI_F, bI_0, bI_1, bI_01, not_and_self, true_and, and_true, not_true_eq_false, not_false_eq_true, false_imp_iff, true_imp_iff, imp_self, gPv_n, gPv_i, gPv_r, gPv_0, Option.toList_some, Option.toList_none, List.singleton_append, List.cons_append, List.nil_append, List.length_nil, List.length_cons, Nat.zero_le, Nat.reduceAdd, Nat.reduceLeDiff, or_true, true_or, false_or, or_false, and_self, and_false, false_and, implies_true, Option.some.injEq, exists_eq_left', nL, nI_add, nI_mul, nI_clamp, nI_ltI, nI_leI, nI_eq, nI_pos, nI_pos', Nat.reduceAdd, Nat.reduceMul, Nat.reducePow, sk_1 hvT, sr_1_0 hvT, sr_1_1 hvT, sr_1_2 hvT, sr_1_3 hvT, sr_1_4 hvT, sr_1_7 hvT, sr_1_9 hvT, sr_1_14 hvT, sr_1_15 hvT, sr_1_16 hvT, sk_42 hvT, sr_42_0 hvT, sr_42_1 hvT, sr_42_2 hvT, e5, Nat.le_refl]
    exact K τ hF
  | succ m ih =>
    intro b τ hb hab hF K
    have hb' : b < hn A := by omega
    have z : ¬ hn A ≤ b := by omega
    have hcT : Ctx B own τ A := Ctx_S hc (Sm_mono hF.1 (fun a ha => by omega))
    have hvT := hcT.1
    obtain ⟨⟨_, w2, w3, w4, w5⟩, ⟨t1, t2, t3, t4, t5⟩, lw⟩ := hcT.2.1
    have e5 : gI τ (B + 1) 5 = nI (hn A) := t1.1.trans hn2
    have d1 : gI τ (B + 7) a = nI (mkN (Dr A a) 12) := t2.2 a ha
    have m1 : mkN (Dr A a) 12 < 4096 := mk_lt12 (Nat.le_refl 12)
    have b12 : b < 12 := by omega
    have a12 : a < 12 := by omega
    have ed : (mkN (Dr A a) 12).testBit b = Dr A a b := by rw [tb_mk]; simp [b12]
    have eq1 : (12 * a + b) / 12 = a := by omega
    have eq2 : (12 * a + b) % 12 = b := by omega
    obtain ⟨f1, f2, ⟨f3, f4, f5⟩, f6⟩ := id hF
    have hOT : ∀ j, j < 12 → gI τ (B + 29) j = nI (opn A (A 249) j) := fun j hj => by rw [f1.2.2.2.2.2.2.1 _ (by omega)]; exact hO j hj
    have hWT : ∀ j, j < 12 → gI τ (B + 30) j = nI (wdn A (A 249) j) := fun j hj => by rw [f1.2.2.2.2.2.2.1 _ (by omega)]; exact hW j hj
    rw [e_34_115]
    by_cases dd : Dr A a b = true
    · have cp : ftB A h (12 * a + b) = false := by simp only [ftB, eq1, eq2, dd]; simp
      simp (disch := omega) only [e_34_117, e_34_118, e_34_121, e_34_124, e_34_127, e_34_128, e_34_131, e_34_134, e_34_136, e_34_137, e_34_139, e_34_142, e_34_178, e_34_181, n10, n01, Nat.lt_irrefl, Nat.not_lt_zero, ne_eq, Nat.add_zero, Nat.one_ne_zero, Nat.zero_ne_one, Nat.reduceEqDiff, bI_T, bI_F, bI_0, bI_1, bI_01, not_and_self, true_and, and_true, not_true_eq_false, not_false_eq_true, false_imp_iff, true_imp_iff, imp_self, gPv_n, gPv_i, gPv_r, gPv_0, Option.toList_some, Option.toList_none, List.singleton_append, List.cons_append, List.nil_append, List.length_nil, List.length_cons, Nat.zero_le, Nat.reduceAdd, Nat.reduceLeDiff, or_true, true_or, false_or, or_false, and_self, and_false, false_and, implies_true, Option.some.injEq, exists_eq_left', nL, nI_add, nI_mul, nI_clamp, nI_ltI, nI_leI, nI_eq, nI_pos, nI_pos', Nat.reduceAdd, Nat.reduceMul, Nat.reducePow, sk_1 hvT, sr_1_0 hvT, sr_1_1 hvT, sr_1_2 hvT, sr_1_3 hvT, sr_1_4 hvT, sr_1_7 hvT, sr_1_9 hvT, sr_1_14 hvT, sr_1_15 hvT, sr_1_16 hvT, sk_7 hvT, sn_7 hvT, sk_42 hvT, sr_42_0 hvT, sr_42_1 hvT, sr_42_2 hvT, e5, z, d1, s_bitOf, nI_bit, ed, dd, a12]
      exact ih (b + 1) τ (by omega) (by omega) ⟨f1, f2, ⟨f3, f4, f5⟩, FtX_0 f6 cp⟩ K
    · have cp : ftB A h (12 * a + b) = decide (wrN A (dE (opn A (A 249)) (wdn A (A 249)) a b) h = 0) := by simp only [ftB, eq1, eq2]; simp [dd, hab, hb']
      simp (disch := omega) only [e_34_117, e_34_118, e_34_121, e_34_124, e_34_127, e_34_128, e_34_131, e_34_134, e_34_136, e_34_137, e_34_139, e_34_142, e_34_145, e_34_146, e_34_149, e_34_149n, e_34_150, e_34_152, n10, n01, Nat.lt_irrefl, Nat.not_lt_zero, ne_eq, Nat.add_zero, Nat.one_ne_zero, Nat.zero_ne_one, Nat.reduceEqDiff, bI_T, bI_F, bI_0, bI_1, bI_01, not_and_self, true_and, and_true, not_true_eq_false, not_false_eq_true, false_imp_iff, true_imp_iff, imp_self, gPv_n, gPv_i, gPv_r, gPv_0, Option.toList_some, Option.toList_none, List.singleton_append, List.cons_append, List.nil_append, List.length_nil, List.length_cons, Nat.zero_le, Nat.reduceAdd, Nat.reduceLeDiff, or_true, true_or, false_or, or_false, and_self, and_false, false_and, implies_true, Option.some.injEq, exists_eq_left', nL, nI_add, nI_mul, nI_clamp, nI_ltI, nI_leI, nI_eq, nI_pos, nI_pos', Nat.reduceAdd, Nat.reduceMul, Nat.reducePow, sk_1 hvT, sr_1_0 hvT, sr_1_1 hvT, sr_1_2 hvT, sr_1_3 hvT, sr_1_4 hvT, sr_1_7 hvT, sr_1_9 hvT, sr_1_14 hvT, sr_1_15 hvT, sr_1_16 hvT, sk_7 hvT, sn_7 hvT, sk_42 hvT, sr_42_0 hvT, sr_42_1 hvT, sr_42_2 hvT, e5, z, d1, s_bitOf, nI_bit, ed, dd, a12, Bool.false_eq_true]
      simp (disch := omega) only [e_34_154, n10, n01, Nat.lt_irrefl, Nat.not_lt_zero, ne_eq, Nat.add_zero, Nat.one_ne_zero, Nat.zero_ne_one, Nat.reduceEqDiff, bI_T, bI_F, bI_0, bI_1, bI_01, not_and_self, true_and, and_true, not_true_eq_false, not_false_eq_true, false_imp_iff, true_imp_iff, imp_self, gPv_n, gPv_i, gPv_r, gPv_0, Option.toList_some, Option.toList_none, List.singleton_append, List.cons_append, List.nil_append, List.length_nil, List.length_cons, Nat.zero_le, Nat.reduceAdd, Nat.reduceLeDiff, or_true, true_or, false_or, or_false, and_self, and_false, false_and, implies_true, Option.some.injEq, exists_eq_left']
      refine s_putPair (d := d + 2) (sk_43 hvT) (sn_43 hvT) (sk_30 hvT) (sn_30 hvT) (by omega) a12 b12 (by omega) f2 hWT ?_
      intro τ1 g1 g2
      have g1' : Sm (fun a => B + 42 ≤ a ∧ a ≤ B + 44) τ τ1 := Sm_mono g1 (fun a ha => by omega)
      have hcT1 : Ctx B own τ1 A := Ctx_S hcT (Sm_mono g1' (fun a ha => by omega))
      have hvT1 := hcT1.1
      have e42 : gI τ1 (B + 42) = gI τ (B + 42) := g1.2.2.2.2.2.2.1 _ (by omega)
      simp (disch := omega) only [e_34_157, e_34_158, e_34_159, e_34_161, e_34_163, n10, n01, Nat.lt_irrefl, Nat.not_lt_zero, ne_eq, Nat.add_zero, Nat.one_ne_zero, Nat.zero_ne_one, Nat.reduceEqDiff, bI_T, bI_F, bI_0, bI_1, bI_01, not_and_self, true_and, and_true, not_true_eq_false, not_false_eq_true, false_imp_iff, true_imp_iff, imp_self, gPv_n, gPv_i, gPv_r, gPv_0, Option.toList_some, Option.toList_none, List.singleton_append, List.cons_append, List.nil_append, List.length_nil, List.length_cons, Nat.zero_le, Nat.reduceAdd, Nat.reduceLeDiff, or_true, true_or, false_or, or_false, and_self, and_false, false_and, implies_true, Option.some.injEq, exists_eq_left', sk_42 hvT1, sr_42_0 hvT1, sr_42_1 hvT1, sr_42_2 hvT1, nL]
      refine s_tryDoor (d := d) (C := ftB A h) (p := 12 * a + b) hcT1 (EdG_d (EdG_o w1) (EdG_w w1) ha hb') g2 hh (by omega) (by rw [e42]; exact f6) cp eq1 eq2 ?_
      intro τ2 k1 k2 k3
      have k1' : Sm (fun a => B + 42 ≤ a ∧ a ≤ B + 44) τ1 τ2 := Sm_mono k1 (fun a ha => by omega)
      have hvT2 : IvS B τ2 := fr_IvS k1.1 k1.2.1 k1.2.2.1 hvT1
      simp (disch := omega) only [e_34_166, e_34_167, e_34_170, e_34_170n, e_34_171, e_34_173, e_34_175, n10, n01, Nat.lt_irrefl, Nat.not_lt_zero, ne_eq, Nat.add_zero, Nat.one_ne_zero, Nat.zero_ne_one, Nat.reduceEqDiff, bI_T, bI_F, bI_0, bI_1, bI_01, not_and_self, true_and, and_true, not_true_eq_false, not_false_eq_true, false_imp_iff, true_imp_iff, imp_self, gPv_n, gPv_i, gPv_r, gPv_0, Option.toList_some, Option.toList_none, List.singleton_append, List.cons_append, List.nil_append, List.length_nil, List.length_cons, Nat.zero_le, Nat.reduceAdd, Nat.reduceLeDiff, or_true, true_or, false_or, or_false, and_self, and_false, false_and, implies_true, Option.some.injEq, exists_eq_left', sk_42 hvT2, sr_42_0 hvT2, sr_42_1 hvT2, sr_42_2 hvT2, nL]
      have r2 : ∀ j, j < 12 → gI τ2 (B + 43) j = nI (dE (opn A (A 249)) (wdn A (A 249)) a b j) := fun j hj => by rw [k1.2.2.2.2.2.2.1 _ (by omega)]; exact g2 j hj
      have o2 : ∀ j, j < 12 → gI τ2 (B + 29) j = nI (opn A (A 249) j) := fun j hj => by rw [k1.2.2.2.2.2.2.1 _ (by omega), g1.2.2.2.2.2.2.1 _ (by omega)]; exact hOT j hj
      refine s_putPair (d := d + 2) (sk_43 hvT2) (sn_43 hvT2) (sk_29 hvT2) (sn_29 hvT2) (by omega) a12 b12 (by omega) r2 o2 ?_
      intro τ3 l1 l2
      have l1' : Sm (fun a => B + 42 ≤ a ∧ a ≤ B + 44) τ2 τ3 := Sm_mono l1 (fun a ha => by omega)
      have e423 : gI τ3 (B + 42) = gI τ2 (B + 42) := l1.2.2.2.2.2.2.1 _ (by omega)
      simp (disch := omega) only [e_34_178, e_34_181, n10, n01, Nat.lt_irrefl, Nat.not_lt_zero, ne_eq, Nat.add_zero, Nat.one_ne_zero, Nat.zero_ne_one, Nat.reduceEqDiff, bI_T, bI_F, bI_0, bI_1, bI_01, not_and_self, true_and, and_true, not_true_eq_false, not_false_eq_true, false_imp_iff, true_imp_iff, imp_self, gPv_n, gPv_i, gPv_r, gPv_0, Option.toList_some, Option.toList_none, List.singleton_append, List.cons_append, List.nil_append, List.length_nil, List.length_cons, Nat.zero_le, Nat.reduceAdd, Nat.reduceLeDiff, or_true, true_or, false_or, or_false, and_self, and_false, false_and, implies_true, Option.some.injEq, exists_eq_left', nL, nI_add]
      refine ih (b + 1) τ3 (by omega) (by omega) ⟨Sm_trans (Sm_trans (Sm_trans f1 g1') k1') l1', ?_, ⟨?_, ?_, ?_⟩, ?_⟩ K
      · intro j hj
        rw [l2 j hj, dE_dE]
      · rw [e423, k2 3 (by omega), e42, f3]
      · rw [e423, k2 4 (by omega), e42, f4]
      · rw [e423, k2 5 (by omega), e42, f5]
      · rw [e423]
        exact k3
theorem s_ft2 {h : Nat} {y3 y4 y5 : Int32} (hc : Ctx B own σ A) (hO : ∀ j, j < 12 → gI σ (B + 29) j = nI (opn A (A 249) j)) (hW : ∀ j, j < 12 → gI σ (B + 30) j = nI (wdn A (A 249) j)) (hh : h < hn A) (K : ∀ τ', FtI B σ A h 144 y3 y4 y5 τ' → Q none τ') : ∀ m a τ (x5 : Option Value), a + m = hn A → FtI B σ A h (12 * a) y3 y4 y5 τ → wp (d + 4) pr_34 Q 97 [some (.ref (B + 42)), some (.ref (B + 29)), some (.ref (B + 30)), some (.int (nI h)), some (.int (nI a)), x5] [] τ := by
  have w1 : Wh A := hc.2.1.1.1
  have h12 := hn_le w1
  have hn2 := hn_eq w1
  intro m
  induction m with
  | zero =>
    intro a τ x5 ha hF
    have hvT : IvS B τ := fr_IvS hF.1.1 hF.1.2.1 hF.1.2.2.1 hc.1
    have hcT : Ctx B own τ A := Ctx_S hc (Sm_mono hF.1 (fun a ha => by omega))
    have e5 : gI τ (B + 1) 5 = nI (hn A) := hcT.2.1.2.1.1.1.trans hn2
    have z : hn A ≤ a := by omega
    simp (disch := omega) only [e_34_97, e_34_99, e_34_100, e_34_103, e_34_106, e_34_190, n10, n01, Nat.lt_irrefl, Nat.not_lt_zero, ne_eq, Nat.add_zero, Nat.one_ne_zero, Nat.zero_ne_one, Nat.reduceEqDiff, bI_T, bI_F, bI_0, bI_1, bI_01, not_and_self, true_and, and_true, not_true_eq_false, not_false_eq_true, false_imp_iff, true_imp_iff, imp_self, gPv_n, gPv_i, gPv_r, gPv_0, Option.toList_some, Option.toList_none, List.singleton_append, List.cons_append, List.nil_append, List.length_nil, List.length_cons, Nat.zero_le, Nat.reduceAdd, Nat.reduceLeDiff, or_true, true_or, false_or, or_false, and_self, and_false, false_and, implies_true, Option.some.injEq, exists_eq_left', nL, nI_add, nI_mul, nI_clamp, nI_ltI, nI_leI, nI_eq, nI_pos, nI_pos', Nat.reduceAdd, Nat.reduceMul, Nat.reducePow, sk_1 hvT, sr_1_0 hvT, sr_1_1 hvT, sr_1_2 hvT, sr_1_3 hvT, sr_1_4 hvT, sr_1_7 hvT, sr_1_9 hvT, sr_1_14 hvT, sr_1_15 hvT, sr_1_16 hvT, sk_42 hvT, sr_42_0 hvT, sr_42_1 hvT, sr_42_2 hvT, e5, z]
    obtain ⟨f1, f2, f3, f4⟩ := hF
    refine K τ ⟨f1, f2, f3, FtX_sk f4 (by omega) ?_⟩
    intro j j1 j2
    have : ¬ (j / 12 < j % 12 ∧ j % 12 < hn A) := by omega
    simp only [ftB, this, decide_false, Bool.false_and]
  | succ m ih =>
    intro a τ x5 ha hF
    have ha' : a < hn A := by omega
    have hcT : Ctx B own τ A := Ctx_S hc (Sm_mono hF.1 (fun a ha => by omega))
    have hvT := hcT.1
    have e5 : gI τ (B + 1) 5 = nI (hn A) := hcT.2.1.2.1.1.1.trans hn2
    have z : ¬ hn A ≤ a := by omega
    rw [e_34_97]
    simp (disch := omega) only [e_34_99, e_34_100, e_34_103, e_34_106, e_34_109, e_34_111, e_34_112, e_34_113, n10, n01, Nat.lt_irrefl, Nat.not_lt_zero, ne_eq, Nat.add_zero, Nat.one_ne_zero, Nat.zero_ne_one, Nat.reduceEqDiff, bI_T, bI_F, bI_0, bI_1, bI_01, not_and_self, true_and, and_true, not_true_eq_false, not_false_eq_true, false_imp_iff, true_imp_iff, imp_self, gPv_n, gPv_i, gPv_r, gPv_0, Option.toList_some, Option.toList_none, List.singleton_append, List.cons_append, List.nil_append, List.length_nil, List.length_cons, Nat.zero_le, Nat.reduceAdd, Nat.reduceLeDiff, or_true, true_or, false_or, or_false, and_self, and_false, false_and, implies_true, Option.some.injEq, exists_eq_left', nL, nI_add, nI_mul, nI_clamp, nI_ltI, nI_leI, nI_eq, nI_pos, nI_pos', Nat.reduceAdd, Nat.reduceMul, Nat.reducePow, sk_1 hvT, sr_1_0 hvT, sr_1_1 hvT, sr_1_2 hvT, sr_1_3 hvT, sr_1_4 hvT, sr_1_7 hvT, sr_1_9 hvT, sr_1_14 hvT, sr_1_15 hvT, sr_1_16 hvT, sk_42 hvT, sr_42_0 hvT, sr_42_1 hvT, sr_42_2 hvT, e5, z]
    obtain ⟨f1, f2, f3, f4⟩ := hF
    refine s_ft1 hc hO hW hh ha' (hn A - (a + 1)) (a + 1) τ (by omega) (by omega) ⟨f1, f2, f3, FtX_sk f4 (by omega) ?_⟩ ?_
    · intro j j1 j2
      have : ¬ (j / 12 < j % 12 ∧ j % 12 < hn A) := by omega
      simp only [ftB, this, decide_false, Bool.false_and]
    intro τ' ⟨g1, g2, g3, g4⟩
    simp (disch := omega) only [e_34_184, e_34_187, n10, n01, Nat.lt_irrefl, Nat.not_lt_zero, ne_eq, Nat.add_zero, Nat.one_ne_zero, Nat.zero_ne_one, Nat.reduceEqDiff, bI_T, bI_F, bI_0, bI_1, bI_01, not_and_self, true_and, and_true, not_true_eq_false, not_false_eq_true, false_imp_iff, true_imp_iff, imp_self, gPv_n, gPv_i, gPv_r, gPv_0, Option.toList_some, Option.toList_none, List.singleton_append, List.cons_append, List.nil_append, List.length_nil, List.length_cons, Nat.zero_le, Nat.reduceAdd, Nat.reduceLeDiff, or_true, true_or, false_or, or_false, and_self, and_false, false_and, implies_true, Option.some.injEq, exists_eq_left', nL, nI_add]
    refine ih (a + 1) τ' _ (by omega) ⟨g1, g2, g3, FtX_sk g4 (by omega) ?_⟩
    intro j j1 j2
    have : ¬ (j / 12 < j % 12 ∧ j % 12 < hn A) := by omega
    simp only [ftB, this, decide_false, Bool.false_and]
theorem s_ft3 {h : Nat} {y3 y4 y5 : Int32} (hc : Ctx B own σ A) (hO : ∀ j, j < 12 → gI σ (B + 29) j = nI (opn A (A 249) j)) (hW : ∀ j, j < 12 → gI σ (B + 30) j = nI (wdn A (A 249) j)) (hh : h < hn A) {τ : gS} {x4 x5 : Option Value} (hF : FtI B σ A h 0 y3 y4 y5 τ) (K : ∀ τ', FtI B σ A h 144 y3 y4 (bI (wrN A (opn A (A 249)) h = 0)) τ' → Q none τ') : wp (d + 4) pr_34 Q 73 [some (.ref (B + 42)), some (.ref (B + 29)), some (.ref (B + 30)), some (.int (nI h)), x4, x5] [] τ := by
  have w1 : Wh A := hc.2.1.1.1
  have hcT : Ctx B own τ A := Ctx_S hc (Sm_mono hF.1 (fun a ha => by omega))
  have hvT := hcT.1
  obtain ⟨f1, f2, ⟨f3, f4, f5⟩, f6⟩ := hF
  simp (disch := omega) only [e_34_73, e_34_74, e_34_75, e_34_76, e_34_79, e_34_80, n10, n01, Nat.lt_irrefl, Nat.not_lt_zero, ne_eq, Nat.add_zero, Nat.one_ne_zero, Nat.zero_ne_one, Nat.reduceEqDiff, bI_T, bI_F, bI_0, bI_1, bI_01, not_and_self, true_and, and_true, not_true_eq_false, not_false_eq_true, false_imp_iff, true_imp_iff, imp_self, gPv_n, gPv_i, gPv_r, gPv_0, Option.toList_some, Option.toList_none, List.singleton_append, List.cons_append, List.nil_append, List.length_nil, List.length_cons, Nat.zero_le, Nat.reduceAdd, Nat.reduceLeDiff, or_true, true_or, false_or, or_false, and_self, and_false, false_and, implies_true, Option.some.injEq, exists_eq_left', nL, sk_42 hvT, sr_42_0 hvT, sr_42_1 hvT, sr_42_2 hvT]
  refine s_wrongLogs (d := d + 1) hcT (Or.inr rfl) (EdG_o w1) f2 hh ?_
  intro τ1 hS
  have hvT1 : IvS B τ1 := fr_IvS hS.1 hS.2.1 hS.2.2.1 hvT
  have e42 : gI τ1 (B + 42) = gI τ (B + 42) := hS.2.2.2.2.2.2.1 _ (by omega)
  have e43 : gI τ1 (B + 43) = gI τ (B + 43) := hS.2.2.2.2.2.2.1 _ (by omega)
  have wl : wrN A (opn A (A 249)) h ≤ an A 253 := cn_le _ _ _
  have l8 := (log_n hc.2.1.1.2.2.2.1).1
  have fin : ∀ x : Int32, x = bI (wrN A (opn A (A 249)) h = 0) → FtI B σ A h (12 * 0) y3 y4 (bI (wrN A (opn A (A 249)) h = 0)) (sI τ1 (B + 42) 5 x) := by
    intro x hx
    refine ⟨Sm_I (Sm_trans f1 (Sm_mono hS (fun a ha => by omega))) ⟨by omega, by omega⟩, ?_, ⟨?_, ?_, ?_⟩, ?_⟩
    · intro j hj
      rw [rI_ne (by omega), e43]
      exact f2 j hj
    · rw [rI_nk (by omega), e42, f3]
    · rw [rI_nk (by omega), e42, f4]
    · rw [rI_eq, hx]
    · simp only [FtX]
      rw [rI_nk (by omega), rI_nk (by omega), rI_nk (by omega), e42]
      exact f6
  by_cases w : wrN A (opn A (A 249)) h = 0
  · simp (disch := omega) only [e_34_83, e_34_86, e_34_87, e_34_90, e_34_91, e_34_94, e_34_95, n10, n01, Nat.lt_irrefl, Nat.not_lt_zero, ne_eq, Nat.add_zero, Nat.one_ne_zero, Nat.zero_ne_one, Nat.reduceEqDiff, bI_T, bI_F, bI_0, bI_1, bI_01, not_and_self, true_and, and_true, not_true_eq_false, not_false_eq_true, false_imp_iff, true_imp_iff, imp_self, gPv_n, gPv_i, gPv_r, gPv_0, Option.toList_some, Option.toList_none, List.singleton_append, List.cons_append, List.nil_append, List.length_nil, List.length_cons, Nat.zero_le, Nat.reduceAdd, Nat.reduceLeDiff, or_true, true_or, false_or, or_false, and_self, and_false, false_and, implies_true, Option.some.injEq, exists_eq_left', nL, nI_add, nI_mul, nI_clamp, nI_ltI, nI_leI, nI_eq, nI_pos, nI_pos', Nat.reduceAdd, Nat.reduceMul, Nat.reducePow, sk_42 hvT1, sr_42_0 hvT1, sr_42_1 hvT1, sr_42_2 hvT1, w, n_K_I, n_K_J, n_K_R, n_K_r, n_N_I, n_N_J, n_N_R, n_N_r, n_R_I, n_R_J, n_R_r, n_J_I, n_J_R, n_J_r, n_I_J, n_I_R, n_n_I, n_n_J, n_n_R, n_n_r, n_w_I, n_w_J, n_w_R, n_w_r, n_T_I, n_T_J, n_T_R, n_T_r, rI_ne, rI_nk, rI_eq, rr_ne, rr_eq, n_J_J, n_R_R, Nat.add_left_cancel_iff, Nat.add_right_cancel_iff, Nat.add_eq_left, Nat.left_eq_add, Nat.reduceEqDiff, Nat.reduceAdd, Nat.zero_ne_one, Nat.one_ne_zero, false_and, and_false, true_and, and_true, and_self, if_false, if_true, ↓reduceIte]
    exact s_ft2 hc hO hW hh K (hn A) 0 _ _ (by omega) (fin _ (by simp only [w, bI_T]))
  · simp (disch := omega) only [e_34_83, e_34_86, e_34_87, e_34_90, e_34_91, e_34_94, e_34_95, n10, n01, Nat.lt_irrefl, Nat.not_lt_zero, ne_eq, Nat.add_zero, Nat.one_ne_zero, Nat.zero_ne_one, Nat.reduceEqDiff, bI_T, bI_F, bI_0, bI_1, bI_01, not_and_self, true_and, and_true, not_true_eq_false, not_false_eq_true, false_imp_iff, true_imp_iff, imp_self, gPv_n, gPv_i, gPv_r, gPv_0, Option.toList_some, Option.toList_none, List.singleton_append, List.cons_append, List.nil_append, List.length_nil, List.length_cons, Nat.zero_le, Nat.reduceAdd, Nat.reduceLeDiff, or_true, true_or, false_or, or_false, and_self, and_false, false_and, implies_true, Option.some.injEq, exists_eq_left', nL, nI_add, nI_mul, nI_clamp, nI_ltI, nI_leI, nI_eq, nI_pos, nI_pos', Nat.reduceAdd, Nat.reduceMul, Nat.reducePow, sk_42 hvT1, sr_42_0 hvT1, sr_42_1 hvT1, sr_42_2 hvT1, w, n_K_I, n_K_J, n_K_R, n_K_r, n_N_I, n_N_J, n_N_R, n_N_r, n_R_I, n_R_J, n_R_r, n_J_I, n_J_R, n_J_r, n_I_J, n_I_R, n_n_I, n_n_J, n_n_R, n_n_r, n_w_I, n_w_J, n_w_R, n_w_r, n_T_I, n_T_J, n_T_R, n_T_r, rI_ne, rI_nk, rI_eq, rr_ne, rr_eq, n_J_J, n_R_R, Nat.add_left_cancel_iff, Nat.add_right_cancel_iff, Nat.add_eq_left, Nat.left_eq_add, Nat.reduceEqDiff, Nat.reduceAdd, Nat.zero_ne_one, Nat.one_ne_zero, false_and, and_false, true_and, and_true, and_self, if_false, if_true, ↓reduceIte]
    exact s_ft2 hc hO hW hh K (hn A) 0 _ _ (by omega) (fin _ (by simp only [w, bI_F]))
theorem s_seekDoor {h : Nat} (hl : CVl CV) (h4 : ∀ A W, CV 4 A W ↔ ∀ h, h < hn A → W 17 4 = nI h → FtR A h (W 17)) (hc : Ctx B own σ A) (ha : Ca CV B A σ cc) (hO : ∀ j, j < 12 → gI σ (B + 29) j = nI (opn A (A 249) j)) (hW : ∀ j, j < 12 → gI σ (B + 30) j = nI (wdn A (A 249) j)) (hh : h < hn A) (K : ∀ τ, Sm (fun a => B + 42 ≤ a ∧ a ≤ B + 44) σ τ → Ca CV B A τ cc → FtR A h (gI τ (B + 42)) → Q none τ) : wc (d + 5) 34 [.ref (B + 42), .ref (B + 29), .ref (B + 30), .int (nI h)] σ Q := by
  have hv := hc.1
  have h12 := hn_le hc.2.1.1.1
  have e17 := ha.1
  have cc1 := ha.2.1
  have n12 : ¬ (12 : Nat) < 12 := by omega
  have k29 := sk_29 hv
  have k43 := sk_43 hv
  by_cases c : gI σ (B + 42) 3 = nI cc ∧ gI σ (B + 42) 4 = nI h
  · obtain ⟨c1, c2⟩ := c
    have := (ha.2.2 4 (by omega)).2 c1
    rw [h4] at this
    have := this h hh (by rw [cw_r (by omega)]; exact c2)
    rw [cw_r (by omega)] at this
    simp (disch := omega) only [c_34, e_34_0, e_34_0n, e_34_1, e_34_2, e_34_4, e_34_7, e_34_8, e_34_11, e_34_12, e_34_15, e_34_18, e_34_21, e_34_22, e_34_25, e_34_26, e_34_29, n10, n01, Nat.lt_irrefl, Nat.not_lt_zero, ne_eq, Nat.add_zero, Nat.one_ne_zero, Nat.zero_ne_one, Nat.reduceEqDiff, bI_T, bI_F, bI_0, bI_1, bI_01, not_and_self, true_and, and_true, not_true_eq_false, not_false_eq_true, false_imp_iff, true_imp_iff, imp_self, gPv_n, gPv_i, gPv_r, gPv_0, Option.toList_some, Option.toList_none, List.singleton_append, List.cons_append, List.nil_append, List.length_nil, List.length_cons, Nat.zero_le, Nat.reduceAdd, Nat.reduceLeDiff, or_true, true_or, false_or, or_false, and_self, and_false, false_and, implies_true, Option.some.injEq, exists_eq_left', nL, nI_add, nI_mul, nI_clamp, nI_ltI, nI_leI, nI_eq, nI_pos, nI_pos', Nat.reduceAdd, Nat.reduceMul, Nat.reducePow, sk_1 hv, sr_1_0 hv, sr_1_1 hv, sr_1_2 hv, sr_1_3 hv, sr_1_4 hv, sr_1_7 hv, sr_1_9 hv, sr_1_14 hv, sr_1_15 hv, sr_1_16 hv, sk_29 hv, sn_29 hv, sk_42 hv, sr_42_0 hv, sr_42_1 hv, sr_42_2 hv, nI_of_len, n12, e17, c1, c2]
    exact K σ (Sm_refl _ _) ha this
  · have fin : ∀ τ, FtI B σ A h 144 (nI cc) (nI h) (bI (wrN A (opn A (A 249)) h = 0)) τ → Q none τ := by
      intro τ ⟨f1, f2, ⟨f3, f4, f5⟩, f6⟩
      have hr : FtR A h (gI τ (B + 42)) := ⟨f5, f6⟩
      refine K τ f1 (Ca_G hl ha (by rw [f1.2.2.2.2.2.2.1 (B + 1) (by omega)]) ?_) hr
      intro i hi
      have eo : ∀ a, ¬ (B + 42 ≤ a ∧ a ≤ B + 44) → gI τ a = gI σ a := fun a ha => f1.2.2.2.2.2.2.1 a ha
      rcases i6 hi with rfl | rfl | rfl | rfl | rfl | rfl
      case inr.inr.inr.inr.inl =>
        refine Or.inr ⟨f3, ?_⟩
        rw [h4]
        intro h' hh' e
        rw [cw_r (by omega)] at e ⊢
        have e : gI τ (B + 42) 4 = nI h' := e
        rw [f4] at e
        have := (nI_eq (by omega) (by omega)).mp e
        subst this
        exact hr
      all_goals
        refine Or.inl ⟨?_, ?_⟩
        · simp only [cO_v]
          rw [eo _ (by omega)]
        · intro o ho
          simp only [cR, List.getD_cons_zero, List.getD_cons_succ, List.mem_cons, List.not_mem_nil, or_false] at ho
          exact eo _ (by omega)
    have go : wp (d + 4) pr_34 Q 30 [some (.ref (B + 42)), some (.ref (B + 29)), some (.ref (B + 30)), some (.int (nI h)), none, none] [] σ := by
      simp (disch := omega) only [e_34_29, e_34_30, e_34_31, e_34_32, e_34_35, e_34_38, e_34_41, e_34_42, e_34_43, e_34_46, e_34_47, e_34_48, e_34_51, e_34_52, e_34_53, e_34_56, e_34_57, e_34_58, e_34_61, e_34_61n, e_34_62, e_34_63, e_34_64, e_34_67, e_34_68, e_34_70, n10, n01, Nat.lt_irrefl, Nat.not_lt_zero, ne_eq, Nat.add_zero, Nat.one_ne_zero, Nat.zero_ne_one, Nat.reduceEqDiff, bI_T, bI_F, bI_0, bI_1, bI_01, not_and_self, true_and, and_true, not_true_eq_false, not_false_eq_true, false_imp_iff, true_imp_iff, imp_self, gPv_n, gPv_i, gPv_r, gPv_0, Option.toList_some, Option.toList_none, List.singleton_append, List.cons_append, List.nil_append, List.length_nil, List.length_cons, Nat.zero_le, Nat.reduceAdd, Nat.reduceLeDiff, or_true, true_or, false_or, or_false, and_self, and_false, false_and, implies_true, Option.some.injEq, exists_eq_left', nL, nI_add, nI_mul, nI_clamp, nI_ltI, nI_leI, nI_eq, nI_pos, nI_pos', Nat.reduceAdd, Nat.reduceMul, Nat.reducePow, sk_1 hv, sr_1_0 hv, sr_1_1 hv, sr_1_2 hv, sr_1_3 hv, sr_1_4 hv, sr_1_7 hv, sr_1_9 hv, sr_1_14 hv, sr_1_15 hv, sr_1_16 hv, sk_29 hv, sn_29 hv, sk_42 hv, sr_42_0 hv, sr_42_1 hv, sr_42_2 hv, sk_43 hv, sn_43 hv, n_K_I, n_K_J, n_K_R, n_K_r, n_N_I, n_N_J, n_N_R, n_N_r, n_R_I, n_R_J, n_R_r, n_J_I, n_J_R, n_J_r, n_I_J, n_I_R, n_n_I, n_n_J, n_n_R, n_n_r, n_w_I, n_w_J, n_w_R, n_w_r, n_T_I, n_T_J, n_T_R, n_T_r, rI_ne, rI_nk, rI_eq, rr_ne, rr_eq, n_J_J, n_R_R, Nat.add_left_cancel_iff, Nat.add_right_cancel_iff, Nat.add_eq_left, Nat.left_eq_add, Nat.reduceEqDiff, Nat.reduceAdd, Nat.zero_ne_one, Nat.one_ne_zero, false_and, and_false, true_and, and_true, and_self, if_false, if_true, ↓reduceIte, e17]
      refine s_ft3 (y5 := gI σ (B + 42) 5) hc hO hW hh ?_ fin
      refine ⟨Sm_r (Sm_I (Sm_I (Sm_I (Sm_I (Sm_I (Sm_refl _ _) ?_) ?_) ?_) ?_) ?_) ?_, ?_, ⟨?_, ?_, ?_⟩, ?_⟩
      · exact ⟨by omega, by omega⟩
      · exact ⟨by omega, by omega⟩
      · exact ⟨by omega, by omega⟩
      · exact ⟨by omega, by omega⟩
      · exact ⟨by omega, by omega⟩
      · exact ⟨by omega, by omega⟩
      · intro j hj
        have : 0 ≤ j ∧ j < 0 + 12 := by omega
        rw [rr_eq, va_cpy, if_pos this, Nat.sub_zero, Nat.zero_add]
        exact hO j hj
      · rw [rr_ne (by omega), rI_nk (by omega), rI_nk (by omega), rI_nk (by omega), rI_nk (by omega), rI_eq]
      · rw [rr_ne (by omega), rI_nk (by omega), rI_nk (by omega), rI_nk (by omega), rI_eq]
      · rw [rr_ne (by omega), rI_nk (by omega), rI_nk (by omega), rI_nk (by omega), rI_nk (by omega), rI_nk (by omega)]
      · simp only [FtX]
        rw [rr_ne (by omega)]
        refine ⟨?_, ?_, ?_⟩
        · rw [rI_nk (by omega), rI_nk (by omega), rI_eq]
          rfl
        · rw [rI_nk (by omega), rI_eq]
          rfl
        · rw [rI_eq]
          rfl
    by_cases c1 : gI σ (B + 42) 3 = nI cc
    · have c2 : ¬ gI σ (B + 42) 4 = nI h := fun z => c ⟨c1, z⟩
      simp (disch := omega) only [c_34, e_34_0, e_34_0n, e_34_1, e_34_2, e_34_4, e_34_7, e_34_8, e_34_11, e_34_12, e_34_15, e_34_18, e_34_21, e_34_22, e_34_25, e_34_26, n10, n01, Nat.lt_irrefl, Nat.not_lt_zero, ne_eq, Nat.add_zero, Nat.one_ne_zero, Nat.zero_ne_one, Nat.reduceEqDiff, bI_T, bI_F, bI_0, bI_1, bI_01, not_and_self, true_and, and_true, not_true_eq_false, not_false_eq_true, false_imp_iff, true_imp_iff, imp_self, gPv_n, gPv_i, gPv_r, gPv_0, Option.toList_some, Option.toList_none, List.singleton_append, List.cons_append, List.nil_append, List.length_nil, List.length_cons, Nat.zero_le, Nat.reduceAdd, Nat.reduceLeDiff, or_true, true_or, false_or, or_false, and_self, and_false, false_and, implies_true, Option.some.injEq, exists_eq_left', nL, nI_add, nI_mul, nI_clamp, nI_ltI, nI_leI, nI_eq, nI_pos, nI_pos', Nat.reduceAdd, Nat.reduceMul, Nat.reducePow, sk_1 hv, sr_1_0 hv, sr_1_1 hv, sr_1_2 hv, sr_1_3 hv, sr_1_4 hv, sr_1_7 hv, sr_1_9 hv, sr_1_14 hv, sr_1_15 hv, sr_1_16 hv, sk_29 hv, sn_29 hv, sk_42 hv, sr_42_0 hv, sr_42_1 hv, sr_42_2 hv, nI_of_len, n12, e17, c1, c2]
      exact go
    · simp (disch := omega) only [c_34, e_34_0, e_34_0n, e_34_1, e_34_2, e_34_4, e_34_7, e_34_8, e_34_11, e_34_12, e_34_15, e_34_18, e_34_21, e_34_22, e_34_25, e_34_26, n10, n01, Nat.lt_irrefl, Nat.not_lt_zero, ne_eq, Nat.add_zero, Nat.one_ne_zero, Nat.zero_ne_one, Nat.reduceEqDiff, bI_T, bI_F, bI_0, bI_1, bI_01, not_and_self, true_and, and_true, not_true_eq_false, not_false_eq_true, false_imp_iff, true_imp_iff, imp_self, gPv_n, gPv_i, gPv_r, gPv_0, Option.toList_some, Option.toList_none, List.singleton_append, List.cons_append, List.nil_append, List.length_nil, List.length_cons, Nat.zero_le, Nat.reduceAdd, Nat.reduceLeDiff, or_true, true_or, false_or, or_false, and_self, and_false, false_and, implies_true, Option.some.injEq, exists_eq_left', nL, nI_add, nI_mul, nI_clamp, nI_ltI, nI_leI, nI_eq, nI_pos, nI_pos', Nat.reduceAdd, Nat.reduceMul, Nat.reducePow, sk_1 hv, sr_1_0 hv, sr_1_1 hv, sr_1_2 hv, sr_1_3 hv, sr_1_4 hv, sr_1_7 hv, sr_1_9 hv, sr_1_14 hv, sr_1_15 hv, sr_1_16 hv, sk_29 hv, sn_29 hv, sk_42 hv, sr_42_0 hv, sr_42_1 hv, sr_42_2 hv, nI_of_len, n12, e17, c1]
      exact go
end
