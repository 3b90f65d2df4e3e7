/-! the class's tokens -/
def wi (k : Nat) : Nat := [0, 1, 6, 7, 8, 9, 10, 11, 12, 13, 14, 2, 5, 4, 3].getD k 0
theorem wi_ok : ∀ k, k < 15 → wi k < 15 ∧ gSl k = wL (wi k) ∧ gSl k ≤ 5 ∧ ∀ j, j < gSl k → gSb k j = nI (wdL.getD (wO (wi k) + j) 0) ∧ (((gSb k j) &&& nI 255).toUInt32 % 65536).toInt32 = nI (wdL.getD (wO (wi k) + j) 0) := by decide +kernel
theorem nar_c : ∀ b, b < 128 → narrow .char (.int (nI b)) = .int (nI b) := by decide +kernel
theorem fnd {f : Nat → Bool} {k : Nat} (hk : k < 15) (h : ∀ j, j < 15 → (f j = true ↔ j = k)) : (List.range 15).find? f = some k := by
  have key : ∀ (l : List Nat), (∀ x ∈ l, x < 15) → k ∈ l → l.find? f = some k := by
    intro l
    induction l with
    | nil => intro _ h; cases h
    | cons a l ih =>
      intro hl hk'
      by_cases c : a = k
      · subst c
        rw [List.find?_cons_of_pos ((h a hk).mpr rfl)]
      · have : ¬ f a = true := fun z => c ((h a (hl a (List.mem_cons_self ..))).mp z)
        rw [List.find?_cons_of_neg this]
        refine ih (fun x hx => hl x (List.mem_cons_of_mem _ hx)) ?_
        rcases List.mem_cons.mp hk' with z | z
        · exact absurd z.symm c
        · exact z
  exact key _ (fun x hx => List.mem_range.mp hx) (List.mem_range.mpr hk)
section
variable {B q : Nat} {σ : gS} {T : Nat → Nat} {d : Nat} {Q : Option Value → gS → Prop}
theorem I12_s {k : Nat} (h : I12 B σ) (hk : k < 15) : gFs σ (gT σ k) = some k ∧ gFw σ (gT σ (16 + k)) = some k ∧ gK σ (gT σ (16 + k)) = 0 := by
  obtain ⟨h1, h2, h3⟩ := h
  refine ⟨?_, ?_, (h3 k hk).2⟩
  · refine fnd hk (fun j hj => ?_)
    rw [beq_iff_eq]
    exact ⟨fun z => h1 j k hj hk z, fun z => by rw [z]⟩
  · refine fnd hk (fun j hj => ?_)
    rw [beq_iff_eq]
    exact ⟨fun z => h2 j k hj hk z, fun z => by rw [z]⟩
theorem s_len {k : Nat} (h : I12 B σ) (hk : k < 15) : wc (d + 2) 276 [.ref (gT σ k)] σ Q ↔ Q (some (.int (nI (gSl k)))) σ := by
  obtain ⟨f1, f2, f3⟩ := I12_s h hk
  have f4 : (gFs σ (gT σ k)).isSome = true := by rw [f1]; rfl
  have nb : narrow .byte (.int (nI 0)) = .int (nI 0) := rfl
  have l5 := (wi_ok k hk).2.2.1
  have sh : nI (gSl k) >>> (nI 0 &&& nI 31) = nI (gSl k) := by
    have : ∀ n, n ≤ 5 → nI n >>> (nI 0 &&& nI 31) = nI n := by decide
    exact this _ l5
  simp only [c_276, e_276_0, e_276_1 f1, e_276_4n f3 f2, e_276_5, e_276_6, f4, c_278, e_278_0, e_278_3, e_278_6, e_278_7 f1, e_278_10, e_278_14, e_276_9, e_276_10, n10, n01, Nat.lt_irrefl, Nat.not_lt_zero, ne_eq, Nat.add_zero, Nat.one_ne_zero, Nat.zero_ne_one, Nat.reduceEqDiff, bI_T, bI_F, bI_0, bI_1, bI_01, not_and_self, true_and, and_true, not_true_eq_false, not_false_eq_true, false_imp_iff, true_imp_iff, imp_self, gPv_n, gPv_i, gPv_r, gPv_0, Option.toList_some, Option.toList_none, List.singleton_append, List.cons_append, List.nil_append, List.length_nil, List.length_cons, Nat.zero_le, Nat.reduceAdd, Nat.reduceLeDiff, or_true, true_or, false_or, or_false, and_self, and_false, false_and, implies_true, Option.some.injEq, exists_eq_left', nL, nb, nI_of_len, sh]
theorem c_284n {p0 p1 : Int32} : wc (d + 1) 284 [.int p0, .int p1, .null] σ Q ↔ wp d pr_284 Q 0 [some (.int p0), some (.int p1), some .null] [] σ := wc_iff (Nat.le_of_ble_eq_true rfl) rfl
theorem s_chr {k j : Nat} (h : I12 B σ) (hk : k < 15) (hj : j < gSl k) : wc (d + 4) 277 [.ref (gT σ k), .int (nI j)] σ Q ↔ Q (some (.int (nI (wdL.getD (wO (wi k) + j) 0)))) σ := by
  obtain ⟨f1, f2, f3⟩ := I12_s h hk
  have f4 : (gFs σ (gT σ k)).isSome = true := by rw [f1]; rfl
  obtain ⟨w1, w2, w3, w4⟩ := wi_ok k hk
  obtain ⟨b1, b2⟩ := w4 j hj
  have o1 := (w_ok (wi k) w1).1
  have nc := nar_c _ (wd_lt (wO (wi k) + j) (by omega))
  cases h15 : gT σ 15 with
  | zero =>
    simp (disch := omega) only [c_277, e_277_0, e_277_1, f4, c_279, e_279_0, e_279_3, e_279_6, e_279_7 f1, e_279_10, e_279_13, e_279_14, e_279_18, e_277_4, e_277_7, e_277_8 f1, e_277_11, e_277_12, c_281, e_281_0, e_281_1, e_281_2n f3 f2, e_281_3, c_280, e_280_0, e_280_1, e_280_2 h15, e_280_5, c_284n, e_284_0, e_284_1, e_284_4, e_284_5, e_284_6, e_284_9, e_284_9n, e_284_10, e_284_11, e_284_16, e_284_17, e_280_8, e_280_9, e_281_6, e_281_7, e_281_8n f3 f2, e_281_9, e_281_12, e_281_13, e_281_14, e_277_15, n10, n01, Nat.lt_irrefl, Nat.not_lt_zero, ne_eq, Nat.add_zero, Nat.one_ne_zero, Nat.zero_ne_one, Nat.reduceEqDiff, bI_T, bI_F, bI_0, bI_1, bI_01, not_and_self, true_and, and_true, not_true_eq_false, not_false_eq_true, false_imp_iff, true_imp_iff, imp_self, gPv_n, gPv_i, gPv_r, gPv_0, Option.toList_some, Option.toList_none, List.singleton_append, List.cons_append, List.nil_append, List.length_nil, List.length_cons, Nat.zero_le, Nat.reduceAdd, Nat.reduceLeDiff, or_true, true_or, false_or, or_false, and_self, and_false, false_and, implies_true, Option.some.injEq, exists_eq_left', nL, nI_add, nI_mul, nI_clamp, nI_ltI, nI_leI, nI_eq, nI_pos, nI_pos', Nat.reduceAdd, Nat.reduceMul, Nat.reducePow, nI_of_len, hj, b2, nc]
  | succ x =>
    simp (disch := omega) only [c_277, e_277_0, e_277_1, f4, c_279, e_279_0, e_279_3, e_279_6, e_279_7 f1, e_279_10, e_279_13, e_279_14, e_279_18, e_277_4, e_277_7, e_277_8 f1, e_277_11, e_277_12, c_281, e_281_0, e_281_1, e_281_2n f3 f2, e_281_3, c_280, e_280_0, e_280_1, e_280_2n h15, e_280_5, c_284, e_284_0, e_284_1, e_284_4, e_284_5, e_284_6, e_284_9, e_284_9n, e_284_10, e_284_11, e_284_16, e_284_17, e_280_8, e_280_9, e_281_6, e_281_7, e_281_8n f3 f2, e_281_9, e_281_12, e_281_13, e_281_14, e_277_15, n10, n01, Nat.lt_irrefl, Nat.not_lt_zero, ne_eq, Nat.add_zero, Nat.one_ne_zero, Nat.zero_ne_one, Nat.reduceEqDiff, bI_T, bI_F, bI_0, bI_1, bI_01, not_and_self, true_and, and_true, not_true_eq_false, not_false_eq_true, false_imp_iff, true_imp_iff, imp_self, gPv_n, gPv_i, gPv_r, gPv_0, Option.toList_some, Option.toList_none, List.singleton_append, List.cons_append, List.nil_append, List.length_nil, List.length_cons, Nat.zero_le, Nat.reduceAdd, Nat.reduceLeDiff, or_true, true_or, false_or, or_false, and_self, and_false, false_and, implies_true, Option.some.injEq, exists_eq_left', nL, nI_add, nI_mul, nI_clamp, nI_ltI, nI_leI, nI_eq, nI_pos, nI_pos', Nat.reduceAdd, Nat.reduceMul, Nat.reducePow, nI_of_len, hj, b2, nc]
/-- the text as the class has it -/
def TxC (B q : Nat) (T : Nat → Nat) (σ : gS) : Prop := IvS B σ ∧ I12 B σ ∧ q ≤ 400 ∧ (∀ j, j < q → gI σ (B + 19) j = nI (T j) ∧ T j < 256) ∧ gI σ (B + 20) 4 = nI q
def tkp (T : Nat → Nat) (q p : Nat) : Nat := if p < q then kd (T p) else 0
/-- the class stands at token t -/
def TK (B q : Nat) (T : Nat → Nat) (t : Nat) (τ : gS) : Prop := gI τ (B + 20) 5 = nI (st T q t) ∧ gI τ (B + 20) 6 = nI (en T q (st T q t)) ∧ gI τ (B + 20) 7 = nI (tkp T q (st T q t))
theorem TxC_S {P : Nat → Prop} {τ : gS} (h : TxC B q T σ) (hS : Sm P σ τ) (h1 : ¬ P (B + 19)) (h4 : gI τ (B + 20) 4 = gI σ (B + 20) 4) : TxC B q T τ := ⟨fr_IvS hS.1 hS.2.1 hS.2.2.1 h.1, fr_I12 hS.1 hS.2.2.2.2.2.1 h.2.1, h.2.2.1, by rw [hS.2.2.2.2.2.2.1 _ h1]; exact h.2.2.2.1, h4.trans h.2.2.2.2⟩
theorem kd_le (b : Nat) : 1 ≤ kd b ∧ kd b ≤ 3 := by
  rw [kd]
  split
  · omega
  · split <;> omega
abbrev goP (B : Nat) (σ τ : gS) : Prop := Sm (fun a => a = B + 20) σ τ ∧ ∀ j, j ≠ 5 → j ≠ 6 → j ≠ 7 → gI τ (B + 20) j = gI σ (B + 20) j
theorem go_I {τ : gS} {j : Nat} {x : Int32} (h : goP B σ τ) (hj : j = 5 ∨ j = 6 ∨ j = 7) : goP B σ (sI τ (B + 20) j x) := ⟨Sm_I h.1 rfl, fun i h1 h2 h3 => by rw [rI_nk (by omega)]; exact h.2 i h1 h2 h3⟩
theorem go_X {τ : gS} (X : TxC B q T σ) (h : goP B σ τ) : TxC B q T τ := TxC_S X h.1 (by omega) (h.2 4 (by omega) (by omega) (by omega))
theorem s_go2 {p k : Nat} (X : TxC B q T σ) (hp : p ≤ q) (K : ∀ τ', goP B σ τ' → gI τ' (B + 20) 5 = nI p → gI τ' (B + 20) 6 = nI (ex T q k (q - (p + 1)) (p + 1)) → gI τ' (B + 20) 7 = nI k → Q none τ') (hk : k ≠ 3) (hk1 : 1 ≤ k ∧ k ≤ 3) : ∀ m e τ, e + m = q → ex T q k m e = ex T q k (q - (p + 1)) (p + 1) → goP B σ τ → gI τ (B + 20) 5 = nI p → gI τ (B + 20) 6 = nI e → gI τ (B + 20) 7 = nI k → wp (d + 1) pr_45 Q 97 [some (.ref (B + 20))] [] τ := by
  have q4 := X.2.2.1
  intro m
  induction m with
  | zero =>
    intro e τ he hx hg h5 h6 h7
    obtain ⟨hv, h12, _, hT, h4⟩ := go_X X hg
    have z : q ≤ e := by omega
    simp only [ex] at hx
    simp (disch := omega) only [e_45_97, e_45_98, e_45_101, e_45_102, e_45_105, e_45_106, e_45_109, e_45_110, e_45_113, e_45_148, n10, n01, Nat.lt_irrefl, Nat.not_lt_zero, ne_eq, Nat.add_zero, Nat.one_ne_zero, Nat.zero_ne_one, Nat.reduceEqDiff, bI_T, bI_F, bI_0, bI_1, bI_01, not_and_self, true_and, and_true, not_true_eq_false, not_false_eq_true, false_imp_iff, true_imp_iff, imp_self, gPv_n, gPv_i, gPv_r, gPv_0, Option.toList_some, Option.toList_none, List.singleton_append, List.cons_append, List.nil_append, List.length_nil, List.length_cons, Nat.zero_le, Nat.reduceAdd, Nat.reduceLeDiff, or_true, true_or, false_or, or_false, and_self, and_false, false_and, implies_true, Option.some.injEq, exists_eq_left', nL, nI_add, nI_mul, nI_clamp, nI_ltI, nI_leI, nI_eq, nI_pos, nI_pos', Nat.reduceAdd, Nat.reduceMul, Nat.reducePow, sk_20 hv, sr_20_0 hv, sr_20_1 hv, sr_20_2 hv, sr_20_3 hv, h4, h6, h7, hk, z]
    exact K τ hg h5 (by rw [h6, hx]) h7
  | succ m ih =>
    intro e τ he hx hg h5 h6 h7
    obtain ⟨hv, h12, _, hT, h4⟩ := go_X X hg
    have z : ¬ q ≤ e := by omega
    have z1 : e < 400 := by omega
    obtain ⟨t1, t2⟩ := hT e (by omega)
    have kl := kd_le (T e)
    rw [ex] at hx
    rw [e_45_97]
    by_cases c : kd (T e) = k
    · rw [if_pos ⟨by omega, c⟩] at hx
      simp (disch := omega) only [e_45_98, e_45_101, e_45_102, e_45_105, e_45_106, e_45_109, e_45_110, e_45_113, e_45_116, e_45_117, e_45_120, e_45_121, e_45_124, e_45_125, e_45_128, e_45_129, e_45_132, e_45_135, e_45_136, e_45_136n, e_45_137, e_45_140, e_45_141, e_45_142, e_45_145, n10, n01, Nat.lt_irrefl, Nat.not_lt_zero, ne_eq, Nat.add_zero, Nat.one_ne_zero, Nat.zero_ne_one, Nat.reduceEqDiff, bI_T, bI_F, bI_0, bI_1, bI_01, not_and_self, true_and, and_true, not_true_eq_false, not_false_eq_true, false_imp_iff, true_imp_iff, imp_self, gPv_n, gPv_i, gPv_r, gPv_0, Option.toList_some, Option.toList_none, List.singleton_append, List.cons_append, List.nil_append, List.length_nil, List.length_cons, Nat.zero_le, Nat.reduceAdd, Nat.reduceLeDiff, or_true, true_or, false_or, or_false, and_self, and_false, false_and, implies_true, Option.some.injEq, exists_eq_left', nL, nI_add, nI_mul, nI_clamp, nI_ltI, nI_leI, nI_eq, nI_pos, nI_pos', Nat.reduceAdd, Nat.reduceMul, Nat.reducePow, sk_19 hv, sn_19 hv, sk_20 hv, sr_20_0 hv, sr_20_1 hv, sr_20_2 hv, sr_20_3 hv, h4, h6, h7, hk, z, z1, t1, s_kindOf t2, c]
      exact ih (e + 1) _ (by omega) hx (go_I hg (by omega)) (by rw [rI_nk (by omega)]; exact h5) (by rw [rI_eq]) (by rw [rI_nk (by omega)]; exact h7)
    · rw [if_neg (fun z => c z.2)] at hx
      simp (disch := omega) only [e_45_98, e_45_101, e_45_102, e_45_105, e_45_106, e_45_109, e_45_110, e_45_113, e_45_116, e_45_117, e_45_120, e_45_121, e_45_124, e_45_125, e_45_128, e_45_129, e_45_132, e_45_135, e_45_136, e_45_136n, e_45_137, e_45_140, e_45_141, e_45_142, e_45_145, e_45_148, n10, n01, Nat.lt_irrefl, Nat.not_lt_zero, ne_eq, Nat.add_zero, Nat.one_ne_zero, Nat.zero_ne_one, Nat.reduceEqDiff, bI_T, bI_F, bI_0, bI_1, bI_01, not_and_self, true_and, and_true, not_true_eq_false, not_false_eq_true, false_imp_iff, true_imp_iff, imp_self, gPv_n, gPv_i, gPv_r, gPv_0, Option.toList_some, Option.toList_none, List.singleton_append, List.cons_append, List.nil_append, List.length_nil, List.length_cons, Nat.zero_le, Nat.reduceAdd, Nat.reduceLeDiff, or_true, true_or, false_or, or_false, and_self, and_false, false_and, implies_true, Option.some.injEq, exists_eq_left', nL, nI_add, nI_mul, nI_clamp, nI_ltI, nI_leI, nI_eq, nI_pos, nI_pos', Nat.reduceAdd, Nat.reduceMul, Nat.reducePow, sk_19 hv, sn_19 hv, sk_20 hv, sr_20_0 hv, sr_20_1 hv, sr_20_2 hv, sr_20_3 hv, h4, h6, h7, hk, z, z1, t1, s_kindOf t2, c]
      exact K τ hg h5 (by rw [h6, hx]) h7
theorem s_go1 {x : Nat} (X : TxC B q T σ) (K : ∀ τ', goP B σ τ' → gI τ' (B + 20) 5 = nI (skp T q x) → gI τ' (B + 20) 6 = nI (en T q (skp T q x)) → gI τ' (B + 20) 7 = nI (tkp T q (skp T q x)) → Q none τ') : ∀ m p τ, q ≤ p + m → p ≤ q → skp T q p = skp T q x → goP B σ τ → gI τ (B + 20) 5 = nI p → wp (d + 1) pr_45 Q 8 [some (.ref (B + 20))] [] τ := by
  have q4 := X.2.2.1
  have done : ∀ p τ, p ≤ q → ¬ (p < q ∧ T p = 32) → skp T q p = skp T q x → goP B σ τ → gI τ (B + 20) 5 = nI p → wp (d + 1) pr_45 Q 46 [some (.ref (B + 20))] [] τ := by
    intro p τ hp hn hs hg h5
    obtain ⟨hv, h12, _, hT, h4⟩ := go_X X hg
    have ep : skp T q x = p := by rw [← hs]; exact skp_n hn
    rw [ep] at K
    by_cases c : p < q
    · obtain ⟨t1, t2⟩ := hT p c
      have z1 : p < 400 := by omega
      have kl := kd_le (T p)
      rw [tkp, if_pos c] at K
      by_cases k3 : kd (T p) = 3
      · rw [en_3 c k3, k3] at K
        simp (disch := omega) only [e_45_46, e_45_47, e_45_48, e_45_51, e_45_54, e_45_55, e_45_58, e_45_59, e_45_62, e_45_65, e_45_66, e_45_67, e_45_70, e_45_71, e_45_72, e_45_73, e_45_76, e_45_77, e_45_80, e_45_81, e_45_84, e_45_87, e_45_88, e_45_88n, e_45_89, e_45_92, e_45_93, e_45_94, e_45_97, e_45_98, e_45_101, e_45_102, e_45_148, n10, n01, Nat.lt_irrefl, Nat.not_lt_zero, ne_eq, Nat.add_zero, Nat.one_ne_zero, Nat.zero_ne_one, Nat.reduceEqDiff, bI_T, bI_F, bI_0, bI_1, bI_01, not_and_self, true_and, and_true, not_true_eq_false, not_false_eq_true, false_imp_iff, true_imp_iff, imp_self, gPv_n, gPv_i, gPv_r, gPv_0, Option.toList_some, Option.toList_none, List.singleton_append, List.cons_append, List.nil_append, List.length_nil, List.length_cons, Nat.zero_le, Nat.reduceAdd, Nat.reduceLeDiff, or_true, true_or, false_or, or_false, and_self, and_false, false_and, implies_true, Option.some.injEq, exists_eq_left', nL, nI_add, nI_mul, nI_clamp, nI_ltI, nI_leI, nI_eq, nI_pos, nI_pos', Nat.reduceAdd, Nat.reduceMul, Nat.reducePow, sk_19 hv, sn_19 hv, sk_20 hv, sr_20_0 hv, sr_20_1 hv, sr_20_2 hv, sr_20_3 hv, n_K_I, n_K_J, n_K_R, n_K_r, n_N_I, n_N_J, n_N_R, n_N_r, n_R_I, n_R_J, n_R_r, n_J_I, n_J_R, n_J_r, n_I_J, n_I_R, n_n_I, n_n_J, n_n_R, n_n_r, n_w_I, n_w_J, n_w_R, n_w_r, n_T_I, n_T_J, n_T_R, n_T_r, rI_ne, rI_nk, rI_eq, rr_ne, rr_eq, n_J_J, n_R_R, Nat.add_left_cancel_iff, Nat.add_right_cancel_iff, Nat.add_eq_left, Nat.left_eq_add, Nat.reduceEqDiff, Nat.reduceAdd, Nat.zero_ne_one, Nat.one_ne_zero, false_and, and_false, true_and, and_true, and_self, if_false, if_true, ↓reduceIte, h4, h5, c, z1, t1, s_kindOf t2, k3]
        refine K _ (go_I (go_I (go_I hg (by omega)) (by omega)) (by omega)) ?_ ?_ ?_
        · simp (disch := omega) only [rI_nk]; exact h5
        · rw [rI_eq]
        · rw [rI_nk (by omega), rI_eq]
      · rw [en_x c k3] at K
        simp (disch := omega) only [e_45_46, e_45_47, e_45_48, e_45_51, e_45_54, e_45_55, e_45_58, e_45_59, e_45_62, e_45_65, e_45_66, e_45_67, e_45_70, e_45_71, e_45_72, e_45_73, e_45_76, e_45_77, e_45_80, e_45_81, e_45_84, e_45_87, e_45_88, e_45_88n, e_45_89, e_45_92, e_45_93, e_45_94, n10, n01, Nat.lt_irrefl, Nat.not_lt_zero, ne_eq, Nat.add_zero, Nat.one_ne_zero, Nat.zero_ne_one, Nat.reduceEqDiff, bI_T, bI_F, bI_0, bI_1, bI_01, not_and_self, true_and, and_true, not_true_eq_false, not_false_eq_true, false_imp_iff, true_imp_iff, imp_self, gPv_n, gPv_i, gPv_r, gPv_0, Option.toList_some, Option.toList_none, List.singleton_append, List.cons_append, List.nil_append, List.length_nil, List.length_cons, Nat.zero_le, Nat.reduceAdd, Nat.reduceLeDiff, or_true, true_or, false_or, or_false, and_self, and_false, false_and, implies_true, Option.some.injEq, exists_eq_left', nL, nI_add, nI_mul, nI_clamp, nI_ltI, nI_leI, nI_eq, nI_pos, nI_pos', Nat.reduceAdd, Nat.reduceMul, Nat.reducePow, sk_19 hv, sn_19 hv, sk_20 hv, sr_20_0 hv, sr_20_1 hv, sr_20_2 hv, sr_20_3 hv, n_K_I, n_K_J, n_K_R, n_K_r, n_N_I, n_N_J, n_N_R, n_N_r, n_R_I, n_R_J, n_R_r, n_J_I, n_J_R, n_J_r, n_I_J, n_I_R, n_n_I, n_n_J, n_n_R, n_n_r, n_w_I, n_w_J, n_w_R, n_w_r, n_T_I, n_T_J, n_T_R, n_T_r, rI_ne, rI_nk, rI_eq, rr_ne, rr_eq, n_J_J, n_R_R, Nat.add_left_cancel_iff, Nat.add_right_cancel_iff, Nat.add_eq_left, Nat.left_eq_add, Nat.reduceEqDiff, Nat.reduceAdd, Nat.zero_ne_one, Nat.one_ne_zero, false_and, and_false, true_and, and_true, and_self, if_false, if_true, ↓reduceIte, h4, h5, c, z1, t1, s_kindOf t2]
        refine s_go2 X hp K k3 kl (q - (p + 1)) (p + 1) _ (by omega) rfl (go_I (go_I (go_I hg (by omega)) (by omega)) (by omega)) ?_ ?_ ?_
        · simp (disch := omega) only [rI_nk]; exact h5
        · rw [rI_eq]
        · rw [rI_nk (by omega), rI_eq]
    · rw [en_q c, tkp, if_neg c] at K
      simp (disch := omega) only [e_45_46, e_45_47, e_45_48, e_45_51, e_45_54, e_45_55, e_45_58, e_45_59, e_45_62, e_45_65, e_45_66, e_45_67, e_45_70, n10, n01, Nat.lt_irrefl, Nat.not_lt_zero, ne_eq, Nat.add_zero, Nat.one_ne_zero, Nat.zero_ne_one, Nat.reduceEqDiff, bI_T, bI_F, bI_0, bI_1, bI_01, not_and_self, true_and, and_true, not_true_eq_false, not_false_eq_true, false_imp_iff, true_imp_iff, imp_self, gPv_n, gPv_i, gPv_r, gPv_0, Option.toList_some, Option.toList_none, List.singleton_append, List.cons_append, List.nil_append, List.length_nil, List.length_cons, Nat.zero_le, Nat.reduceAdd, Nat.reduceLeDiff, or_true, true_or, false_or, or_false, and_self, and_false, false_and, implies_true, Option.some.injEq, exists_eq_left', nL, nI_add, nI_mul, nI_clamp, nI_ltI, nI_leI, nI_eq, nI_pos, nI_pos', Nat.reduceAdd, Nat.reduceMul, Nat.reducePow, sk_20 hv, sr_20_0 hv, sr_20_1 hv, sr_20_2 hv, sr_20_3 hv, n_K_I, n_K_J, n_K_R, n_K_r, n_N_I, n_N_J, n_N_R, n_N_r, n_R_I, n_R_J, n_R_r, n_J_I, n_J_R, n_J_r, n_I_J, n_I_R, n_n_I, n_n_J, n_n_R, n_n_r, n_w_I, n_w_J, n_w_R, n_w_r, n_T_I, n_T_J, n_T_R, n_T_r, rI_ne, rI_nk, rI_eq, rr_ne, rr_eq, n_J_J, n_R_R, Nat.add_left_cancel_iff, Nat.add_right_cancel_iff, Nat.add_eq_left, Nat.left_eq_add, Nat.reduceEqDiff, Nat.reduceAdd, Nat.zero_ne_one, Nat.one_ne_zero, false_and, and_false, true_and, and_true, and_self, if_false, if_true, ↓reduceIte, h4, h5, c]
      refine K _ (go_I (go_I hg (by omega)) (by omega)) ?_ ?_ ?_
      · simp (disch := omega) only [rI_nk]; exact h5
      · rw [rI_nk (by omega), rI_eq]
      · rw [rI_eq]
  intro m
  induction m with
  | zero =>
    intro p τ hm hp hs hg h5
    obtain ⟨hv, h12, _, hT, h4⟩ := go_X X hg
    have z : q ≤ p := by omega
    simp (disch := omega) only [e_45_8, e_45_9, e_45_12, e_45_13, e_45_16, n10, n01, Nat.lt_irrefl, Nat.not_lt_zero, ne_eq, Nat.add_zero, Nat.one_ne_zero, Nat.zero_ne_one, Nat.reduceEqDiff, bI_T, bI_F, bI_0, bI_1, bI_01, not_and_self, true_and, and_true, not_true_eq_false, not_false_eq_true, false_imp_iff, true_imp_iff, imp_self, gPv_n, gPv_i, gPv_r, gPv_0, Option.toList_some, Option.toList_none, List.singleton_append, List.cons_append, List.nil_append, List.length_nil, List.length_cons, Nat.zero_le, Nat.reduceAdd, Nat.reduceLeDiff, or_true, true_or, false_or, or_false, and_self, and_false, false_and, implies_true, Option.some.injEq, exists_eq_left', nL, nI_add, nI_mul, nI_clamp, nI_ltI, nI_leI, nI_eq, nI_pos, nI_pos', Nat.reduceAdd, Nat.reduceMul, Nat.reducePow, sk_20 hv, sr_20_0 hv, sr_20_1 hv, sr_20_2 hv, sr_20_3 hv, h4, h5, z]
    exact done p τ hp (by omega) hs hg h5
  | succ m ih =>
    intro p τ hm hp hs hg h5
    obtain ⟨hv, h12, _, hT, h4⟩ := go_X X hg
    rw [e_45_8]
    by_cases z : q ≤ p
    · simp (disch := omega) only [e_45_9, e_45_12, e_45_13, e_45_16, n10, n01, Nat.lt_irrefl, Nat.not_lt_zero, ne_eq, Nat.add_zero, Nat.one_ne_zero, Nat.zero_ne_one, Nat.reduceEqDiff, bI_T, bI_F, bI_0, bI_1, bI_01, not_and_self, true_and, and_true, not_true_eq_false, not_false_eq_true, false_imp_iff, true_imp_iff, imp_self, gPv_n, gPv_i, gPv_r, gPv_0, Option.toList_some, Option.toList_none, List.singleton_append, List.cons_append, List.nil_append, List.length_nil, List.length_cons, Nat.zero_le, Nat.reduceAdd, Nat.reduceLeDiff, or_true, true_or, false_or, or_false, and_self, and_false, false_and, implies_true, Option.some.injEq, exists_eq_left', nL, nI_add, nI_mul, nI_clamp, nI_ltI, nI_leI, nI_eq, nI_pos, nI_pos', Nat.reduceAdd, Nat.reduceMul, Nat.reducePow, sk_20 hv, sr_20_0 hv, sr_20_1 hv, sr_20_2 hv, sr_20_3 hv, h4, h5, z]
      exact done p τ hp (by omega) hs hg h5
    · obtain ⟨t1, t2⟩ := hT p (by omega)
      have z1 : p < 400 := by omega
      by_cases c : T p = 32
      · simp (disch := omega) only [e_45_9, e_45_12, e_45_13, e_45_16, e_45_19, e_45_20, e_45_23, e_45_24, e_45_27, e_45_28, e_45_30, e_45_33, e_45_34, e_45_34n, e_45_35, e_45_38, e_45_39, e_45_40, e_45_43, n10, n01, Nat.lt_irrefl, Nat.not_lt_zero, ne_eq, Nat.add_zero, Nat.one_ne_zero, Nat.zero_ne_one, Nat.reduceEqDiff, bI_T, bI_F, bI_0, bI_1, bI_01, not_and_self, true_and, and_true, not_true_eq_false, not_false_eq_true, false_imp_iff, true_imp_iff, imp_self, gPv_n, gPv_i, gPv_r, gPv_0, Option.toList_some, Option.toList_none, List.singleton_append, List.cons_append, List.nil_append, List.length_nil, List.length_cons, Nat.zero_le, Nat.reduceAdd, Nat.reduceLeDiff, or_true, true_or, false_or, or_false, and_self, and_false, false_and, implies_true, Option.some.injEq, exists_eq_left', nL, nI_add, nI_mul, nI_clamp, nI_ltI, nI_leI, nI_eq, nI_pos, nI_pos', Nat.reduceAdd, Nat.reduceMul, Nat.reducePow, sk_19 hv, sn_19 hv, sk_20 hv, sr_20_0 hv, sr_20_1 hv, sr_20_2 hv, sr_20_3 hv, h4, h5, z, z1, t1, c]
        exact ih (p + 1) _ (by omega) (by omega) (by rw [← skp_s (by omega) c]; exact hs) (go_I hg (by omega)) (by rw [rI_eq])
      · simp (disch := omega) only [e_45_9, e_45_12, e_45_13, e_45_16, e_45_19, e_45_20, e_45_23, e_45_24, e_45_27, e_45_28, e_45_30, n10, n01, Nat.lt_irrefl, Nat.not_lt_zero, ne_eq, Nat.add_zero, Nat.one_ne_zero, Nat.zero_ne_one, Nat.reduceEqDiff, bI_T, bI_F, bI_0, bI_1, bI_01, not_and_self, true_and, and_true, not_true_eq_false, not_false_eq_true, false_imp_iff, true_imp_iff, imp_self, gPv_n, gPv_i, gPv_r, gPv_0, Option.toList_some, Option.toList_none, List.singleton_append, List.cons_append, List.nil_append, List.length_nil, List.length_cons, Nat.zero_le, Nat.reduceAdd, Nat.reduceLeDiff, or_true, true_or, false_or, or_false, and_self, and_false, false_and, implies_true, Option.some.injEq, exists_eq_left', nL, nI_add, nI_mul, nI_clamp, nI_ltI, nI_leI, nI_eq, nI_pos, nI_pos', Nat.reduceAdd, Nat.reduceMul, Nat.reducePow, sk_19 hv, sn_19 hv, sk_20 hv, sr_20_0 hv, sr_20_1 hv, sr_20_2 hv, sr_20_3 hv, h4, h5, z, z1, t1, c]
        exact done p τ hp (fun z => c z.2) hs hg h5
theorem s_goOn {x : Nat} (X : TxC B q T σ) (h6 : gI σ (B + 20) 6 = nI x) (hx : x ≤ q) (K : ∀ τ', goP B σ τ' → gI τ' (B + 20) 5 = nI (skp T q x) → gI τ' (B + 20) 6 = nI (en T q (skp T q x)) → gI τ' (B + 20) 7 = nI (tkp T q (skp T q x)) → Q none τ') : wc (d + 2) 45 [.ref (B + 20)] σ Q := by
  have hv := X.1
  simp (disch := omega) only [c_45, e_45_0, e_45_1, e_45_2, e_45_5, n10, n01, Nat.lt_irrefl, Nat.not_lt_zero, ne_eq, Nat.add_zero, Nat.one_ne_zero, Nat.zero_ne_one, Nat.reduceEqDiff, bI_T, bI_F, bI_0, bI_1, bI_01, not_and_self, true_and, and_true, not_true_eq_false, not_false_eq_true, false_imp_iff, true_imp_iff, imp_self, gPv_n, gPv_i, gPv_r, gPv_0, Option.toList_some, Option.toList_none, List.singleton_append, List.cons_append, List.nil_append, List.length_nil, List.length_cons, Nat.zero_le, Nat.reduceAdd, Nat.reduceLeDiff, or_true, true_or, false_or, or_false, and_self, and_false, false_and, implies_true, Option.some.injEq, exists_eq_left', nL, sk_20 hv, sr_20_0 hv, sr_20_1 hv, sr_20_2 hv, sr_20_3 hv, h6]
  refine s_go1 X K q x _ (by omega) hx rfl ⟨Sm_I (Sm_refl _ _) rfl, fun j h1 _ _ => by rw [rI_nk h1]⟩ (by rw [rI_eq])
theorem s_goT {t : Nat} (X : TxC B q T σ) (h : TK B q T t σ) (K : ∀ τ', goP B σ τ' → TK B q T (t + 1) τ' → Q none τ') : wc (d + 2) 45 [.ref (B + 20)] σ Q := s_goOn X h.2.1 (en_le (st_le t)) (fun τ' g h5 h6 h7 => K τ' g ⟨h5, h6, h7⟩)
theorem s_isSign {t s : Nat} (X : TxC B q T σ) (h : TK B q T t σ) (hs : s < 128) (hk : kd s = 3) : wc (d + 1) 47 [.ref (B + 20), .int (nI s)] σ Q ↔ Q (some (.int (bI (cT T q t = 100 + s)))) σ := by
  obtain ⟨hv, h12, q4, hT, h4⟩ := X
  obtain ⟨h5, h6, h7⟩ := h
  have w15 := wx_le (T := T) (p := st T q t) (e := en T q (st T q t))
  by_cases c : st T q t < q
  · obtain ⟨t1, t2⟩ := hT _ c
    have z1 : st T q t < 400 := by omega
    have z2 : ¬ q ≤ st T q t := by omega
    have kl := kd_le (T (st T q t))
    rw [tkp, if_pos c] at h7
    by_cases k3 : kd (T (st T q t)) = 3
    · have e : cT T q t = 100 + T (st T q t) := by rw [cT, if_pos c, cd, if_neg (by omega), if_neg (by omega)]
      rw [k3] at h7
      by_cases g : T (st T q t) = s
      · have e1 : cT T q t = 100 + s := by rw [e, g]
        simp (disch := omega) only [c_47, e_47_0, e_47_1, e_47_4, e_47_5, e_47_8, e_47_9, e_47_12, e_47_13, e_47_16, e_47_19, e_47_20, e_47_23, e_47_24, e_47_27, e_47_28, e_47_29, e_47_32, e_47_33, e_47_36, e_47_37, n10, n01, Nat.lt_irrefl, Nat.not_lt_zero, ne_eq, Nat.add_zero, Nat.one_ne_zero, Nat.zero_ne_one, Nat.reduceEqDiff, bI_T, bI_F, bI_0, bI_1, bI_01, not_and_self, true_and, and_true, not_true_eq_false, not_false_eq_true, false_imp_iff, true_imp_iff, imp_self, gPv_n, gPv_i, gPv_r, gPv_0, Option.toList_some, Option.toList_none, List.singleton_append, List.cons_append, List.nil_append, List.length_nil, List.length_cons, Nat.zero_le, Nat.reduceAdd, Nat.reduceLeDiff, or_true, true_or, false_or, or_false, and_self, and_false, false_and, implies_true, Option.some.injEq, exists_eq_left', nL, nI_add, nI_mul, nI_clamp, nI_ltI, nI_leI, nI_eq, nI_pos, nI_pos', Nat.reduceAdd, Nat.reduceMul, Nat.reducePow, sk_19 hv, sn_19 hv, sk_20 hv, sr_20_0 hv, sr_20_1 hv, sr_20_2 hv, sr_20_3 hv, h4, h5, h7, z1, z2, t1, g, e1]
      · have e1 : ¬ cT T q t = 100 + s := by omega
        simp (disch := omega) only [c_47, e_47_0, e_47_1, e_47_4, e_47_5, e_47_8, e_47_9, e_47_12, e_47_13, e_47_16, e_47_19, e_47_20, e_47_23, e_47_24, e_47_27, e_47_28, e_47_29, e_47_32, e_47_33, e_47_36, e_47_37, n10, n01, Nat.lt_irrefl, Nat.not_lt_zero, ne_eq, Nat.add_zero, Nat.one_ne_zero, Nat.zero_ne_one, Nat.reduceEqDiff, bI_T, bI_F, bI_0, bI_1, bI_01, not_and_self, true_and, and_true, not_true_eq_false, not_false_eq_true, false_imp_iff, true_imp_iff, imp_self, gPv_n, gPv_i, gPv_r, gPv_0, Option.toList_some, Option.toList_none, List.singleton_append, List.cons_append, List.nil_append, List.length_nil, List.length_cons, Nat.zero_le, Nat.reduceAdd, Nat.reduceLeDiff, or_true, true_or, false_or, or_false, and_self, and_false, false_and, implies_true, Option.some.injEq, exists_eq_left', nL, nI_add, nI_mul, nI_clamp, nI_ltI, nI_leI, nI_eq, nI_pos, nI_pos', Nat.reduceAdd, Nat.reduceMul, Nat.reducePow, sk_19 hv, sn_19 hv, sk_20 hv, sr_20_0 hv, sr_20_1 hv, sr_20_2 hv, sr_20_3 hv, h4, h5, h7, z1, z2, t1, g, e1]
    · have e1 : ¬ cT T q t = 100 + s := by
        rw [cT, if_pos c, cd]
        split
        · omega
        · split
          · omega
          · omega
      simp (disch := omega) only [c_47, e_47_0, e_47_1, e_47_4, e_47_5, e_47_8, e_47_9, e_47_12, e_47_13, e_47_16, e_47_19, e_47_20, e_47_23, e_47_24, e_47_27, e_47_28, e_47_29, e_47_32, e_47_33, e_47_36, e_47_37, n10, n01, Nat.lt_irrefl, Nat.not_lt_zero, ne_eq, Nat.add_zero, Nat.one_ne_zero, Nat.zero_ne_one, Nat.reduceEqDiff, bI_T, bI_F, bI_0, bI_1, bI_01, not_and_self, true_and, and_true, not_true_eq_false, not_false_eq_true, false_imp_iff, true_imp_iff, imp_self, gPv_n, gPv_i, gPv_r, gPv_0, Option.toList_some, Option.toList_none, List.singleton_append, List.cons_append, List.nil_append, List.length_nil, List.length_cons, Nat.zero_le, Nat.reduceAdd, Nat.reduceLeDiff, or_true, true_or, false_or, or_false, and_self, and_false, false_and, implies_true, Option.some.injEq, exists_eq_left', nL, nI_add, nI_mul, nI_clamp, nI_ltI, nI_leI, nI_eq, nI_pos, nI_pos', Nat.reduceAdd, Nat.reduceMul, Nat.reducePow, sk_20 hv, sr_20_0 hv, sr_20_1 hv, sr_20_2 hv, sr_20_3 hv, h7, k3, e1]
  · rw [tkp, if_neg c] at h7
    have e1 : ¬ cT T q t = 100 + s := by rw [cT, if_neg c]; omega
    simp (disch := omega) only [c_47, e_47_0, e_47_1, e_47_4, e_47_5, e_47_8, e_47_9, e_47_12, e_47_13, e_47_16, e_47_19, e_47_20, e_47_23, e_47_24, e_47_27, e_47_28, e_47_29, e_47_32, e_47_33, e_47_36, e_47_37, n10, n01, Nat.lt_irrefl, Nat.not_lt_zero, ne_eq, Nat.add_zero, Nat.one_ne_zero, Nat.zero_ne_one, Nat.reduceEqDiff, bI_T, bI_F, bI_0, bI_1, bI_01, not_and_self, true_and, and_true, not_true_eq_false, not_false_eq_true, false_imp_iff, true_imp_iff, imp_self, gPv_n, gPv_i, gPv_r, gPv_0, Option.toList_some, Option.toList_none, List.singleton_append, List.cons_append, List.nil_append, List.length_nil, List.length_cons, Nat.zero_le, Nat.reduceAdd, Nat.reduceLeDiff, or_true, true_or, false_or, or_false, and_self, and_false, false_and, implies_true, Option.some.injEq, exists_eq_left', nL, nI_add, nI_mul, nI_clamp, nI_ltI, nI_leI, nI_eq, nI_pos, nI_pos', Nat.reduceAdd, Nat.reduceMul, Nat.reducePow, sk_20 hv, sr_20_0 hv, sr_20_1 hv, sr_20_2 hv, sr_20_3 hv, h7, e1]
theorem s_iw1 {t k : Nat} (X : TxC B q T σ) (h : TK B q T t σ) (hk : k < 15) (hc : st T q t < q) (hl : en T q (st T q t) - st T q t = wL (wi k)) (K : Q (some (.int (bI (eqB T (wi k) (st T q t) (en T q (st T q t)) = true)))) σ) : ∀ m j, j + m = wL (wi k) → (∀ i, i < j → T (st T q t + i) = wdL.getD (wO (wi k) + i) 0) → wp (d + 4) pr_46 Q 28 [some (.ref (B + 20)), some (.ref (gT σ k)), some (.int (nI j))] [] σ := by
  obtain ⟨hv, h12, q4, hT, h4⟩ := X
  obtain ⟨h5, h6, h7⟩ := h
  obtain ⟨w1, w2, w3, w4⟩ := wi_ok k hk
  obtain ⟨f1, f2, f3⟩ := I12_s h12 hk
  have f4 : (gFs σ (gT σ k)).isSome = true := by rw [f1]; rfl
  have ee := en_gt (T := T) hc
  have o1 := (w_ok (wi k) w1).1
  intro m
  induction m with
  | zero =>
    intro j hj hR
    have z : wL (wi k) ≤ j := by omega
    have eb : eqB T (wi k) (st T q t) (en T q (st T q t)) = true := by
      rw [eqB, decide_eq_true_eq]
      exact ⟨hl, fun i hi => hR i (by omega)⟩
    rw [eb] at K
    simp only [bI_T] at K
    simp (disch := omega) only [e_46_28, e_46_29, e_46_29n, e_46_30, e_46_33, e_46_76, e_46_77, n10, n01, Nat.lt_irrefl, Nat.not_lt_zero, ne_eq, Nat.add_zero, Nat.one_ne_zero, Nat.zero_ne_one, Nat.reduceEqDiff, bI_T, bI_F, bI_0, bI_1, bI_01, not_and_self, true_and, and_true, not_true_eq_false, not_false_eq_true, false_imp_iff, true_imp_iff, imp_self, gPv_n, gPv_i, gPv_r, gPv_0, Option.toList_some, Option.toList_none, List.singleton_append, List.cons_append, List.nil_append, List.length_nil, List.length_cons, Nat.zero_le, Nat.reduceAdd, Nat.reduceLeDiff, or_true, true_or, false_or, or_false, and_self, and_false, false_and, implies_true, Option.some.injEq, exists_eq_left', nL, nI_add, nI_mul, nI_clamp, nI_ltI, nI_leI, nI_eq, nI_pos, nI_pos', Nat.reduceAdd, Nat.reduceMul, Nat.reducePow, sk_20 hv, sr_20_0 hv, sr_20_1 hv, sr_20_2 hv, sr_20_3 hv, f4, s_len h12 hk, w2, z]
    exact K
  | succ m ih =>
    intro j hj hR
    have z : ¬ wL (wi k) ≤ j := by omega
    obtain ⟨t1, t2⟩ := hT (st T q t + j) (by omega)
    have z1 : st T q t + j < 400 := by omega
    have z2 : ¬ q ≤ st T q t + j := by omega
    have wl := wd_lt (wO (wi k) + j) (by omega)
    have jk : j < gSl k := by omega
    rw [e_46_28]
    by_cases g : T (st T q t + j) = wdL.getD (wO (wi k) + j) 0
    · simp (disch := omega) only [e_46_29, e_46_29n, e_46_30, e_46_33, e_46_36, e_46_37, e_46_40, e_46_41, e_46_42, e_46_43, e_46_46, e_46_49, e_46_50, e_46_53, e_46_54, e_46_57, e_46_58, e_46_59, e_46_60, e_46_60n, e_46_61, e_46_62, e_46_65, e_46_68, e_46_69, e_46_70, e_46_73, n10, n01, Nat.lt_irrefl, Nat.not_lt_zero, ne_eq, Nat.add_zero, Nat.one_ne_zero, Nat.zero_ne_one, Nat.reduceEqDiff, bI_T, bI_F, bI_0, bI_1, bI_01, not_and_self, true_and, and_true, not_true_eq_false, not_false_eq_true, false_imp_iff, true_imp_iff, imp_self, gPv_n, gPv_i, gPv_r, gPv_0, Option.toList_some, Option.toList_none, List.singleton_append, List.cons_append, List.nil_append, List.length_nil, List.length_cons, Nat.zero_le, Nat.reduceAdd, Nat.reduceLeDiff, or_true, true_or, false_or, or_false, and_self, and_false, false_and, implies_true, Option.some.injEq, exists_eq_left', nL, nI_add, nI_mul, nI_clamp, nI_ltI, nI_leI, nI_eq, nI_pos, nI_pos', Nat.reduceAdd, Nat.reduceMul, Nat.reducePow, sk_19 hv, sn_19 hv, sk_20 hv, sr_20_0 hv, sr_20_1 hv, sr_20_2 hv, sr_20_3 hv, f4, s_len h12 hk, s_chr h12 hk jk, w2, h4, h5, z, z1, z2, t1, g]
      exact ih (j + 1) (by omega) (fun i hi => by
        by_cases g2 : i = j
        · rw [g2]; exact g
        · exact hR i (by omega))
    · have eb : eqB T (wi k) (st T q t) (en T q (st T q t)) = false := by
        rw [eqB, decide_eq_false_iff_not]
        rintro ⟨_, y⟩
        exact g (y j (by omega))
      rw [eb] at K
      simp only [Bool.false_eq_true, bI_F] at K
      simp (disch := omega) only [e_46_29, e_46_29n, e_46_30, e_46_33, e_46_36, e_46_37, e_46_40, e_46_41, e_46_42, e_46_43, e_46_46, e_46_49, e_46_50, e_46_53, e_46_54, e_46_57, e_46_58, e_46_59, e_46_60, e_46_60n, e_46_61, e_46_62, e_46_65, e_46_68, e_46_69, n10, n01, Nat.lt_irrefl, Nat.not_lt_zero, ne_eq, Nat.add_zero, Nat.one_ne_zero, Nat.zero_ne_one, Nat.reduceEqDiff, bI_T, bI_F, bI_0, bI_1, bI_01, not_and_self, true_and, and_true, not_true_eq_false, not_false_eq_true, false_imp_iff, true_imp_iff, imp_self, gPv_n, gPv_i, gPv_r, gPv_0, Option.toList_some, Option.toList_none, List.singleton_append, List.cons_append, List.nil_append, List.length_nil, List.length_cons, Nat.zero_le, Nat.reduceAdd, Nat.reduceLeDiff, or_true, true_or, false_or, or_false, and_self, and_false, false_and, implies_true, Option.some.injEq, exists_eq_left', nL, nI_add, nI_mul, nI_clamp, nI_ltI, nI_leI, nI_eq, nI_pos, nI_pos', Nat.reduceAdd, Nat.reduceMul, Nat.reducePow, sk_19 hv, sn_19 hv, sk_20 hv, sr_20_0 hv, sr_20_1 hv, sr_20_2 hv, sr_20_3 hv, f4, s_len h12 hk, s_chr h12 hk jk, w2, h4, h5, z, z1, z2, t1, g]
      exact K
theorem s_isWord {t k : Nat} (X : TxC B q T σ) (h : TK B q T t σ) (hk : k < 15) : wc (d + 5) 46 [.ref (B + 20), .ref (gT σ k)] σ Q ↔ Q (some (.int (bI (cT T q t = wi k + 1)))) σ := by
  refine wc_one ?_
  intro Q K
  obtain ⟨hv, h12, q4, hT, h4⟩ := id X
  obtain ⟨h5, h6, h7⟩ := id h
  obtain ⟨w1, w2, w3, w4⟩ := wi_ok k hk
  obtain ⟨f1, f2, f3⟩ := I12_s h12 hk
  have f4 : (gFs σ (gT σ k)).isSome = true := by rw [f1]; rfl
  have kl := kd_le (T (st T q t))
  by_cases c : st T q t < q
  · rw [tkp, if_pos c] at h7
    have ee := en_gt (T := T) c
    by_cases k1 : kd (T (st T q t)) = 1
    · rw [k1] at h7
      have e : cT T q t = wx T (st T q t) (en T q (st T q t)) := by rw [cT, if_pos c, cd, if_pos k1]
      have ew : bI (cT T q t = wi k + 1) = bI (eqB T (wi k) (st T q t) (en T q (st T q t)) = true) := by
        rw [e]
        exact bI_c (wx_w w1)
      rw [ew] at K
      by_cases g : en T q (st T q t) - st T q t = wL (wi k)
      · have g' : nI (en T q (st T q t)) - nI (st T q t) = nI (wL (wi k)) := by rw [nI_sub (by omega), g]
        simp (disch := omega) only [c_46, e_46_0, e_46_1, e_46_4, e_46_5, e_46_8, e_46_9, e_46_12, e_46_13, e_46_16, e_46_17, e_46_17n, e_46_18, e_46_21, e_46_24, e_46_25, e_46_26, e_46_27, n10, n01, Nat.lt_irrefl, Nat.not_lt_zero, ne_eq, Nat.add_zero, Nat.one_ne_zero, Nat.zero_ne_one, Nat.reduceEqDiff, bI_T, bI_F, bI_0, bI_1, bI_01, not_and_self, true_and, and_true, not_true_eq_false, not_false_eq_true, false_imp_iff, true_imp_iff, imp_self, gPv_n, gPv_i, gPv_r, gPv_0, Option.toList_some, Option.toList_none, List.singleton_append, List.cons_append, List.nil_append, List.length_nil, List.length_cons, Nat.zero_le, Nat.reduceAdd, Nat.reduceLeDiff, or_true, true_or, false_or, or_false, and_self, and_false, false_and, implies_true, Option.some.injEq, exists_eq_left', nL, nI_add, nI_mul, nI_clamp, nI_ltI, nI_leI, nI_eq, nI_pos, nI_pos', Nat.reduceAdd, Nat.reduceMul, Nat.reducePow, sk_20 hv, sr_20_0 hv, sr_20_1 hv, sr_20_2 hv, sr_20_3 hv, f4, s_len h12 hk, w2, h5, h6, h7, g']
        exact s_iw1 X h hk c g K (wL (wi k)) 0 (by omega) (fun i hi => absurd hi (by omega))
      · have eb : eqB T (wi k) (st T q t) (en T q (st T q t)) = false := by
          rw [eqB, decide_eq_false_iff_not]
          rintro ⟨y, _⟩
          exact g y
        rw [eb] at K
        simp only [Bool.false_eq_true, bI_F] at K
        simp (disch := omega) only [c_46, e_46_0, e_46_1, e_46_4, e_46_5, e_46_8, e_46_9, e_46_12, e_46_13, e_46_16, e_46_17, e_46_17n, e_46_18, e_46_21, e_46_24, e_46_25, n10, n01, Nat.lt_irrefl, Nat.not_lt_zero, ne_eq, Nat.add_zero, Nat.one_ne_zero, Nat.zero_ne_one, Nat.reduceEqDiff, bI_T, bI_F, bI_0, bI_1, bI_01, not_and_self, true_and, and_true, not_true_eq_false, not_false_eq_true, false_imp_iff, true_imp_iff, imp_self, gPv_n, gPv_i, gPv_r, gPv_0, Option.toList_some, Option.toList_none, List.singleton_append, List.cons_append, List.nil_append, List.length_nil, List.length_cons, Nat.zero_le, Nat.reduceAdd, Nat.reduceLeDiff, or_true, true_or, false_or, or_false, and_self, and_false, false_and, implies_true, Option.some.injEq, exists_eq_left', nL, nI_add, nI_mul, nI_clamp, nI_ltI, nI_leI, nI_eq, nI_pos, nI_pos', Nat.reduceAdd, Nat.reduceMul, Nat.reducePow, sk_20 hv, sr_20_0 hv, sr_20_1 hv, sr_20_2 hv, sr_20_3 hv, f4, s_len h12 hk, w2, h5, h6, h7, nI_sub, g]
        exact K
    · have e1 : ¬ cT T q t = wi k + 1 := by
        rw [cT, if_pos c, cd, if_neg k1]
        split <;> omega
      rw [bI_f e1] at K
      simp (disch := omega) only [c_46, e_46_0, e_46_1, e_46_4, e_46_5, e_46_24, e_46_25, n10, n01, Nat.lt_irrefl, Nat.not_lt_zero, ne_eq, Nat.add_zero, Nat.one_ne_zero, Nat.zero_ne_one, Nat.reduceEqDiff, bI_T, bI_F, bI_0, bI_1, bI_01, not_and_self, true_and, and_true, not_true_eq_false, not_false_eq_true, false_imp_iff, true_imp_iff, imp_self, gPv_n, gPv_i, gPv_r, gPv_0, Option.toList_some, Option.toList_none, List.singleton_append, List.cons_append, List.nil_append, List.length_nil, List.length_cons, Nat.zero_le, Nat.reduceAdd, Nat.reduceLeDiff, or_true, true_or, false_or, or_false, and_self, and_false, false_and, implies_true, Option.some.injEq, exists_eq_left', nL, nI_add, nI_mul, nI_clamp, nI_ltI, nI_leI, nI_eq, nI_pos, nI_pos', Nat.reduceAdd, Nat.reduceMul, Nat.reducePow, sk_20 hv, sr_20_0 hv, sr_20_1 hv, sr_20_2 hv, sr_20_3 hv, h7, k1]
      exact K
  · rw [tkp, if_neg c] at h7
    have e1 : ¬ cT T q t = wi k + 1 := by rw [cT, if_neg c]; omega
    rw [bI_f e1] at K
    simp (disch := omega) only [c_46, e_46_0, e_46_1, e_46_4, e_46_5, e_46_24, e_46_25, n10, n01, Nat.lt_irrefl, Nat.not_lt_zero, ne_eq, Nat.add_zero, Nat.one_ne_zero, Nat.zero_ne_one, Nat.reduceEqDiff, bI_T, bI_F, bI_0, bI_1, bI_01, not_and_self, true_and, and_true, not_true_eq_false, not_false_eq_true, false_imp_iff, true_imp_iff, imp_self, gPv_n, gPv_i, gPv_r, gPv_0, Option.toList_some, Option.toList_none, List.singleton_append, List.cons_append, List.nil_append, List.length_nil, List.length_cons, Nat.zero_le, Nat.reduceAdd, Nat.reduceLeDiff, or_true, true_or, false_or, or_false, and_self, and_false, false_and, implies_true, Option.some.injEq, exists_eq_left', nL, nI_add, nI_mul, nI_clamp, nI_ltI, nI_leI, nI_eq, nI_pos, nI_pos', Nat.reduceAdd, Nat.reduceMul, Nat.reducePow, sk_20 hv, sr_20_0 hv, sr_20_1 hv, sr_20_2 hv, sr_20_3 hv, h7]
    exact K
end
