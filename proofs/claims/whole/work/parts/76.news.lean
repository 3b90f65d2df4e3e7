/-! news: class and model -/
section
variable {B : Nat} {own : Nat → Nat} {σ : gS} {A : Nat → Int32} {d : Nat} {Q : Option Value → gS → Prop} {E : Nat → Nat}
theorem s_fl {r L : Nat} {x : Int32} (hk : gK σ r = 21) (hN : gN σ r = L) (hL : L ≤ 1000) : ∀ m i τ, i + m = L → Sm (fun a => a = r) σ τ → (∀ j, j < i → gI τ r j = x) → (∀ τ', Sm (fun a => a = r) σ τ' → (∀ j, j < L → gI τ' r j = x) → Q none τ') → wp d pr_282 Q 5 [some (.ref r), some (.int x), some (.int (nI i)), some (.int (nI L))] [] τ := by
  intro m
  induction m with
  | zero =>
    intro i τ hi hS hW K
    have e : i = L := by omega
    subst e
    simp (disch := omega) only [e_282_5, e_282_6, e_282_7, e_282_20, n10, n01, Nat.lt_irrefl, Nat.not_lt_zero, ne_eq, Nat.add_zero, Nat.one_ne_zero, Nat.zero_ne_one, Nat.reduceEqDiff, bI_T, bI_F, bI_0, bI_1, bI_01, not_and_self, true_and, and_true, not_true_eq_false, not_false_eq_true, false_imp_iff, true_imp_iff, imp_self, gPv_n, gPv_i, gPv_r, gPv_0, Option.toList_some, Option.toList_none, List.singleton_append, List.cons_append, List.nil_append, List.length_nil, List.length_cons, Nat.zero_le, Nat.reduceAdd, Nat.reduceLeDiff, or_true, true_or, false_or, or_false, and_self, and_false, false_and, implies_true, Option.some.injEq, exists_eq_left', nL, nI_add, nI_mul, nI_clamp, nI_ltI, nI_leI, nI_eq, nI_pos, nI_pos', Nat.reduceAdd, Nat.reduceMul, Nat.reducePow, Nat.le_refl]
    exact K τ hS hW
  | succ m ih =>
    intro i τ hi hS hW K
    have hk' : gK τ r = 21 := by rw [hS.1]; exact hk
    have hN' : gN τ r = L := by rw [hS.2.1]; exact hN
    have z : ¬ L ≤ i := by omega
    have z2 : i < L := by omega
    rw [e_282_5]
    simp (disch := omega) only [e_282_6, e_282_7, e_282_10, e_282_11, e_282_12, e_282_13, e_282_14, e_282_17, n10, n01, Nat.lt_irrefl, Nat.not_lt_zero, ne_eq, Nat.add_zero, Nat.one_ne_zero, Nat.zero_ne_one, Nat.reduceEqDiff, bI_T, bI_F, bI_0, bI_1, bI_01, not_and_self, true_and, and_true, not_true_eq_false, not_false_eq_true, false_imp_iff, true_imp_iff, imp_self, gPv_n, gPv_i, gPv_r, gPv_0, Option.toList_some, Option.toList_none, List.singleton_append, List.cons_append, List.nil_append, List.length_nil, List.length_cons, Nat.zero_le, Nat.reduceAdd, Nat.reduceLeDiff, or_true, true_or, false_or, or_false, and_self, and_false, false_and, implies_true, Option.some.injEq, exists_eq_left', nL, nI_add, nI_mul, nI_clamp, nI_ltI, nI_leI, nI_eq, nI_pos, nI_pos', Nat.reduceAdd, Nat.reduceMul, Nat.reducePow, z, z2, hk', hN']
    refine ih (i + 1) _ (by omega) (Sm_I hS rfl) ?_ K
    intro j hj
    by_cases c : j = i
    · subst c; rw [rI_eq]
    · rw [rI_nk c]; exact hW j (by omega)
theorem s_fill {r L : Nat} {x : Int32} (hk : gK σ r = 21) (hN : gN σ r = L) (hL : L ≤ 1000) (K : ∀ τ', Sm (fun a => a = r) σ τ' → (∀ j, j < L → gI τ' r j = x) → Q none τ') : wc (d + 1) 282 [.ref r, .int x] σ Q := by
  have hk2 : 20 ≤ gK σ r ∧ gK σ r < 27 := by omega
  simp (disch := first | omega | assumption) only [c_282, e_282_0, e_282_1, e_282_2, e_282_3, e_282_3n, e_282_4, n10, n01, Nat.lt_irrefl, Nat.not_lt_zero, ne_eq, Nat.add_zero, Nat.one_ne_zero, Nat.zero_ne_one, Nat.reduceEqDiff, bI_T, bI_F, bI_0, bI_1, bI_01, not_and_self, true_and, and_true, not_true_eq_false, not_false_eq_true, false_imp_iff, true_imp_iff, imp_self, gPv_n, gPv_i, gPv_r, gPv_0, Option.toList_some, Option.toList_none, List.singleton_append, List.cons_append, List.nil_append, List.length_nil, List.length_cons, Nat.zero_le, Nat.reduceAdd, Nat.reduceLeDiff, or_true, true_or, false_or, or_false, and_self, and_false, false_and, implies_true, Option.some.injEq, exists_eq_left', nL, hk, hN, lg_len]
  exact s_fl hk hN hL L 0 σ (by omega) (Sm_refl _ _) (fun j hj => absurd hj (by omega)) K
theorem EdG_n (hE : EdG A E) (h : Nat) : E h < 2 ^ hn A := by
  refine Nat.lt_pow_two_of_testBit _ (fun j hj => ?_)
  cases q : (E h).testBit j
  · rfl
  · have := hE.2.2 h j q
    rw [tb_lt (mk_lt _ _) hj] at this
    exact absurd this Bool.false_ne_true
def prv (F : Nat → Nat) (n S d : Nat) : Nat := match d with
  | 0 => 0
  | d + 1 => sq F n S d
theorem prv_sub {F : Nat → Nat} {n S dd j : Nat} (h : (prv F n S dd).testBit j = true) : (sq F n S dd).testBit j = true := by
  cases dd with
  | zero => simp [prv] at h
  | succ dd => exact sq_up h 1
theorem prv_cl {F : Nat → Nat} {n S dd h j : Nat} (hh : h < n) (h1 : (prv F n S dd).testBit h = true) (h2 : (F h).testBit j = true) : (sq F n S dd).testBit j = true := by
  cases dd with
  | zero => simp [prv] at h1
  | succ dd => exact tb_sp1.mpr (Or.inr ⟨h, hh, h1, h2⟩)
theorem dy_fr {F : Nat → Nat} {n S dd : Nat} (h0 : ad (sq F n S dd) (prv F n S dd) = 0) {h m : Nat} (hm : dd ≤ m) : dyO F n S h m = dyO F n S h dd := by
  have eq : ∀ k, sq F n S (dd + k) = prv F n S dd := by
    have e1 : sq F n S dd = prv F n S dd := by
      refine Nat.eq_of_testBit_eq (fun j => ?_)
      have := congrArg (fun x => x.testBit j) h0
      simp only [tb_ad, Nat.zero_testBit] at this
      cases q : (sq F n S dd).testBit j
      · cases q2 : (prv F n S dd).testBit j
        · rfl
        · rw [prv_sub q2] at q; exact absurd q (by simp)
      · rw [q] at this
        simpa using this.symm
    cases dd with
    | zero =>
      have e0 : S = 0 := e1
      intro k
      induction k with
      | zero => exact e1
      | succ k ih =>
        show sp1 F n (sq F n S (0 + k)) = 0
        have ih' : sq F n S (0 + k) = 0 := ih
        rw [ih']
        refine Nat.eq_of_testBit_eq (fun j => ?_)
        rw [Bool.eq_iff_iff, tb_sp1]
        simp
    | succ dd =>
      intro k
      have := sq_st (d := dd) e1 (1 + k)
      rw [show dd + 1 + k = dd + (1 + k) from by omega]
      exact this
  obtain ⟨k, rfl⟩ : ∃ k, m = dd + k := ⟨m - dd, by omega⟩
  have : fo (fun d => (sq F n S d).testBit h) (dd + k) 0 = fo (fun d => (sq F n S d).testBit h) dd 0 := by
    rw [fo_add, Nat.zero_add]
    cases q : fo (fun d => (sq F n S d).testBit h) dd 0 with
    | some e => rfl
    | none =>
      rw [Option.none_or]
      refine fo_0 ?_
      intro j h1 h2
      obtain ⟨i, rfl⟩ : ∃ i, j = dd + i := ⟨j - dd, by omega⟩
      show (sq F n S (dd + i)).testBit h = false
      rw [eq i]
      cases q2 : (prv F n S dd).testBit h
      · rfl
      · cases dd with
        | zero => simp [prv] at q2
        | succ dd =>
          have := fo_none _ _ q dd (by omega) (by omega)
          have q2' : (sq F n S dd).testBit h = true := q2
          rw [q2'] at this
          exact this
  exact this
abbrev frs (F : Nat → Nat) (n S dd : Nat) : Nat := ad (sq F n S dd) (prv F n S dd)
theorem frs_next {F : Nat → Nat} {n S dd : Nat} (hn : n ≤ 12) (h0 : ∀ h, n ≤ h → F h = 0) : ad (orU (fun h => if (frs F n S dd).testBit h = true then F h else 0) 12) (sq F n S dd) = frs F n S (dd + 1) ∧ sq F n S dd ||| frs F n S (dd + 1) = sq F n S (dd + 1) := by
  have key : ∀ j, (frs F n S (dd + 1)).testBit j = ((sq F n S (dd + 1)).testBit j && !(sq F n S dd).testBit j) := fun j => tb_ad _ _ j
  refine ⟨?_, ?_⟩
  · refine Nat.eq_of_testBit_eq (fun j => ?_)
    rw [tb_ad, key]
    cases q : (sq F n S dd).testBit j
    · simp only [Bool.not_false, Bool.and_true]
      rw [Bool.eq_iff_iff, tb_orU]
      show _ ↔ (sp1 F n (sq F n S dd)).testBit j = true
      rw [tb_sp1]
      constructor
      · rintro ⟨h, h1, h2⟩
        by_cases z : (frs F n S dd).testBit h = true
        · rw [if_pos z] at h2
          rw [tb_ad] at z
          simp only [Bool.and_eq_true] at z
          by_cases hn' : h < n
          · exact Or.inr ⟨h, hn', z.1, h2⟩
          · rw [h0 h (by omega)] at h2
            simp at h2
        · rw [if_neg z] at h2
          simp at h2
      · rintro (h | ⟨h, h1, h2, h3⟩)
        · rw [q] at h; exact absurd h Bool.false_ne_true
        · refine ⟨h, by omega, ?_⟩
          have : (frs F n S dd).testBit h = true := by
            rw [tb_ad, h2]
            cases q2 : (prv F n S dd).testBit h
            · rfl
            · rw [prv_cl h1 q2 h3] at q
              exact absurd q (by simp)
          rw [if_pos this]
          exact h3
    · simp
  · refine Nat.eq_of_testBit_eq (fun j => ?_)
    rw [Nat.testBit_or, key]
    cases q : (sq F n S dd).testBit j
    · simp
    · rw [sq_up q 1]; rfl
theorem s_gr1 {r b dd S : Nat} {x2 : Int32} (h : Ctx B own σ A) (hr : r = B + 29 ∨ r = B + 43) (hE : EdG A E) (hR : ∀ j, j < 12 → gI σ r j = nI (E j)) (hd : dd < 12) (hS4 : S < 4096) : ∀ m i τ, i + m = 12 → Sm (fun a => a = B + 44) σ τ → (∀ j, j < i → gI τ (B + 44) j = foI (dyO E (hn A) S j (dd + 1))) → (∀ j, i ≤ j → j < 12 → gI τ (B + 44) j = foI (dyO E (hn A) S j dd)) →
    (∀ τ', Sm (fun a => a = B + 44) σ τ' → (∀ j, j < 12 → gI τ' (B + 44) j = foI (dyO E (hn A) S j (dd + 1))) → wp (d + 1) pr_32 Q 89 [some (.ref (B + 42)), some (.ref r), some (.int x2), some (.int (nI (frs E (hn A) S dd))), some (.int (nI (sq E (hn A) S dd))), some (.int (nI dd)), some (.int (nI (orU (fun h => if (frs E (hn A) S dd).testBit h = true then E h else 0) 12))), some (.int (nI 12))] [] τ') →
    wp (d + 1) pr_32 Q 41 [some (.ref (B + 42)), some (.ref r), some (.int x2), some (.int (nI (frs E (hn A) S dd))), some (.int (nI (sq E (hn A) S dd))), some (.int (nI dd)), some (.int (nI (orU (fun h => if (frs E (hn A) S dd).testBit h = true then E h else 0) i))), some (.int (nI i))] [] τ := by
  have fl : frs E (hn A) S dd < 4096 := ad_lt (sq_lt hE.1 hS4 dd)
  intro m
  induction m with
  | zero =>
    intro i τ hi hS h1 h2 K
    have e : i = 12 := by omega
    subst e
    simp (disch := omega) only [e_32_41, e_32_43, e_32_45, n10, n01, Nat.lt_irrefl, Nat.not_lt_zero, ne_eq, Nat.add_zero, Nat.one_ne_zero, Nat.zero_ne_one, Nat.reduceEqDiff, bI_T, bI_F, bI_0, bI_1, bI_01, not_and_self, true_and, and_true, not_true_eq_false, not_false_eq_true, false_imp_iff, true_imp_iff, imp_self, gPv_n, gPv_i, gPv_r, gPv_0, Option.toList_some, Option.toList_none, List.singleton_append, List.cons_append, List.nil_append, List.length_nil, List.length_cons, Nat.zero_le, Nat.reduceAdd, Nat.reduceLeDiff, or_true, true_or, false_or, or_false, and_self, and_false, false_and, implies_true, Option.some.injEq, exists_eq_left', nL, nI_add, nI_mul, nI_clamp, nI_ltI, nI_leI, nI_eq, nI_pos, nI_pos', Nat.reduceAdd, Nat.reduceMul, Nat.reducePow, Nat.le_refl]
    exact K τ hS h1
  | succ m ih =>
    intro i τ hi hS h1 h2 K
    have hcT := Ctx_S h (Sm_mono hS (fun a ha => by omega))
    have hv := hcT.1
    have hk : gK τ r = 21 := by rcases hr with rfl | rfl; exact sk_29 hv; exact sk_43 hv
    have hn' : gN τ r = 12 := by rcases hr with rfl | rfl; exact sn_29 hv; exact sn_43 hv
    have hk2 : 20 ≤ gK τ r ∧ gK τ r < 27 := by omega
    have er : gI τ r i = nI (E i) := by rw [hS.2.2.2.2.2.2.1 r (by omega)]; exact hR i (by omega)
    have z : ¬ 12 ≤ i := by omega
    have z2 : i < 12 := by omega
    rw [e_32_41]
    by_cases c : (frs E (hn A) S dd).testBit i = true
    · simp (disch := first | omega | assumption) only [e_32_43, e_32_45, e_32_48, e_32_50, e_32_50n, e_32_51, e_32_52, e_32_55, e_32_56, e_32_58, e_32_61, e_32_62, e_32_65, e_32_66, e_32_69, e_32_71, e_32_73, e_32_74, e_32_76, e_32_76n, e_32_77, e_32_79, e_32_80, e_32_81, e_32_83, e_32_86, n10, n01, Nat.lt_irrefl, Nat.not_lt_zero, ne_eq, Nat.add_zero, Nat.one_ne_zero, Nat.zero_ne_one, Nat.reduceEqDiff, bI_T, bI_F, bI_0, bI_1, bI_01, not_and_self, true_and, and_true, not_true_eq_false, not_false_eq_true, false_imp_iff, true_imp_iff, imp_self, gPv_n, gPv_i, gPv_r, gPv_0, Option.toList_some, Option.toList_none, List.singleton_append, List.cons_append, List.nil_append, List.length_nil, List.length_cons, Nat.zero_le, Nat.reduceAdd, Nat.reduceLeDiff, or_true, true_or, false_or, or_false, and_self, and_false, false_and, implies_true, Option.some.injEq, exists_eq_left', n_K_I, n_K_J, n_K_R, n_K_r, n_N_I, n_N_J, n_N_R, n_N_r, n_R_I, n_R_J, n_R_r, n_J_I, n_J_R, n_J_r, n_I_J, n_I_R, n_n_I, n_n_J, n_n_R, n_n_r, n_w_I, n_w_J, n_w_R, n_w_r, n_T_I, n_T_J, n_T_R, n_T_r, rI_ne, rI_nk, rI_eq, rr_ne, rr_eq, n_J_J, n_R_R, Nat.add_left_cancel_iff, Nat.add_right_cancel_iff, Nat.add_eq_left, Nat.left_eq_add, Nat.reduceEqDiff, Nat.reduceAdd, Nat.zero_ne_one, Nat.one_ne_zero, false_and, and_false, true_and, and_true, and_self, if_false, if_true, ↓reduceIte, nL, nI_add, nI_mul, nI_clamp, nI_ltI, nI_leI, nI_eq, nI_pos, nI_pos', Nat.reduceAdd, Nat.reduceMul, Nat.reducePow, sk_42 hv, sr_42_0 hv, sr_42_1 hv, sr_42_2 hv, sk_44 hv, sn_44 hv, z, z2, hk, hn', lg_len, s_bitOf, nI_bit, c, er, nI_or]
      have e1 : orU (fun h => if (frs E (hn A) S dd).testBit h = true then E h else 0) (i + 1) = orU (fun h => if (frs E (hn A) S dd).testBit h = true then E h else 0) i ||| E i := by simp only [orU, c, if_true]
      rw [← e1]
      refine ih (i + 1) _ (by omega) (Sm_I hS rfl) ?_ ?_ K
      · intro j hj
        by_cases cj : j = i
        · subst cj
          rw [rI_eq]
          rw [tb_ad] at c
          simp only [Bool.and_eq_true, Bool.not_eq_true'] at c
          cases dd with
          | zero =>
            have : dyO E (hn A) S j 1 = some 0 := by
              simp only [dyO, fo]
              rw [if_pos c.1]
            rw [this]; rfl
          | succ dd =>
            rw [dy_new (d := dd) c.2 c.1]
            rfl
        · rw [rI_nk cj]; exact h1 j (by omega)
      · intro j hj1 hj2
        rw [rI_nk (by omega)]; exact h2 j (by omega) hj2
    · have c' : (frs E (hn A) S dd).testBit i = false := by simpa using c
      simp (disch := first | omega | assumption) only [e_32_43, e_32_45, e_32_48, e_32_50, e_32_50n, e_32_51, e_32_52, e_32_55, e_32_56, e_32_58, e_32_61, e_32_62, e_32_83, e_32_86, n10, n01, Nat.lt_irrefl, Nat.not_lt_zero, ne_eq, Nat.add_zero, Nat.one_ne_zero, Nat.zero_ne_one, Nat.reduceEqDiff, bI_T, bI_F, bI_0, bI_1, bI_01, not_and_self, true_and, and_true, not_true_eq_false, not_false_eq_true, false_imp_iff, true_imp_iff, imp_self, gPv_n, gPv_i, gPv_r, gPv_0, Option.toList_some, Option.toList_none, List.singleton_append, List.cons_append, List.nil_append, List.length_nil, List.length_cons, Nat.zero_le, Nat.reduceAdd, Nat.reduceLeDiff, or_true, true_or, false_or, or_false, and_self, and_false, false_and, implies_true, Option.some.injEq, exists_eq_left', nL, nI_add, nI_mul, nI_clamp, nI_ltI, nI_leI, nI_eq, nI_pos, nI_pos', Nat.reduceAdd, Nat.reduceMul, Nat.reducePow, sk_42 hv, sr_42_0 hv, sr_42_1 hv, sr_42_2 hv, sk_44 hv, sn_44 hv, z, z2, hk, hn', lg_len, s_bitOf, nI_bit, c', Bool.false_eq_true]
      have e1 : orU (fun h => if (frs E (hn A) S dd).testBit h = true then E h else 0) (i + 1) = orU (fun h => if (frs E (hn A) S dd).testBit h = true then E h else 0) i := by simp only [orU, c', Bool.false_eq_true, if_false, Nat.or_zero]
      rw [← e1]
      refine ih (i + 1) τ (by omega) hS ?_ (fun j a b => h2 j (by omega) b) K
      intro j hj
      by_cases cj : j = i
      · subst cj
        rw [h2 j (Nat.le_refl _) z2]
        rw [tb_ad] at c'
        cases q : (sq E (hn A) S dd).testBit j
        · rw [dy_no q]
        · rw [q] at c'
          simp only [Bool.true_and, Bool.not_eq_false'] at c'
          cases dd with
          | zero => simp [prv] at c'
          | succ dd => rw [(dy_old (d := dd) c').1]
      · exact h1 j (by omega)
theorem s_gr2 {r b S : Nat} {x2 : Int32} (h : Ctx B own σ A) (hr : r = B + 29 ∨ r = B + 43) (hE : EdG A E) (hR : ∀ j, j < 12 → gI σ r j = nI (E j)) (hS4 : S < 4096) : ∀ m dd τ (x6 x7 : Option Value), dd + m = 12 → Sm (fun a => a = B + 44) σ τ → (∀ j, j < 12 → gI τ (B + 44) j = foI (dyO E (hn A) S j dd)) →
    (∀ τ', Sm (fun a => a = B + 44) σ τ' → (∀ j, j < 12 → gI τ' (B + 44) j = foI (dyO E (hn A) S j 12)) → Q none τ') →
    wp (d + 1) pr_32 Q 24 [some (.ref (B + 42)), some (.ref r), some (.int x2), some (.int (nI (frs E (hn A) S dd))), some (.int (nI (sq E (hn A) S dd))), some (.int (nI dd)), x6, x7] [] τ := by
  have h12 := hn_le h.2.1.1.1
  intro m
  induction m with
  | zero =>
    intro dd τ x6 x7 hd hS hW K
    have e : dd = 12 := by omega
    subst e
    simp (disch := omega) only [e_32_24, e_32_26, e_32_28, e_32_109, n10, n01, Nat.lt_irrefl, Nat.not_lt_zero, ne_eq, Nat.add_zero, Nat.one_ne_zero, Nat.zero_ne_one, Nat.reduceEqDiff, bI_T, bI_F, bI_0, bI_1, bI_01, not_and_self, true_and, and_true, not_true_eq_false, not_false_eq_true, false_imp_iff, true_imp_iff, imp_self, gPv_n, gPv_i, gPv_r, gPv_0, Option.toList_some, Option.toList_none, List.singleton_append, List.cons_append, List.nil_append, List.length_nil, List.length_cons, Nat.zero_le, Nat.reduceAdd, Nat.reduceLeDiff, or_true, true_or, false_or, or_false, and_self, and_false, false_and, implies_true, Option.some.injEq, exists_eq_left', nL, nI_add, nI_mul, nI_clamp, nI_ltI, nI_leI, nI_eq, nI_pos, nI_pos', Nat.reduceAdd, Nat.reduceMul, Nat.reducePow, Nat.le_refl]
    exact K τ hS hW
  | succ m ih =>
    intro dd τ x6 x7 hd hS hW K
    have z : ¬ 12 ≤ dd := by omega
    have fl : frs E (hn A) S dd < 4096 := ad_lt (sq_lt hE.1 hS4 dd)
    by_cases c : frs E (hn A) S dd = 0
    · simp (disch := omega) only [e_32_24, e_32_26, e_32_28, e_32_31, e_32_32, e_32_109, n10, n01, Nat.lt_irrefl, Nat.not_lt_zero, ne_eq, Nat.add_zero, Nat.one_ne_zero, Nat.zero_ne_one, Nat.reduceEqDiff, bI_T, bI_F, bI_0, bI_1, bI_01, not_and_self, true_and, and_true, not_true_eq_false, not_false_eq_true, false_imp_iff, true_imp_iff, imp_self, gPv_n, gPv_i, gPv_r, gPv_0, Option.toList_some, Option.toList_none, List.singleton_append, List.cons_append, List.nil_append, List.length_nil, List.length_cons, Nat.zero_le, Nat.reduceAdd, Nat.reduceLeDiff, or_true, true_or, false_or, or_false, and_self, and_false, false_and, implies_true, Option.some.injEq, exists_eq_left', nL, nI_add, nI_mul, nI_clamp, nI_ltI, nI_leI, nI_eq, nI_pos, nI_pos', Nat.reduceAdd, Nat.reduceMul, Nat.reducePow, z, c]
      refine K τ hS (fun j hj => ?_)
      rw [hW j hj, dy_fr (m := 12) c (by omega)]
    · rw [e_32_24]
      simp (disch := omega) only [e_32_26, e_32_28, e_32_31, e_32_32, e_32_35, e_32_36, e_32_38, e_32_39, n10, n01, Nat.lt_irrefl, Nat.not_lt_zero, ne_eq, Nat.add_zero, Nat.one_ne_zero, Nat.zero_ne_one, Nat.reduceEqDiff, bI_T, bI_F, bI_0, bI_1, bI_01, not_and_self, true_and, and_true, not_true_eq_false, not_false_eq_true, false_imp_iff, true_imp_iff, imp_self, gPv_n, gPv_i, gPv_r, gPv_0, Option.toList_some, Option.toList_none, List.singleton_append, List.cons_append, List.nil_append, List.length_nil, List.length_cons, Nat.zero_le, Nat.reduceAdd, Nat.reduceLeDiff, or_true, true_or, false_or, or_false, and_self, and_false, false_and, implies_true, Option.some.injEq, exists_eq_left', nL, nI_add, nI_mul, nI_clamp, nI_ltI, nI_leI, nI_eq, nI_pos, nI_pos', Nat.reduceAdd, Nat.reduceMul, Nat.reducePow, z, c]
      refine s_gr1 (dd := dd) (b := b) h hr hE hR (by omega) hS4 12 0 τ (by omega) hS (fun j hj => absurd hj (by omega)) (fun j _ hj => hW j hj) ?_
      intro τ' hS' hW'
      obtain ⟨n1, n2⟩ := frs_next (F := E) (n := hn A) (S := S) (dd := dd) h12 hE.2.1
      simp (disch := omega) only [e_32_89, e_32_91, e_32_93, e_32_94, e_32_95, e_32_96, e_32_97, e_32_99, e_32_100, e_32_101, e_32_103, e_32_106, n10, n01, Nat.lt_irrefl, Nat.not_lt_zero, ne_eq, Nat.add_zero, Nat.one_ne_zero, Nat.zero_ne_one, Nat.reduceEqDiff, bI_T, bI_F, bI_0, bI_1, bI_01, not_and_self, true_and, and_true, not_true_eq_false, not_false_eq_true, false_imp_iff, true_imp_iff, imp_self, gPv_n, gPv_i, gPv_r, gPv_0, Option.toList_some, Option.toList_none, List.singleton_append, List.cons_append, List.nil_append, List.length_nil, List.length_cons, Nat.zero_le, Nat.reduceAdd, Nat.reduceLeDiff, or_true, true_or, false_or, or_false, and_self, and_false, false_and, implies_true, Option.some.injEq, exists_eq_left', nL, nI_add, nI_mul, nI_clamp, nI_ltI, nI_leI, nI_eq, nI_pos, nI_pos', Nat.reduceAdd, Nat.reduceMul, Nat.reducePow, nI_ad, nI_or, n1, n2]
      exact ih (dd + 1) τ' _ _ (by omega) hS' hW' K
theorem s_goRound {r b : Nat} (h : Ctx B own σ A) (hr : r = B + 29 ∨ r = B + 43) (hE : EdG A E) (hR : ∀ j, j < 12 → gI σ r j = nI (E j)) (K : ∀ τ', Sm (fun a => a = B + 44) σ τ' → (∀ j, j < 12 → gI τ' (B + 44) j = foI (dyO E (hn A) (b &&& mkN (St A) (hn A)) j 12)) → Q none τ') : wc (d + 2) 32 [.ref (B + 42), .ref r, .int (nI b)] σ Q := by
  have hv := h.1
  have ml : mkN (St A) (hn A) < 4096 := mk_lt12 (hn_le h.2.1.1.1)
  simp (disch := omega) only [c_32, e_32_0, e_32_1, e_32_4, e_32_5, n10, n01, Nat.lt_irrefl, Nat.not_lt_zero, ne_eq, Nat.add_zero, Nat.one_ne_zero, Nat.zero_ne_one, Nat.reduceEqDiff, bI_T, bI_F, bI_0, bI_1, bI_01, not_and_self, true_and, and_true, not_true_eq_false, not_false_eq_true, false_imp_iff, true_imp_iff, imp_self, gPv_n, gPv_i, gPv_r, gPv_0, Option.toList_some, Option.toList_none, List.singleton_append, List.cons_append, List.nil_append, List.length_nil, List.length_cons, Nat.zero_le, Nat.reduceAdd, Nat.reduceLeDiff, or_true, true_or, false_or, or_false, and_self, and_false, false_and, implies_true, Option.some.injEq, exists_eq_left', nL, sk_42 hv, sr_42_0 hv, sr_42_1 hv, sr_42_2 hv]
  refine s_fill (L := 12) (sk_44 hv) (sn_44 hv) (by omega) ?_
  intro τ hS hW
  have hcT := Ctx_S h (Sm_mono hS (fun a ha => by omega))
  have hvT := hcT.1
  have st6 : gI τ (B + 1) 6 = nI (mkN (St A) (hn A)) := hcT.2.1.2.1.1.2.1
  simp (disch := omega) only [e_32_8, e_32_9, e_32_10, e_32_13, e_32_16, e_32_17, e_32_18, e_32_19, e_32_21, e_32_22, n10, n01, Nat.lt_irrefl, Nat.not_lt_zero, ne_eq, Nat.add_zero, Nat.one_ne_zero, Nat.zero_ne_one, Nat.reduceEqDiff, bI_T, bI_F, bI_0, bI_1, bI_01, not_and_self, true_and, and_true, not_true_eq_false, not_false_eq_true, false_imp_iff, true_imp_iff, imp_self, gPv_n, gPv_i, gPv_r, gPv_0, Option.toList_some, Option.toList_none, List.singleton_append, List.cons_append, List.nil_append, List.length_nil, List.length_cons, Nat.zero_le, Nat.reduceAdd, Nat.reduceLeDiff, or_true, true_or, false_or, or_false, and_self, and_false, false_and, implies_true, Option.some.injEq, exists_eq_left', nL, sk_1 hvT, sr_1_0 hvT, sr_1_1 hvT, sr_1_2 hvT, sr_1_3 hvT, sr_1_4 hvT, sr_1_7 hvT, sr_1_9 hvT, sr_1_14 hvT, sr_1_15 hvT, sr_1_16 hvT, sk_42 hvT, sr_42_0 hvT, sr_42_1 hvT, sr_42_2 hvT, st6, nI_and]
  have hS4 : b &&& mkN (St A) (hn A) < 4096 := Nat.and_lt_two_pow (n := 12) _ ml
  have e0 : frs E (hn A) (b &&& mkN (St A) (hn A)) 0 = b &&& mkN (St A) (hn A) := ad_z _
  have := s_gr2 (d := d) (Q := Q) (r := r) (b := b) (S := b &&& mkN (St A) (hn A)) (x2 := nI b) (E := E) hcT hr hE (fun j hj => by rw [hS.2.2.2.2.2.2.1 r (by omega)]; exact hR j hj) hS4 12 0 τ none none (by omega) (Sm_refl _ _) (fun j hj => by rw [hW j hj]; rfl) (fun τ' hS' hW' => K τ' (Sm_trans hS hS') hW')
  rw [e0] at this
  exact this
end
