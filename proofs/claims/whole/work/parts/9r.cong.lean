/-! what a law's tokens say depends on no more than them -/
theorem pPart_c {c v v' : Nat → Nat} {S : Nat → Nat → zR zS} {b : Bool} (h : ∀ t, c t = 50 → v t = v' t) : pPart c v S b = pPart c v' S b := by
  funext t q
  by_cases e : c t = 50
  · simp only [pPart, h t e]
  · simp only [pPart, e, false_and, if_false]
theorem pSumD_c {c v v' : Nat → Nat} {F : Nat} (h : ∀ t, c t = 50 → v t = v' t) : ∀ r, pSumD c v F r = pSumD c v' F r := by
  intro r
  induction r with
  | zero => simp only [pSumD, pPart_c h]
  | succ r ih => simp only [pSumD, pPart_c h, ih]
theorem pTestD_c {c v v' : Nat → Nat} {F : Nat} (h : ∀ t, c t = 50 → v t = v' t) : ∀ r, pTestD c v F r = pTestD c v' F r := by
  intro r
  induction r with
  | zero => simp only [pTestD, pSumD_c h]
  | succ r ih => simp only [pTestD, pSumD_c h, ih]
theorem pClause_c {c v v' : Nat → Nat} {F t q : Nat} (h : ∀ t, c t = 50 → v t = v' t) : pClause c v F t q = pClause c v' F t q := by
  simp only [pClause, pHead, pSumD_c h, pTestD_c h]
theorem pLawL_c {c v v' : Nat → Nat} {F n : Nat} (h : ∀ t, c t = 50 → v t = v' t) : ∀ k t q, pLawL c v F n k t q = pLawL c v' F n k t q := by
  intro k
  induction k with
  | zero => intro t q; rfl
  | succ k ih =>
    intro t q
    simp only [pLawL, pClause_c h, ih]
theorem tkL_c {Co Va Co' Va' : Nat → Int32} {n : Nat} (hC : ∀ j, j < n → Co' j = Co j) (hV : ∀ j, j < n → Va' j = Va j) : tkL Co' Va' n = tkL Co Va n := by
  have e : tkC Co' n = tkC Co n := by
    funext t
    simp only [tkC]
    by_cases c : t < n
    · rw [if_pos c, if_pos c, hC t c]
    · rw [if_neg c, if_neg c]
  rw [tkL, tkL, e]
  refine pLawL_c ?_ _ _ _
  intro t ht
  have : t < n := by
    by_cases c : t < n
    · exact c
    · rw [tkC, if_neg c] at ht
      omega
  simp only [tkV, hV t this]
theorem LSx_c {F S E Kd Co Va Co' Va' : Nat → Int32} {ns ne nk n : Nat} (hC : ∀ j, j < n → Co' j = Co j) (hV : ∀ j, j < n → Va' j = Va j) (h : LSx F S ns E ne Kd nk Co Va n) : LSx F S ns E ne Kd nk Co' Va' n := by
  obtain ⟨L, ⟨h1, h2, h3⟩, hc⟩ := h
  refine ⟨L, ⟨by rw [tkL_c hC hV]; exact h1, h2, ?_⟩, hc⟩
  intro j hj
  have := h3 j hj
  have e : tkC Co' n j = tkC Co n j := by simp only [tkC, if_pos hj, hC j hj]
  rw [hC j hj, hV j hj, e, tkV, hV j hj]
  exact this
theorem I4_c {own : Nat → Nat} {t : Nat} {σ : gS} {A A' : Nat → Int32} (h : ∀ j, j < 5062 → A' j = A j) (w : I4 LSx own t σ A) : I4 LSx own t σ A' := by
  obtain ⟨⟨a1, a2, a3, a4, a5⟩, ⟨b1, b2, b3, b4, b5⟩, c, c0⟩ := w
  have hh := hn_le a1
  have h6 := (an_le a5.1 (by omega)).1
  have e250 : A' 250 = A 250 := h _ (by omega)
  have e254 : A' 254 = A 254 := h _ (by omega)
  refine ⟨⟨fr_Wh (fun j hj => h j (by omega)) e250 a1, fr_Wd (fun j _ hj => h j (by omega)) e250 hh a2, fr_Wt (h _ (by omega)) (h _ (by omega)) a3, fr_Wp (fun j _ hj => h j (by omega)) (h _ (by omega)) (h _ (by omega)) (h _ (by omega)) (by rw [hn_c e250]; exact Nat.le_refl _) a4, fr_Wl (fun j _ hj => h j (by omega)) a5⟩, ⟨fr_Th ⟨rfl, rfl⟩ (fun _ _ _ => rfl) (fun j hj => h j (by omega)) e250 hh b1, fr_Td rfl rfl (fun j _ hj => h j (by omega)) e250 hh b2, fr_Tt rfl rfl (h _ (by omega)) (h _ (by omega)) b3, fr_Tp (fun _ _ _ => rfl) (fun j _ hj => h j (by omega)) (h _ (by omega)) (h _ (by omega)) (h _ (by omega)) a4 b4, fr_Tl rfl rfl e254 (h _ (by omega)) b5⟩, ?_, ?_⟩
  · intro i hi
    rw [an_c e254] at hi
    obtain ⟨p, w1, w2, w3, w4⟩ := c i hi
    have en : an A' (256 + i) = an A (256 + i) := an_c (h _ (by omega))
    have hn4 : an A (256 + i) ≤ 400 := (an_le (a5.2.2 i hi) (by omega)).1
    refine ⟨p, w1, w2, w3, ?_⟩
    rw [en]
    exact LSx_c (fun j hj => h _ (by omega)) (fun j hj => h _ (by omega)) w4
  · intro i hi hi6
    rw [an_c e254] at hi
    exact c0 i hi hi6
/-- a town that became like another -/
theorem I4_bl {own : Nat → Nat} {t m : Nat} {σ τ : gS} {A : Nat → Int32} (w : I4 LSx own m σ A) (hS : Sr t σ τ) (ho : ∀ a, own a = 1 → ¬ (t ≤ a ∧ a < t + 17)) (h1 : ∀ o, 1 ≤ o → o ≤ 6 → ∀ j, j < 12 → gI τ (t + o) j = gI σ (m + o) j) (h2 : ∀ j, j = 5 ∨ j = 6 ∨ j = 8 ∨ j = 10 ∨ j = 11 ∨ j = 12 ∨ j = 13 → gI τ t j = gI σ m j) (h3 : ∀ i, i < 6 → gR τ (t + 7) i = gR σ (m + 7) i) (h4 : PrE t m 8 (an A 251) σ τ) (h5 : PrE t m 11 (an A 252) σ τ) (h6 : PrE t m 14 (an A 253) σ τ) : I4 LSx own t τ A := by
  obtain ⟨⟨a1, a2, a3, a4, a5⟩, ⟨b1, b2, b3, b4, b5⟩, c, c0⟩ := w
  have hh := hn_le a1
  have l6 := (an_le a5.1 (by omega)).1
  refine ⟨⟨a1, a2, a3, a4, a5⟩, ⟨⟨by rw [h2 5 (by omega)]; exact b1.1, by rw [h2 6 (by omega)]; exact b1.2.1, ?_⟩, ⟨by rw [h2 8 (by omega)]; exact b2.1, ?_⟩, ⟨by rw [h2 12 (by omega)]; exact b3.1, by rw [h2 13 (by omega)]; exact b3.2⟩, ⟨⟨?_, ?_⟩, ⟨?_, ?_⟩, ?_, ?_⟩, ⟨by rw [h2 10 (by omega)]; exact b5.1, by rw [h2 11 (by omega)]; exact b5.2⟩⟩, ?_, ?_⟩
  · intro h hlt
    have := b1.2.2 h hlt
    rw [h1 1 (by omega) (by omega) h (by omega), h1 2 (by omega) (by omega) h (by omega), h1 3 (by omega) (by omega) h (by omega), h1 4 (by omega) (by omega) h (by omega), h1 5 (by omega) (by omega) h (by omega)]
    exact this
  · intro h hlt
    rw [h1 6 (by omega) (by omega) h (by omega)]
    exact b2.2 h hlt
  · rw [h4.1]; exact (an_le a4.1 (by omega)).2.symm
  · intro k hk
    have e := h4.2 k hk
    have b := b4.1.2 k hk
    exact ⟨e.1.trans b.1, e.2.trans b.2⟩
  · rw [h5.1]; exact (an_le a4.2.1 (by omega)).2.symm
  · intro k hk
    have e := h5.2 k hk
    have b := b4.2.1.2 k hk
    exact ⟨e.1.trans b.1, e.2.trans b.2⟩
  · rw [h6.1]; exact (an_le a4.2.2.1 (by omega)).2.symm
  · intro k hk
    have e := h6.2 k hk
    have b := b4.2.2.2 k hk
    exact ⟨e.1.trans b.1, e.2.trans b.2⟩
  · intro i hi
    obtain ⟨p, w1, w2⟩ := c i hi
    refine ⟨p, by rw [h3 i (by omega)]; exact w1, fr_Lawx (fun a ha => ha) (fun a _ => by rw [hS.1]) (fun a _ => by rw [hS.2.1]) (fun a ha => hS.2.2.1 a (by have := ho a ha; omega)) (fun a ha => hS.2.2.2.2.2.2.1 a (ho a ha)) (fun _ _ => rfl) w2⟩
  · intro i hi hi6
    rw [h3 i hi6]
    exact c0 i hi hi6
/-! the model's copies -/
section
variable {B : Nat} {σ : gS} {d k : Nat} {Q : Option Value → gS → Prop}
theorem t_bk1 (hv0 : IvS B σ) (hk : k < 2) (K : ∀ τ' x2, Sm (fun a => a = B + 56) σ τ' → (∀ j, j < 5062 → gI τ' (B + 56) j = gI σ (B + 57) (5062 * k + j)) → wp d pr_170 Q 64 [some (.ref (B + 54)), some (.int (nI k)), x2] [] τ') : ∀ m i τ, i + m = 5062 → Sm (fun a => a = B + 56) σ τ → (∀ j, j < i → gI τ (B + 56) j = gI σ (B + 57) (5062 * k + j)) → wp d pr_170 Q 33 [some (.ref (B + 54)), some (.int (nI k)), some (.int (nI i))] [] τ := by
  intro m
  induction m with
  | zero =>
    intro i τ hi hS hR
    have e : i = 5062 := by omega
    subst e
    simp (disch := omega) only [e_170_33, e_170_34, e_170_37, n10, n01, Nat.lt_irrefl, Nat.not_lt_zero, ne_eq, Nat.add_zero, Nat.one_ne_zero, Nat.zero_ne_one, Nat.reduceEqDiff, bI_T, bI_F, bI_0, bI_1, bI_01, not_and_self, true_and, and_true, not_true_eq_false, not_false_eq_true, false_imp_iff, true_imp_iff, imp_self, gPv_n, gPv_i, gPv_r, gPv_0, Option.toList_some, Option.toList_none, List.singleton_append, List.cons_append, List.nil_append, List.length_nil, List.length_cons, Nat.zero_le, Nat.reduceAdd, Nat.reduceLeDiff, or_true, true_or, false_or, or_false, and_self, and_false, false_and, implies_true, Option.some.injEq, exists_eq_left', nL, nI_add, nI_mul, nI_clamp, nI_ltI, nI_leI, nI_eq, nI_pos, nI_pos', Nat.reduceAdd, Nat.reduceMul, Nat.reducePow, Nat.le_refl]
    exact K τ _ hS hR
  | succ m ih =>
    intro i τ hi hS hR
    have hv : IvS B τ := fr_IvS hS.1 hS.2.1 hS.2.2.1 hv0
    have z : ¬ 5062 ≤ i := by omega
    have z1 : i < 5062 := by omega
    have z2 : 5062 * k + i < 10124 := by omega
    have e57 : gI τ (B + 57) = gI σ (B + 57) := hS.2.2.2.2.2.2.1 _ (by omega)
    rw [e_170_33]
    simp (disch := omega) only [e_170_34, e_170_37, e_170_40, e_170_41, e_170_44, e_170_45, e_170_46, e_170_49, e_170_52, e_170_53, e_170_54, e_170_55, e_170_56, e_170_57, e_170_58, e_170_61, n10, n01, Nat.lt_irrefl, Nat.not_lt_zero, ne_eq, Nat.add_zero, Nat.one_ne_zero, Nat.zero_ne_one, Nat.reduceEqDiff, bI_T, bI_F, bI_0, bI_1, bI_01, not_and_self, true_and, and_true, not_true_eq_false, not_false_eq_true, false_imp_iff, true_imp_iff, imp_self, gPv_n, gPv_i, gPv_r, gPv_0, Option.toList_some, Option.toList_none, List.singleton_append, List.cons_append, List.nil_append, List.length_nil, List.length_cons, Nat.zero_le, Nat.reduceAdd, Nat.reduceLeDiff, or_true, true_or, false_or, or_false, and_self, and_false, false_and, implies_true, Option.some.injEq, exists_eq_left', nL, nI_add, nI_mul, nI_clamp, nI_ltI, nI_leI, nI_eq, nI_pos, nI_pos', Nat.reduceAdd, Nat.reduceMul, Nat.reducePow, sk_54 hv, sr_54_2 hv, sr_54_3 hv, sr_54_4 hv, sr_54_5 hv, sr_54_7 hv, sr_54_8 hv, sr_54_9 hv, sr_54_12 hv, sr_54_13 hv, sr_54_14 hv, sr_54_22 hv, sr_54_25 hv, sr_54_26 hv, sr_54_27 hv, sr_54_34 hv, sr_54_35 hv, sr_54_36 hv, sr_54_37 hv, sr_54_38 hv, sr_54_40 hv, sr_54_43 hv, sr_54_44 hv, sr_54_45 hv, sr_54_46 hv, sr_54_47 hv, sk_56 hv, sn_56 hv, sk_57 hv, sn_57 hv, z, z1, z2, e57]
    refine ih (i + 1) _ (by omega) (Sm_I hS rfl) ?_
    intro j hj
    by_cases g : j = i
    · rw [g, rI_eq]
    · rw [rI_nk g]; exact hR j (by omega)
theorem t_im1 (hv0 : IvS B σ) (hk : k < 2) (K : ∀ τ' x2, Sm (fun a => a = B + 57) σ τ' → (∀ j, j < 5062 → gI τ' (B + 57) (5062 * k + j) = gI σ (B + 56) j) → (∀ x, (x < 5062 * k ∨ 5062 * k + 5062 ≤ x) → gI τ' (B + 57) x = gI σ (B + 57) x) → wp d pr_169 Q 48 [some (.ref (B + 54)), some (.int (nI k)), x2] [] τ') : ∀ m i τ, i + m = 5062 → Sm (fun a => a = B + 57) σ τ → (∀ j, j < i → gI τ (B + 57) (5062 * k + j) = gI σ (B + 56) j) → (∀ x, (x < 5062 * k ∨ 5062 * k + 5062 ≤ x) → gI τ (B + 57) x = gI σ (B + 57) x) → wp d pr_169 Q 17 [some (.ref (B + 54)), some (.int (nI k)), some (.int (nI i))] [] τ := by
  intro m
  induction m with
  | zero =>
    intro i τ hi hS hR hR2
    have e : i = 5062 := by omega
    subst e
    simp (disch := omega) only [e_169_17, e_169_18, e_169_21, n10, n01, Nat.lt_irrefl, Nat.not_lt_zero, ne_eq, Nat.add_zero, Nat.one_ne_zero, Nat.zero_ne_one, Nat.reduceEqDiff, bI_T, bI_F, bI_0, bI_1, bI_01, not_and_self, true_and, and_true, not_true_eq_false, not_false_eq_true, false_imp_iff, true_imp_iff, imp_self, gPv_n, gPv_i, gPv_r, gPv_0, Option.toList_some, Option.toList_none, List.singleton_append, List.cons_append, List.nil_append, List.length_nil, List.length_cons, Nat.zero_le, Nat.reduceAdd, Nat.reduceLeDiff, or_true, true_or, false_or, or_false, and_self, and_false, false_and, implies_true, Option.some.injEq, exists_eq_left', nL, nI_add, nI_mul, nI_clamp, nI_ltI, nI_leI, nI_eq, nI_pos, nI_pos', Nat.reduceAdd, Nat.reduceMul, Nat.reducePow, Nat.le_refl]
    exact K τ _ hS hR hR2
  | succ m ih =>
    intro i τ hi hS hR hR2
    have hv : IvS B τ := fr_IvS hS.1 hS.2.1 hS.2.2.1 hv0
    have z : ¬ 5062 ≤ i := by omega
    have z1 : i < 5062 := by omega
    have z2 : 5062 * k + i < 10124 := by omega
    have e56 : gI τ (B + 56) = gI σ (B + 56) := hS.2.2.2.2.2.2.1 _ (by omega)
    rw [e_169_17]
    simp (disch := omega) only [e_169_18, e_169_21, e_169_24, e_169_25, e_169_28, e_169_31, e_169_32, e_169_33, e_169_34, e_169_35, e_169_36, e_169_39, e_169_40, e_169_41, e_169_42, e_169_45, n10, n01, Nat.lt_irrefl, Nat.not_lt_zero, ne_eq, Nat.add_zero, Nat.one_ne_zero, Nat.zero_ne_one, Nat.reduceEqDiff, bI_T, bI_F, bI_0, bI_1, bI_01, not_and_self, true_and, and_true, not_true_eq_false, not_false_eq_true, false_imp_iff, true_imp_iff, imp_self, gPv_n, gPv_i, gPv_r, gPv_0, Option.toList_some, Option.toList_none, List.singleton_append, List.cons_append, List.nil_append, List.length_nil, List.length_cons, Nat.zero_le, Nat.reduceAdd, Nat.reduceLeDiff, or_true, true_or, false_or, or_false, and_self, and_false, false_and, implies_true, Option.some.injEq, exists_eq_left', nL, nI_add, nI_mul, nI_clamp, nI_ltI, nI_leI, nI_eq, nI_pos, nI_pos', Nat.reduceAdd, Nat.reduceMul, Nat.reducePow, sk_54 hv, sr_54_2 hv, sr_54_3 hv, sr_54_4 hv, sr_54_5 hv, sr_54_7 hv, sr_54_8 hv, sr_54_9 hv, sr_54_12 hv, sr_54_13 hv, sr_54_14 hv, sr_54_22 hv, sr_54_25 hv, sr_54_26 hv, sr_54_27 hv, sr_54_34 hv, sr_54_35 hv, sr_54_36 hv, sr_54_37 hv, sr_54_38 hv, sr_54_40 hv, sr_54_43 hv, sr_54_44 hv, sr_54_45 hv, sr_54_46 hv, sr_54_47 hv, sk_56 hv, sn_56 hv, sk_57 hv, sn_57 hv, z, z1, z2, e56]
    refine ih (i + 1) _ (by omega) (Sm_I hS rfl) ?_ ?_
    · intro j hj
      by_cases g : j = i
      · rw [g, rI_eq]
      · rw [rI_nk (by omega)]; exact hR j (by omega)
    · intro x hx
      rw [rI_nk (by omega)]
      exact hR2 x hx
end
