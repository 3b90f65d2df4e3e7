/-! ways of the fewest visits: the model -/
section
variable {E : Nat → Nat} {n S : Nat}
theorem dy_nn {h dd : Nat} : dyO E n S h (dd + 1) = none ↔ (sq E n S dd).testBit h = false := by
  constructor
  · intro q
    exact fo_none _ _ q dd (by omega) (by omega)
  · intro q
    refine fo_0 ?_
    intro j _ hj
    cases c : (sq E n S j).testBit h
    · rfl
    · obtain ⟨k, rfl⟩ : ∃ k, dd = j + k := ⟨dd - j, by omega⟩
      rw [sq_up c k] at q
      exact absurd q (by simp)
theorem dy_frs {h dd : Nat} : dyO E n S h (dd + 1) = some dd ↔ (frs E n S dd).testBit h = true := by
  have p0 : (prv E n S dd).testBit h = false ↔ dyO E n S h dd = none := by
    cases dd with
    | zero => simp [prv, dyO, fo]
    | succ dd => exact dy_nn.symm
  rw [dy_s, tb_ad, Bool.and_eq_true, Bool.not_eq_true', p0]
  cases q : dyO E n S h dd with
  | none =>
    cases c : (sq E n S dd).testBit h <;> simp
  | some e =>
    have := dy_le q
    simp
    omega
def XO (E : Nat → Nat) (n f dd m j : Nat) : Option Nat := (dyO E n (2 ^ f) j (dd + 1)).or (if (orU (fun h => if (frs E n (2 ^ f) dd).testBit h = true then E h else 0) m).testBit j = true then some (dd + 1) else none)
theorem XO_0 {f dd j : Nat} : XO E n f dd 0 j = dyO E n (2 ^ f) j (dd + 1) := by
  rw [XO, orU, Nat.zero_testBit]
  simp
theorem XO_old {f dd m j e : Nat} (h : dyO E n (2 ^ f) j (dd + 1) = some e) : XO E n f dd m j = some e := by
  rw [XO, h]
  rfl
theorem XO_no {f dd m j : Nat} (h : ¬ ((frs E n (2 ^ f) dd).testBit m = true ∧ (E m).testBit j = true)) : XO E n f dd (m + 1) j = XO E n f dd m j := by
  have e : (orU (fun h => if (frs E n (2 ^ f) dd).testBit h = true then E h else 0) (m + 1)).testBit j = (orU (fun h => if (frs E n (2 ^ f) dd).testBit h = true then E h else 0) m).testBit j := by
    simp only [orU, Nat.testBit_or]
    by_cases c : (frs E n (2 ^ f) dd).testBit m = true
    · rw [if_pos c]
      cases c2 : (E m).testBit j
      · simp
      · exact absurd ⟨c, c2⟩ h
    · rw [if_neg c]
      simp
  rw [XO, XO, e]
theorem XO_ye {f dd m j : Nat} (h : (frs E n (2 ^ f) dd).testBit m = true ∧ (E m).testBit j = true) (hs : (sq E n (2 ^ f) dd).testBit j = false) : XO E n f dd (m + 1) j = some (dd + 1) := by
  have e : (orU (fun h => if (frs E n (2 ^ f) dd).testBit h = true then E h else 0) (m + 1)).testBit j = true := tb_orU.mpr ⟨m, by omega, by rw [if_pos h.1]; exact h.2⟩
  rw [XO, e, dy_nn.mpr hs]
  rfl
theorem XO_end {f dd j : Nat} : XO E n f dd n j = dyO E n (2 ^ f) j (dd + 1 + 1) := by
  rw [XO, dy_s (d := dd + 1)]
  cases q : dyO E n (2 ^ f) j (dd + 1) with
  | some e => rfl
  | none =>
    have s0 := dy_nn.mp q
    have e : (orU (fun h => if (frs E n (2 ^ f) dd).testBit h = true then E h else 0) n).testBit j = (sq E n (2 ^ f) (dd + 1)).testBit j := by
      rw [Bool.eq_iff_iff, tb_orU]
      show _ ↔ (sp1 E n (sq E n (2 ^ f) dd)).testBit j = true
      rw [tb_sp1]
      constructor
      · rintro ⟨h, h1, h2⟩
        by_cases c : (frs E n (2 ^ f) dd).testBit h = true
        · rw [if_pos c] at h2
          rw [tb_ad, Bool.and_eq_true] at c
          exact Or.inr ⟨h, h1, c.1, h2⟩
        · rw [if_neg c] at h2
          simp at h2
      · rintro (h | ⟨h, h1, h2, h3⟩)
        · rw [s0] at h; exact absurd h (by simp)
        · refine ⟨h, h1, ?_⟩
          have c : (frs E n (2 ^ f) dd).testBit h = true := by
            rw [tb_ad, h2]
            cases q2 : (prv E n (2 ^ f) dd).testBit h
            · rfl
            · rw [prv_cl h1 q2 h3] at s0
              exact absurd s0 (by simp)
          rw [if_pos c]
          exact h3
    rw [e]
theorem cs_n {e s : Nat} {C : Nat → Int32} (h0 : ∀ h, n ≤ h → E h = 0) : ∀ k j, cs E e s C (n + k) j = cs E e s C n j := by
  intro k
  induction k with
  | zero => intro j; rfl
  | succ k ih =>
    intro j
    rw [← Nat.add_assoc, cs_no (by rw [h0 (n + k) (by omega)]; simp)]
    exact ih j
end
section
variable {B : Nat} {σ : gS} {A : Nat → Int32} {d f : Nat} {Q : Option Value → gS → Prop} {E : Nat → Nat}
abbrev c9P (B a : Nat) : Prop := a = B + 69 ∨ a = B + 70
def CwI (B : Nat) (A : Nat → Int32) (E : Nat → Nat) (f dd h k : Nat) (τ : gS) : Prop := ∀ j, j < hn A → gI τ (B + 69) j = foI (XO E (hn A) f dd (if j < k then h + 1 else h) j) ∧ gI τ (B + 70) j = cs E (frs E (hn A) (2 ^ f) dd) (sq E (hn A) (2 ^ f) dd) (ct E (hn A) f dd) (if j < k then h + 1 else h) j
def M66 (B : Nat) (A : Nat → Int32) (E : Nat → Nat) (σ : gS) : Prop := ∀ a, a < hn A → gI σ (B + 66) a = nI (E a)
theorem CwI_n {dd h : Nat} {τ : gS} (hI : CwI B A E f dd h (hn A) τ) : CwI B A E f dd (h + 1) 0 τ := by
  intro j hj
  have := hI j hj
  rw [if_pos hj] at this
  rw [if_neg (by omega)]
  exact this
theorem CwI_k {dd h k : Nat} {τ : gS} (hI : CwI B A E f dd h k τ) (h1 : XO E (hn A) f dd (h + 1) k = XO E (hn A) f dd h k) (h2 : cs E (frs E (hn A) (2 ^ f) dd) (sq E (hn A) (2 ^ f) dd) (ct E (hn A) f dd) (h + 1) k = cs E (frs E (hn A) (2 ^ f) dd) (sq E (hn A) (2 ^ f) dd) (ct E (hn A) f dd) h k) : CwI B A E f dd h (k + 1) τ := by
  intro j hj
  by_cases q : j = k
  · subst q
    have := hI j hj
    rw [if_neg (by omega)] at this
    rw [if_pos (by omega), h1, h2]
    exact this
  · have := hI j hj
    by_cases q2 : j < k
    · rw [if_pos q2] at this
      rw [if_pos (by omega)]
      exact this
    · rw [if_neg q2] at this
      rw [if_neg (by omega)]
      exact this
set_option maxHeartbeats 1000000 in
theorem t_cw1 {dd h : Nat} (X : MX B σ A) (hE : EdG A E) (hM : M66 B A E σ) (hh : h < hn A) (hdd : dd < 12) (hfr : (frs E (hn A) (2 ^ f) dd).testBit h = true) (K : ∀ τ' x4, Sm (c9P B) σ τ' → CwI B A E f dd (h + 1) 0 τ' → wp (d + 1) pr_241 Q 163 [some (.ref (B + 54)), some (.int (nI f)), some (.int (nI dd)), some (.int (nI h)), x4] [] τ') : ∀ m k τ, k + m = hn A → Sm (c9P B) σ τ → CwI B A E f dd h k τ → wp (d + 1) pr_241 Q 71 [some (.ref (B + 54)), some (.int (nI f)), some (.int (nI dd)), some (.int (nI h)), some (.int (nI k))] [] τ := by
  have wh := X.2.2.1
  have h12 := hn_le wh
  have hn2 := hn_eq wh
  intro m
  induction m with
  | zero =>
    intro k τ hk hS hI
    obtain ⟨hv, hA, _⟩ := MX_S X hS (by omega)
    have e : k = hn A := by omega
    subst e
    simp (disch := omega) only [e_241_71, e_241_73, e_241_74, e_241_77, n10, n01, Nat.lt_irrefl, Nat.not_lt_zero, ne_eq, Nat.add_zero, Nat.one_ne_zero, Nat.zero_ne_one, Nat.reduceEqDiff, bI_T, bI_F, bI_0, bI_1, bI_01, not_and_self, true_and, and_true, not_true_eq_false, not_false_eq_true, false_imp_iff, true_imp_iff, imp_self, gPv_n, gPv_i, gPv_r, gPv_0, Option.toList_some, Option.toList_none, List.singleton_append, List.cons_append, List.nil_append, List.length_nil, List.length_cons, Nat.zero_le, Nat.reduceAdd, Nat.reduceLeDiff, or_true, true_or, false_or, or_false, and_self, and_false, false_and, implies_true, Option.some.injEq, exists_eq_left', nL, nI_add, nI_mul, nI_clamp, nI_ltI, nI_leI, nI_eq, nI_pos, nI_pos', Nat.reduceAdd, Nat.reduceMul, Nat.reducePow, sk_54 hv, sr_54_2 hv, sr_54_3 hv, sr_54_4 hv, sr_54_5 hv, sr_54_7 hv, sr_54_8 hv, sr_54_9 hv, sr_54_12 hv, sr_54_13 hv, sr_54_14 hv, sr_54_22 hv, sr_54_25 hv, sr_54_26 hv, sr_54_27 hv, sr_54_34 hv, sr_54_35 hv, sr_54_36 hv, sr_54_37 hv, sr_54_38 hv, sr_54_40 hv, sr_54_43 hv, sr_54_44 hv, sr_54_45 hv, sr_54_46 hv, sr_54_47 hv, t_houses hv, hA, hn2, Nat.le_refl]
    exact K τ _ hS (CwI_n hI)
  | succ m ih =>
    intro k τ hk hS hI
    obtain ⟨hv, hA, _⟩ := MX_S X hS (by omega)
    have z : ¬ hn A ≤ k := by omega
    have hkn : k < hn A := by omega
    have k12 : k < 12 := by omega
    have hh12 : h < 12 := by omega
    have e66 : gI τ (B + 66) h = nI (E h) := by rw [hS.2.2.2.2.2.2.1 _ (by omega)]; exact hM h hh
    have ol := hE.1 h
    have shs : (sq E (hn A) (2 ^ f) dd).testBit h = true := by
      rw [tb_ad, Bool.and_eq_true] at hfr
      exact hfr.1
    have r69 : gI τ (B + 69) h = nI dd := by rw [(hI h hh).1, XO_old (dy_frs.mpr hfr)]; rfl
    have r70 : gI τ (B + 70) h = ct E (hn A) f dd h := by rw [(hI h hh).2, cs_s shs]
    rw [e_241_71]
    cases ce : (E h).testBit k
    · simp (disch := omega) only [e_241_73, e_241_74, e_241_77, e_241_80, e_241_81, e_241_84, e_241_85, e_241_86, e_241_87, e_241_90, e_241_91, e_241_94, e_241_95, e_241_96, e_241_98, e_241_101, e_241_157, e_241_160, n10, n01, Nat.lt_irrefl, Nat.not_lt_zero, ne_eq, Nat.add_zero, Nat.one_ne_zero, Nat.zero_ne_one, Nat.reduceEqDiff, bI_T, bI_F, bI_0, bI_1, bI_01, not_and_self, true_and, and_true, not_true_eq_false, not_false_eq_true, false_imp_iff, true_imp_iff, imp_self, gPv_n, gPv_i, gPv_r, gPv_0, Option.toList_some, Option.toList_none, List.singleton_append, List.cons_append, List.nil_append, List.length_nil, List.length_cons, Nat.zero_le, Nat.reduceAdd, Nat.reduceLeDiff, or_true, true_or, false_or, or_false, and_self, and_false, false_and, implies_true, Option.some.injEq, exists_eq_left', nL, nI_add, nI_mul, nI_clamp, nI_ltI, nI_leI, nI_eq, nI_pos, nI_pos', Nat.reduceAdd, Nat.reduceMul, Nat.reducePow, sk_54 hv, sr_54_2 hv, sr_54_3 hv, sr_54_4 hv, sr_54_5 hv, sr_54_7 hv, sr_54_8 hv, sr_54_9 hv, sr_54_12 hv, sr_54_13 hv, sr_54_14 hv, sr_54_22 hv, sr_54_25 hv, sr_54_26 hv, sr_54_27 hv, sr_54_34 hv, sr_54_35 hv, sr_54_36 hv, sr_54_37 hv, sr_54_38 hv, sr_54_40 hv, sr_54_43 hv, sr_54_44 hv, sr_54_45 hv, sr_54_46 hv, sr_54_47 hv, sk_66 hv, sn_66 hv, sk_69 hv, sn_69 hv, t_houses hv, hA, hn2, z, t_isIn, e66, ce, hh12, r69, Bool.false_eq_true]
      refine ih (k + 1) τ (by omega) hS (CwI_k hI (XO_no ?_) (cs_no ?_))
      · rw [ce]; simp
      · rw [ce]; simp
    · cases cs' : (sq E (hn A) (2 ^ f) dd).testBit k
      · have st : ∀ x4 : Option Value, wp (d + 1) pr_241 Q 131 [some (.ref (B + 54)), some (.int (nI f)), some (.int (nI dd)), some (.int (nI h)), some (.int (nI k))] [] τ := by
          intro _
          have rk := (hI k hkn).2
          rw [if_neg (by omega)] at rk
          have r70' : gI (sI τ (B + 69) k (nI (dd + 1))) (B + 70) h = ct E (hn A) f dd h := by rw [rI_ne (by omega)]; exact r70
          simp (disch := omega) only [e_241_131, e_241_132, e_241_135, e_241_137, e_241_138, e_241_139, e_241_140, e_241_141, e_241_142, e_241_145, e_241_147, e_241_148, e_241_149, e_241_150, e_241_153, e_241_154, e_241_155, e_241_156, e_241_157, e_241_160, n10, n01, Nat.lt_irrefl, Nat.not_lt_zero, ne_eq, Nat.add_zero, Nat.one_ne_zero, Nat.zero_ne_one, Nat.reduceEqDiff, bI_T, bI_F, bI_0, bI_1, bI_01, not_and_self, true_and, and_true, not_true_eq_false, not_false_eq_true, false_imp_iff, true_imp_iff, imp_self, gPv_n, gPv_i, gPv_r, gPv_0, Option.toList_some, Option.toList_none, List.singleton_append, List.cons_append, List.nil_append, List.length_nil, List.length_cons, Nat.zero_le, Nat.reduceAdd, Nat.reduceLeDiff, or_true, true_or, false_or, or_false, and_self, and_false, false_and, implies_true, Option.some.injEq, exists_eq_left', nL, nI_add, nI_mul, nI_clamp, nI_ltI, nI_leI, nI_eq, nI_pos, nI_pos', Nat.reduceAdd, Nat.reduceMul, Nat.reducePow, sk_54 hv, sr_54_2 hv, sr_54_3 hv, sr_54_4 hv, sr_54_5 hv, sr_54_7 hv, sr_54_8 hv, sr_54_9 hv, sr_54_12 hv, sr_54_13 hv, sr_54_14 hv, sr_54_22 hv, sr_54_25 hv, sr_54_26 hv, sr_54_27 hv, sr_54_34 hv, sr_54_35 hv, sr_54_36 hv, sr_54_37 hv, sr_54_38 hv, sr_54_40 hv, sr_54_43 hv, sr_54_44 hv, sr_54_45 hv, sr_54_46 hv, sr_54_47 hv, sk_69 hv, sn_69 hv, sk_70 hv, sn_70 hv, n_K_I, n_K_J, n_K_R, n_K_r, n_N_I, n_N_J, n_N_R, n_N_r, n_R_I, n_R_J, n_R_r, n_J_I, n_J_R, n_J_r, n_I_J, n_I_R, n_n_I, n_n_J, n_n_R, n_n_r, n_w_I, n_w_J, n_w_R, n_w_r, n_T_I, n_T_J, n_T_R, n_T_r, rI_ne, rI_nk, rI_eq, rr_ne, rr_eq, n_J_J, n_R_R, Nat.add_left_cancel_iff, Nat.add_right_cancel_iff, Nat.add_eq_left, Nat.left_eq_add, Nat.reduceEqDiff, Nat.reduceAdd, Nat.zero_ne_one, Nat.one_ne_zero, false_and, and_false, true_and, and_true, and_self, if_false, if_true, ↓reduceIte, k12, hh12, rk, r70]
          refine ih (k + 1) _ (by omega) (Sm_I (Sm_I hS (Or.inl rfl)) (Or.inr rfl)) ?_
          intro j hj
          by_cases q : j = k
          · subst q
            rw [rI_ne (by omega), rI_eq, rI_eq, if_pos (by omega), XO_ye ⟨hfr, ce⟩ cs', cs_ye ⟨hfr, ce, cs'⟩]
            exact ⟨rfl, rfl⟩
          · rw [rI_ne (by omega), rI_nk q, rI_nk q, rI_ne (by omega)]
            have := hI j hj
            by_cases q2 : j < k
            · rw [if_pos q2] at this
              rw [if_pos (by omega)]
              exact this
            · rw [if_neg q2] at this
              rw [if_neg (by omega)]
              exact this
        have rk := (hI k hkn).1
        rw [if_neg (by omega), XO, dy_nn.mpr cs', Option.none_or] at rk
        by_cases cx : (orU (fun h => if (frs E (hn A) (2 ^ f) dd).testBit h = true then E h else 0) h).testBit k = true
        · rw [if_pos cx] at rk
          have rk : gI τ (B + 69) k = nI (dd + 1) := rk
          have n1 : ¬ nI (dd + 1) = -nI 1 := fun z => ng_ne 1 (dd + 1) (by omega) (by omega) (by omega) z.symm
          simp (disch := omega) only [e_241_73, e_241_74, e_241_77, e_241_80, e_241_81, e_241_84, e_241_85, e_241_86, e_241_87, e_241_90, e_241_91, e_241_94, e_241_95, e_241_96, e_241_98, e_241_101, e_241_104, e_241_105, e_241_108, e_241_110, e_241_111, e_241_112, e_241_115, e_241_116, e_241_119, e_241_121, e_241_122, e_241_123, e_241_124, e_241_125, e_241_128, n10, n01, Nat.lt_irrefl, Nat.not_lt_zero, ne_eq, Nat.add_zero, Nat.one_ne_zero, Nat.zero_ne_one, Nat.reduceEqDiff, bI_T, bI_F, bI_0, bI_1, bI_01, not_and_self, true_and, and_true, not_true_eq_false, not_false_eq_true, false_imp_iff, true_imp_iff, imp_self, gPv_n, gPv_i, gPv_r, gPv_0, Option.toList_some, Option.toList_none, List.singleton_append, List.cons_append, List.nil_append, List.length_nil, List.length_cons, Nat.zero_le, Nat.reduceAdd, Nat.reduceLeDiff, or_true, true_or, false_or, or_false, and_self, and_false, false_and, implies_true, Option.some.injEq, exists_eq_left', nL, nI_add, nI_mul, nI_clamp, nI_ltI, nI_leI, nI_eq, nI_pos, nI_pos', Nat.reduceAdd, Nat.reduceMul, Nat.reducePow, sk_54 hv, sr_54_2 hv, sr_54_3 hv, sr_54_4 hv, sr_54_5 hv, sr_54_7 hv, sr_54_8 hv, sr_54_9 hv, sr_54_12 hv, sr_54_13 hv, sr_54_14 hv, sr_54_22 hv, sr_54_25 hv, sr_54_26 hv, sr_54_27 hv, sr_54_34 hv, sr_54_35 hv, sr_54_36 hv, sr_54_37 hv, sr_54_38 hv, sr_54_40 hv, sr_54_43 hv, sr_54_44 hv, sr_54_45 hv, sr_54_46 hv, sr_54_47 hv, sk_66 hv, sn_66 hv, sk_69 hv, sn_69 hv, t_houses hv, hA, hn2, z, t_isIn, e66, ce, hh12, k12, r69, rk, n1]
          exact st none
        · rw [if_neg cx] at rk
          have rk : gI τ (B + 69) k = -nI 1 := rk
          simp (disch := omega) only [e_241_73, e_241_74, e_241_77, e_241_80, e_241_81, e_241_84, e_241_85, e_241_86, e_241_87, e_241_90, e_241_91, e_241_94, e_241_95, e_241_96, e_241_98, e_241_101, e_241_104, e_241_105, e_241_108, e_241_110, e_241_111, e_241_112, e_241_115, e_241_116, e_241_119, e_241_121, e_241_122, e_241_123, e_241_124, e_241_125, e_241_128, n10, n01, Nat.lt_irrefl, Nat.not_lt_zero, ne_eq, Nat.add_zero, Nat.one_ne_zero, Nat.zero_ne_one, Nat.reduceEqDiff, bI_T, bI_F, bI_0, bI_1, bI_01, not_and_self, true_and, and_true, not_true_eq_false, not_false_eq_true, false_imp_iff, true_imp_iff, imp_self, gPv_n, gPv_i, gPv_r, gPv_0, Option.toList_some, Option.toList_none, List.singleton_append, List.cons_append, List.nil_append, List.length_nil, List.length_cons, Nat.zero_le, Nat.reduceAdd, Nat.reduceLeDiff, or_true, true_or, false_or, or_false, and_self, and_false, false_and, implies_true, Option.some.injEq, exists_eq_left', nL, nI_add, nI_mul, nI_clamp, nI_ltI, nI_leI, nI_eq, nI_pos, nI_pos', Nat.reduceAdd, Nat.reduceMul, Nat.reducePow, sk_54 hv, sr_54_2 hv, sr_54_3 hv, sr_54_4 hv, sr_54_5 hv, sr_54_7 hv, sr_54_8 hv, sr_54_9 hv, sr_54_12 hv, sr_54_13 hv, sr_54_14 hv, sr_54_22 hv, sr_54_25 hv, sr_54_26 hv, sr_54_27 hv, sr_54_34 hv, sr_54_35 hv, sr_54_36 hv, sr_54_37 hv, sr_54_38 hv, sr_54_40 hv, sr_54_43 hv, sr_54_44 hv, sr_54_45 hv, sr_54_46 hv, sr_54_47 hv, sk_66 hv, sn_66 hv, sk_69 hv, sn_69 hv, t_houses hv, hA, hn2, z, t_isIn, e66, ce, hh12, k12, r69, rk]
          exact st none
      · obtain ⟨e, he⟩ : ∃ e, dyO E (hn A) (2 ^ f) k (dd + 1) = some e := by
          cases q : dyO E (hn A) (2 ^ f) k (dd + 1) with
          | some e => exact ⟨e, rfl⟩
          | none =>
            rw [dy_nn.mp q] at cs'
            exact absurd cs' (by simp)
        have hlt := dy_le he
        have rk : gI τ (B + 69) k = nI e := by rw [(hI k hkn).1, XO_old he]; rfl
        have n1 : ¬ nI e = -nI 1 := fun z => ng_ne 1 e (by omega) (by omega) (by omega) z.symm
        have n2 : ¬ e = dd + 1 := by omega
        simp (disch := omega) only [e_241_73, e_241_74, e_241_77, e_241_80, e_241_81, e_241_84, e_241_85, e_241_86, e_241_87, e_241_90, e_241_91, e_241_94, e_241_95, e_241_96, e_241_98, e_241_101, e_241_104, e_241_105, e_241_108, e_241_110, e_241_111, e_241_112, e_241_115, e_241_116, e_241_119, e_241_121, e_241_122, e_241_123, e_241_124, e_241_125, e_241_128, e_241_157, e_241_160, n10, n01, Nat.lt_irrefl, Nat.not_lt_zero, ne_eq, Nat.add_zero, Nat.one_ne_zero, Nat.zero_ne_one, Nat.reduceEqDiff, bI_T, bI_F, bI_0, bI_1, bI_01, not_and_self, true_and, and_true, not_true_eq_false, not_false_eq_true, false_imp_iff, true_imp_iff, imp_self, gPv_n, gPv_i, gPv_r, gPv_0, Option.toList_some, Option.toList_none, List.singleton_append, List.cons_append, List.nil_append, List.length_nil, List.length_cons, Nat.zero_le, Nat.reduceAdd, Nat.reduceLeDiff, or_true, true_or, false_or, or_false, and_self, and_false, false_and, implies_true, Option.some.injEq, exists_eq_left', nL, nI_add, nI_mul, nI_clamp, nI_ltI, nI_leI, nI_eq, nI_pos, nI_pos', Nat.reduceAdd, Nat.reduceMul, Nat.reducePow, sk_54 hv, sr_54_2 hv, sr_54_3 hv, sr_54_4 hv, sr_54_5 hv, sr_54_7 hv, sr_54_8 hv, sr_54_9 hv, sr_54_12 hv, sr_54_13 hv, sr_54_14 hv, sr_54_22 hv, sr_54_25 hv, sr_54_26 hv, sr_54_27 hv, sr_54_34 hv, sr_54_35 hv, sr_54_36 hv, sr_54_37 hv, sr_54_38 hv, sr_54_40 hv, sr_54_43 hv, sr_54_44 hv, sr_54_45 hv, sr_54_46 hv, sr_54_47 hv, sk_66 hv, sn_66 hv, sk_69 hv, sn_69 hv, t_houses hv, hA, hn2, z, t_isIn, e66, ce, hh12, k12, r69, rk, n1, n2]
        refine ih (k + 1) τ (by omega) hS (CwI_k hI ?_ ?_)
        · rw [XO_old he, XO_old he]
        · rw [cs_s cs', cs_s cs']
theorem t_cw2 {dd : Nat} (X : MX B σ A) (hE : EdG A E) (hM : M66 B A E σ) (hdd : dd < 12) (K : ∀ τ' x3 x4, Sm (c9P B) σ τ' → CwI B A E f dd (hn A) 0 τ' → wp (d + 1) pr_241 Q 169 [some (.ref (B + 54)), some (.int (nI f)), some (.int (nI dd)), x3, x4] [] τ') : ∀ m h τ x4, h + m = hn A → Sm (c9P B) σ τ → CwI B A E f dd h 0 τ → wp (d + 1) pr_241 Q 60 [some (.ref (B + 54)), some (.int (nI f)), some (.int (nI dd)), some (.int (nI h)), x4] [] τ := by
  have wh := X.2.2.1
  have h12 := hn_le wh
  have hn2 := hn_eq wh
  intro m
  induction m with
  | zero =>
    intro h τ x4 hk hS hI
    obtain ⟨hv, hA, _⟩ := MX_S X hS (by omega)
    have e : h = hn A := by omega
    subst e
    simp (disch := omega) only [e_241_60, e_241_61, e_241_62, e_241_65, n10, n01, Nat.lt_irrefl, Nat.not_lt_zero, ne_eq, Nat.add_zero, Nat.one_ne_zero, Nat.zero_ne_one, Nat.reduceEqDiff, bI_T, bI_F, bI_0, bI_1, bI_01, not_and_self, true_and, and_true, not_true_eq_false, not_false_eq_true, false_imp_iff, true_imp_iff, imp_self, gPv_n, gPv_i, gPv_r, gPv_0, Option.toList_some, Option.toList_none, List.singleton_append, List.cons_append, List.nil_append, List.length_nil, List.length_cons, Nat.zero_le, Nat.reduceAdd, Nat.reduceLeDiff, or_true, true_or, false_or, or_false, and_self, and_false, false_and, implies_true, Option.some.injEq, exists_eq_left', nL, nI_add, nI_mul, nI_clamp, nI_ltI, nI_leI, nI_eq, nI_pos, nI_pos', Nat.reduceAdd, Nat.reduceMul, Nat.reducePow, sk_54 hv, sr_54_2 hv, sr_54_3 hv, sr_54_4 hv, sr_54_5 hv, sr_54_7 hv, sr_54_8 hv, sr_54_9 hv, sr_54_12 hv, sr_54_13 hv, sr_54_14 hv, sr_54_22 hv, sr_54_25 hv, sr_54_26 hv, sr_54_27 hv, sr_54_34 hv, sr_54_35 hv, sr_54_36 hv, sr_54_37 hv, sr_54_38 hv, sr_54_40 hv, sr_54_43 hv, sr_54_44 hv, sr_54_45 hv, sr_54_46 hv, sr_54_47 hv, t_houses hv, hA, hn2, Nat.le_refl]
    exact K τ _ _ hS hI
  | succ m ih =>
    intro h τ x4 hk hS hI
    obtain ⟨hv, hA, _⟩ := MX_S X hS (by omega)
    have z : ¬ hn A ≤ h := by omega
    have z0 : ¬ hn A ≤ 0 := by omega
    have hh : h < hn A := by omega
    have hh12 : h < 12 := by omega
    have go : ∀ τ' x4, Sm (c9P B) σ τ' → CwI B A E f dd (h + 1) 0 τ' → wp (d + 1) pr_241 Q 163 [some (.ref (B + 54)), some (.int (nI f)), some (.int (nI dd)), some (.int (nI h)), x4] [] τ' := by
      intro τ' x4 hS' hI'
      simp (disch := omega) only [e_241_163, e_241_166, n10, n01, Nat.lt_irrefl, Nat.not_lt_zero, ne_eq, Nat.add_zero, Nat.one_ne_zero, Nat.zero_ne_one, Nat.reduceEqDiff, bI_T, bI_F, bI_0, bI_1, bI_01, not_and_self, true_and, and_true, not_true_eq_false, not_false_eq_true, false_imp_iff, true_imp_iff, imp_self, gPv_n, gPv_i, gPv_r, gPv_0, Option.toList_some, Option.toList_none, List.singleton_append, List.cons_append, List.nil_append, List.length_nil, List.length_cons, Nat.zero_le, Nat.reduceAdd, Nat.reduceLeDiff, or_true, true_or, false_or, or_false, and_self, and_false, false_and, implies_true, Option.some.injEq, exists_eq_left', nL, nI_add]
      exact ih (h + 1) τ' _ (by omega) hS' hI'
    rw [e_241_60]
    cases ce : (frs E (hn A) (2 ^ f) dd).testBit h
    · have rh := (hI h hh).1
      rw [if_neg (by omega)] at rh
      have ne : ¬ gI τ (B + 69) h = nI dd := by
        rw [rh]
        cases q : XO E (hn A) f dd h h with
        | none => exact fun z => ng_ne 1 dd (by omega) (by omega) (by omega) z
        | some e =>
          show ¬ nI e = nI dd
          intro z
          have hx := q
          rw [XO] at hx
          cases q2 : dyO E (hn A) (2 ^ f) h (dd + 1) with
          | some e' =>
            rw [q2] at hx
            have hx : e' = e := by simpa using hx
            have := dy_le q2
            rw [nI_eq (by omega) (by omega)] at z
            rw [hx, z] at q2
            rw [dy_frs.mp q2] at ce
            exact absurd ce (by simp)
          | none =>
            rw [q2, Option.none_or] at hx
            by_cases c : (orU (fun h => if (frs E (hn A) (2 ^ f) dd).testBit h = true then E h else 0) h).testBit h = true
            · rw [if_pos c] at hx
              have hx : dd + 1 = e := by simpa using hx
              rw [nI_eq (by omega) (by omega)] at z
              omega
            · rw [if_neg c] at hx
              exact absurd hx (by simp)
      simp (disch := omega) only [e_241_61, e_241_62, e_241_65, e_241_68, e_241_69, e_241_71, e_241_73, e_241_74, e_241_77, e_241_80, e_241_81, e_241_84, e_241_85, e_241_86, e_241_87, n10, n01, Nat.lt_irrefl, Nat.not_lt_zero, ne_eq, Nat.add_zero, Nat.one_ne_zero, Nat.zero_ne_one, Nat.reduceEqDiff, bI_T, bI_F, bI_0, bI_1, bI_01, not_and_self, true_and, and_true, not_true_eq_false, not_false_eq_true, false_imp_iff, true_imp_iff, imp_self, gPv_n, gPv_i, gPv_r, gPv_0, Option.toList_some, Option.toList_none, List.singleton_append, List.cons_append, List.nil_append, List.length_nil, List.length_cons, Nat.zero_le, Nat.reduceAdd, Nat.reduceLeDiff, or_true, true_or, false_or, or_false, and_self, and_false, false_and, implies_true, Option.some.injEq, exists_eq_left', nL, nI_add, nI_mul, nI_clamp, nI_ltI, nI_leI, nI_eq, nI_pos, nI_pos', Nat.reduceAdd, Nat.reduceMul, Nat.reducePow, sk_54 hv, sr_54_2 hv, sr_54_3 hv, sr_54_4 hv, sr_54_5 hv, sr_54_7 hv, sr_54_8 hv, sr_54_9 hv, sr_54_12 hv, sr_54_13 hv, sr_54_14 hv, sr_54_22 hv, sr_54_25 hv, sr_54_26 hv, sr_54_27 hv, sr_54_34 hv, sr_54_35 hv, sr_54_36 hv, sr_54_37 hv, sr_54_38 hv, sr_54_40 hv, sr_54_43 hv, sr_54_44 hv, sr_54_45 hv, sr_54_46 hv, sr_54_47 hv, sk_69 hv, sn_69 hv, t_houses hv, hA, hn2, z, z0, hh12, ne]
      refine go τ _ hS ?_
      intro j hj
      have := hI j hj
      rw [if_neg (by omega)] at this ⊢
      rw [XO_no (by rw [ce]; simp), cs_no (by rw [ce]; simp)]
      exact this
    · simp (disch := omega) only [e_241_61, e_241_62, e_241_65, e_241_68, e_241_69, n10, n01, Nat.lt_irrefl, Nat.not_lt_zero, ne_eq, Nat.add_zero, Nat.one_ne_zero, Nat.zero_ne_one, Nat.reduceEqDiff, bI_T, bI_F, bI_0, bI_1, bI_01, not_and_self, true_and, and_true, not_true_eq_false, not_false_eq_true, false_imp_iff, true_imp_iff, imp_self, gPv_n, gPv_i, gPv_r, gPv_0, Option.toList_some, Option.toList_none, List.singleton_append, List.cons_append, List.nil_append, List.length_nil, List.length_cons, Nat.zero_le, Nat.reduceAdd, Nat.reduceLeDiff, or_true, true_or, false_or, or_false, and_self, and_false, false_and, implies_true, Option.some.injEq, exists_eq_left', nL, nI_add, nI_mul, nI_clamp, nI_ltI, nI_leI, nI_eq, nI_pos, nI_pos', Nat.reduceAdd, Nat.reduceMul, Nat.reducePow, sk_54 hv, sr_54_2 hv, sr_54_3 hv, sr_54_4 hv, sr_54_5 hv, sr_54_7 hv, sr_54_8 hv, sr_54_9 hv, sr_54_12 hv, sr_54_13 hv, sr_54_14 hv, sr_54_22 hv, sr_54_25 hv, sr_54_26 hv, sr_54_27 hv, sr_54_34 hv, sr_54_35 hv, sr_54_36 hv, sr_54_37 hv, sr_54_38 hv, sr_54_40 hv, sr_54_43 hv, sr_54_44 hv, sr_54_45 hv, sr_54_46 hv, sr_54_47 hv, t_houses hv, hA, hn2, z]
      exact t_cw1 X hE hM hh hdd ce go (hn A) 0 τ (by omega) hS hI
def CwN (B : Nat) (A : Nat → Int32) (E : Nat → Nat) (f dd : Nat) (τ : gS) : Prop := ∀ j, j < hn A → gI τ (B + 69) j = foI (dyO E (hn A) (2 ^ f) j (dd + 1)) ∧ gI τ (B + 70) j = ct E (hn A) f dd j
theorem t_cw3 (X : MX B σ A) (hE : EdG A E) (hM : M66 B A E σ) (K : ∀ τ', Sm (c9P B) σ τ' → CwN B A E f (hn A) τ' → Q none τ') : ∀ m dd τ x3 x4, dd + m = hn A → Sm (c9P B) σ τ → CwN B A E f dd τ → wp (d + 1) pr_241 Q 50 [some (.ref (B + 54)), some (.int (nI f)), some (.int (nI dd)), x3, x4] [] τ := by
  have wh := X.2.2.1
  have h12 := hn_le wh
  have hn2 := hn_eq wh
  intro m
  induction m with
  | zero =>
    intro dd τ x3 x4 hk hS hI
    obtain ⟨hv, hA, _⟩ := MX_S X hS (by omega)
    have e : dd = hn A := by omega
    subst e
    simp (disch := omega) only [e_241_50, e_241_51, e_241_52, e_241_55, e_241_175, n10, n01, Nat.lt_irrefl, Nat.not_lt_zero, ne_eq, Nat.add_zero, Nat.one_ne_zero, Nat.zero_ne_one, Nat.reduceEqDiff, bI_T, bI_F, bI_0, bI_1, bI_01, not_and_self, true_and, and_true, not_true_eq_false, not_false_eq_true, false_imp_iff, true_imp_iff, imp_self, gPv_n, gPv_i, gPv_r, gPv_0, Option.toList_some, Option.toList_none, List.singleton_append, List.cons_append, List.nil_append, List.length_nil, List.length_cons, Nat.zero_le, Nat.reduceAdd, Nat.reduceLeDiff, or_true, true_or, false_or, or_false, and_self, and_false, false_and, implies_true, Option.some.injEq, exists_eq_left', nL, nI_add, nI_mul, nI_clamp, nI_ltI, nI_leI, nI_eq, nI_pos, nI_pos', Nat.reduceAdd, Nat.reduceMul, Nat.reducePow, sk_54 hv, sr_54_2 hv, sr_54_3 hv, sr_54_4 hv, sr_54_5 hv, sr_54_7 hv, sr_54_8 hv, sr_54_9 hv, sr_54_12 hv, sr_54_13 hv, sr_54_14 hv, sr_54_22 hv, sr_54_25 hv, sr_54_26 hv, sr_54_27 hv, sr_54_34 hv, sr_54_35 hv, sr_54_36 hv, sr_54_37 hv, sr_54_38 hv, sr_54_40 hv, sr_54_43 hv, sr_54_44 hv, sr_54_45 hv, sr_54_46 hv, sr_54_47 hv, t_houses hv, hA, hn2, Nat.le_refl]
    exact K τ hS hI
  | succ m ih =>
    intro dd τ x3 x4 hk hS hI
    obtain ⟨hv, hA, _⟩ := MX_S X hS (by omega)
    have z : ¬ hn A ≤ dd := by omega
    rw [e_241_50]
    simp (disch := omega) only [e_241_51, e_241_52, e_241_55, e_241_58, e_241_59, n10, n01, Nat.lt_irrefl, Nat.not_lt_zero, ne_eq, Nat.add_zero, Nat.one_ne_zero, Nat.zero_ne_one, Nat.reduceEqDiff, bI_T, bI_F, bI_0, bI_1, bI_01, not_and_self, true_and, and_true, not_true_eq_false, not_false_eq_true, false_imp_iff, true_imp_iff, imp_self, gPv_n, gPv_i, gPv_r, gPv_0, Option.toList_some, Option.toList_none, List.singleton_append, List.cons_append, List.nil_append, List.length_nil, List.length_cons, Nat.zero_le, Nat.reduceAdd, Nat.reduceLeDiff, or_true, true_or, false_or, or_false, and_self, and_false, false_and, implies_true, Option.some.injEq, exists_eq_left', nL, nI_add, nI_mul, nI_clamp, nI_ltI, nI_leI, nI_eq, nI_pos, nI_pos', Nat.reduceAdd, Nat.reduceMul, Nat.reducePow, sk_54 hv, sr_54_2 hv, sr_54_3 hv, sr_54_4 hv, sr_54_5 hv, sr_54_7 hv, sr_54_8 hv, sr_54_9 hv, sr_54_12 hv, sr_54_13 hv, sr_54_14 hv, sr_54_22 hv, sr_54_25 hv, sr_54_26 hv, sr_54_27 hv, sr_54_34 hv, sr_54_35 hv, sr_54_36 hv, sr_54_37 hv, sr_54_38 hv, sr_54_40 hv, sr_54_43 hv, sr_54_44 hv, sr_54_45 hv, sr_54_46 hv, sr_54_47 hv, t_houses hv, hA, hn2, z]
    refine t_cw2 X hE hM (by omega) ?_ (hn A) 0 τ _ (by omega) hS ?_
    · intro τ' x3 x4 hS' hI'
      simp (disch := omega) only [e_241_169, e_241_172, n10, n01, Nat.lt_irrefl, Nat.not_lt_zero, ne_eq, Nat.add_zero, Nat.one_ne_zero, Nat.zero_ne_one, Nat.reduceEqDiff, bI_T, bI_F, bI_0, bI_1, bI_01, not_and_self, true_and, and_true, not_true_eq_false, not_false_eq_true, false_imp_iff, true_imp_iff, imp_self, gPv_n, gPv_i, gPv_r, gPv_0, Option.toList_some, Option.toList_none, List.singleton_append, List.cons_append, List.nil_append, List.length_nil, List.length_cons, Nat.zero_le, Nat.reduceAdd, Nat.reduceLeDiff, or_true, true_or, false_or, or_false, and_self, and_false, false_and, implies_true, Option.some.injEq, exists_eq_left', nL, nI_add]
      refine ih (dd + 1) τ' _ _ (by omega) hS' ?_
      intro j hj
      have := hI' j hj
      rw [if_neg (by omega), XO_end] at this
      refine ⟨this.1, this.2.trans ?_⟩
      obtain ⟨k, hk⟩ : ∃ k, 12 = hn A + k := ⟨12 - hn A, by omega⟩
      rw [ct, hk, cs_n hE.2.1]
    · intro j hj
      rw [if_neg (by omega), XO_0]
      exact hI j hj
theorem t_cw0 (X : MX B σ A) (K : ∀ τ' x2 x3 x4, Sm (c9P B) σ τ' → CwN B A E f 0 τ' → wp (d + 1) pr_241 Q 48 [some (.ref (B + 54)), some (.int (nI f)), x2, x3, x4] [] τ') (hf : f < hn A) : ∀ m h τ x3 x4, h + m = hn A → Sm (c9P B) σ τ → (∀ j, j < h → gI τ (B + 69) j = (if j = f then nI 0 else -nI 1) ∧ gI τ (B + 70) j = (if j = f then nI 1 else nI 0)) → wp (d + 1) pr_241 Q 2 [some (.ref (B + 54)), some (.int (nI f)), some (.int (nI h)), x3, x4] [] τ := by
  have wh := X.2.2.1
  have h12 := hn_le wh
  have hn2 := hn_eq wh
  intro m
  induction m with
  | zero =>
    intro h τ x3 x4 hh hS hR
    obtain ⟨hv, hA, _⟩ := MX_S X hS (by omega)
    have z : hn A ≤ h := by omega
    simp (disch := omega) only [e_241_2, e_241_3, e_241_4, e_241_7, n10, n01, Nat.lt_irrefl, Nat.not_lt_zero, ne_eq, Nat.add_zero, Nat.one_ne_zero, Nat.zero_ne_one, Nat.reduceEqDiff, bI_T, bI_F, bI_0, bI_1, bI_01, not_and_self, true_and, and_true, not_true_eq_false, not_false_eq_true, false_imp_iff, true_imp_iff, imp_self, gPv_n, gPv_i, gPv_r, gPv_0, Option.toList_some, Option.toList_none, List.singleton_append, List.cons_append, List.nil_append, List.length_nil, List.length_cons, Nat.zero_le, Nat.reduceAdd, Nat.reduceLeDiff, or_true, true_or, false_or, or_false, and_self, and_false, false_and, implies_true, Option.some.injEq, exists_eq_left', nL, nI_add, nI_mul, nI_clamp, nI_ltI, nI_leI, nI_eq, nI_pos, nI_pos', Nat.reduceAdd, Nat.reduceMul, Nat.reducePow, sk_54 hv, sr_54_2 hv, sr_54_3 hv, sr_54_4 hv, sr_54_5 hv, sr_54_7 hv, sr_54_8 hv, sr_54_9 hv, sr_54_12 hv, sr_54_13 hv, sr_54_14 hv, sr_54_22 hv, sr_54_25 hv, sr_54_26 hv, sr_54_27 hv, sr_54_34 hv, sr_54_35 hv, sr_54_36 hv, sr_54_37 hv, sr_54_38 hv, sr_54_40 hv, sr_54_43 hv, sr_54_44 hv, sr_54_45 hv, sr_54_46 hv, sr_54_47 hv, t_houses hv, hA, hn2, z]
    refine K τ _ _ _ hS ?_
    intro j hj
    obtain ⟨r1, r2⟩ := hR j (by omega)
    have e : (sq E (hn A) (2 ^ f) 0).testBit j = decide (f = j) := Nat.testBit_two_pow
    rw [r1, r2, dyO, fo, e]
    by_cases c : j = f
    · rw [c]
      simp [ct, foI]
    · have c' : ¬ f = j := fun z => c z.symm
      simp [c, c', fo, ct, foI]
  | succ m ih =>
    intro h τ x3 x4 hh hS hR
    obtain ⟨hv, hA, _⟩ := MX_S X hS (by omega)
    have z : ¬ hn A ≤ h := by omega
    have hh12 : h < 12 := by omega
    have f12 : f < 12 := by omega
    rw [e_241_2]
    by_cases c : h = f
    · subst c
      simp (disch := omega) only [e_241_3, e_241_4, e_241_7, e_241_10, e_241_11, e_241_14, e_241_15, e_241_16, e_241_17, e_241_20, e_241_21, e_241_24, e_241_25, e_241_26, e_241_27, e_241_30, e_241_31, e_241_32, e_241_33, e_241_36, e_241_37, e_241_40, e_241_41, e_241_42, e_241_45, n10, n01, Nat.lt_irrefl, Nat.not_lt_zero, ne_eq, Nat.add_zero, Nat.one_ne_zero, Nat.zero_ne_one, Nat.reduceEqDiff, bI_T, bI_F, bI_0, bI_1, bI_01, not_and_self, true_and, and_true, not_true_eq_false, not_false_eq_true, false_imp_iff, true_imp_iff, imp_self, gPv_n, gPv_i, gPv_r, gPv_0, Option.toList_some, Option.toList_none, List.singleton_append, List.cons_append, List.nil_append, List.length_nil, List.length_cons, Nat.zero_le, Nat.reduceAdd, Nat.reduceLeDiff, or_true, true_or, false_or, or_false, and_self, and_false, false_and, implies_true, Option.some.injEq, exists_eq_left', nL, nI_add, nI_mul, nI_clamp, nI_ltI, nI_leI, nI_eq, nI_pos, nI_pos', Nat.reduceAdd, Nat.reduceMul, Nat.reducePow, sk_54 hv, sr_54_2 hv, sr_54_3 hv, sr_54_4 hv, sr_54_5 hv, sr_54_7 hv, sr_54_8 hv, sr_54_9 hv, sr_54_12 hv, sr_54_13 hv, sr_54_14 hv, sr_54_22 hv, sr_54_25 hv, sr_54_26 hv, sr_54_27 hv, sr_54_34 hv, sr_54_35 hv, sr_54_36 hv, sr_54_37 hv, sr_54_38 hv, sr_54_40 hv, sr_54_43 hv, sr_54_44 hv, sr_54_45 hv, sr_54_46 hv, sr_54_47 hv, sk_69 hv, sn_69 hv, sk_70 hv, sn_70 hv, n_K_I, n_K_J, n_K_R, n_K_r, n_N_I, n_N_J, n_N_R, n_N_r, n_R_I, n_R_J, n_R_r, n_J_I, n_J_R, n_J_r, n_I_J, n_I_R, n_n_I, n_n_J, n_n_R, n_n_r, n_w_I, n_w_J, n_w_R, n_w_r, n_T_I, n_T_J, n_T_R, n_T_r, rI_ne, rI_nk, rI_eq, rr_ne, rr_eq, n_J_J, n_R_R, Nat.add_left_cancel_iff, Nat.add_right_cancel_iff, Nat.add_eq_left, Nat.left_eq_add, Nat.reduceEqDiff, Nat.reduceAdd, Nat.zero_ne_one, Nat.one_ne_zero, false_and, and_false, true_and, and_true, and_self, if_false, if_true, ↓reduceIte, t_houses hv, hA, hn2, z, hh12]
      refine ih (h + 1) _ _ _ (by omega) (Sm_I (Sm_I hS (Or.inl rfl)) (Or.inr rfl)) ?_
      intro j hj
      by_cases q : j = h
      · subst q
        rw [if_pos rfl, if_pos rfl, rI_ne (by omega), rI_eq, rI_eq]
        exact ⟨rfl, rfl⟩
      · rw [rI_ne (by omega), rI_nk q, rI_nk q, rI_ne (by omega)]
        exact hR j (by omega)
    · simp (disch := omega) only [e_241_3, e_241_4, e_241_7, e_241_10, e_241_11, e_241_14, e_241_15, e_241_16, e_241_17, e_241_20, e_241_21, e_241_24, e_241_25, e_241_26, e_241_27, e_241_30, e_241_31, e_241_32, e_241_33, e_241_36, e_241_37, e_241_40, e_241_41, e_241_42, e_241_45, n10, n01, Nat.lt_irrefl, Nat.not_lt_zero, ne_eq, Nat.add_zero, Nat.one_ne_zero, Nat.zero_ne_one, Nat.reduceEqDiff, bI_T, bI_F, bI_0, bI_1, bI_01, not_and_self, true_and, and_true, not_true_eq_false, not_false_eq_true, false_imp_iff, true_imp_iff, imp_self, gPv_n, gPv_i, gPv_r, gPv_0, Option.toList_some, Option.toList_none, List.singleton_append, List.cons_append, List.nil_append, List.length_nil, List.length_cons, Nat.zero_le, Nat.reduceAdd, Nat.reduceLeDiff, or_true, true_or, false_or, or_false, and_self, and_false, false_and, implies_true, Option.some.injEq, exists_eq_left', nL, nI_add, nI_mul, nI_clamp, nI_ltI, nI_leI, nI_eq, nI_pos, nI_pos', Nat.reduceAdd, Nat.reduceMul, Nat.reducePow, sk_54 hv, sr_54_2 hv, sr_54_3 hv, sr_54_4 hv, sr_54_5 hv, sr_54_7 hv, sr_54_8 hv, sr_54_9 hv, sr_54_12 hv, sr_54_13 hv, sr_54_14 hv, sr_54_22 hv, sr_54_25 hv, sr_54_26 hv, sr_54_27 hv, sr_54_34 hv, sr_54_35 hv, sr_54_36 hv, sr_54_37 hv, sr_54_38 hv, sr_54_40 hv, sr_54_43 hv, sr_54_44 hv, sr_54_45 hv, sr_54_46 hv, sr_54_47 hv, sk_69 hv, sn_69 hv, sk_70 hv, sn_70 hv, n_K_I, n_K_J, n_K_R, n_K_r, n_N_I, n_N_J, n_N_R, n_N_r, n_R_I, n_R_J, n_R_r, n_J_I, n_J_R, n_J_r, n_I_J, n_I_R, n_n_I, n_n_J, n_n_R, n_n_r, n_w_I, n_w_J, n_w_R, n_w_r, n_T_I, n_T_J, n_T_R, n_T_r, rI_ne, rI_nk, rI_eq, rr_ne, rr_eq, n_J_J, n_R_R, Nat.add_left_cancel_iff, Nat.add_right_cancel_iff, Nat.add_eq_left, Nat.left_eq_add, Nat.reduceEqDiff, Nat.reduceAdd, Nat.zero_ne_one, Nat.one_ne_zero, false_and, and_false, true_and, and_true, and_self, if_false, if_true, ↓reduceIte, t_houses hv, hA, hn2, z, hh12, c]
      refine ih (h + 1) _ _ _ (by omega) (Sm_I (Sm_I hS (Or.inl rfl)) (Or.inr rfl)) ?_
      intro j hj
      by_cases q : j = h
      · subst q
        rw [if_neg c, if_neg c, rI_ne (by omega), rI_eq, rI_eq]
        exact ⟨rfl, rfl⟩
      · rw [rI_ne (by omega), rI_nk q, rI_nk q, rI_ne (by omega)]
        exact hR j (by omega)
theorem t_counts (X : MX B σ A) (hE : EdG A E) (hM : M66 B A E σ) (hf : f < hn A) (K : ∀ τ', Sm (c9P B) σ τ' → CwN B A E f (hn A) τ' → Q none τ') : wc (d + 2) 241 [.ref (B + 54), .int (nI f)] σ Q := by
  simp (disch := omega) only [c_241, e_241_0, e_241_1, n10, n01, Nat.lt_irrefl, Nat.not_lt_zero, ne_eq, Nat.add_zero, Nat.one_ne_zero, Nat.zero_ne_one, Nat.reduceEqDiff, bI_T, bI_F, bI_0, bI_1, bI_01, not_and_self, true_and, and_true, not_true_eq_false, not_false_eq_true, false_imp_iff, true_imp_iff, imp_self, gPv_n, gPv_i, gPv_r, gPv_0, Option.toList_some, Option.toList_none, List.singleton_append, List.cons_append, List.nil_append, List.length_nil, List.length_cons, Nat.zero_le, Nat.reduceAdd, Nat.reduceLeDiff, or_true, true_or, false_or, or_false, and_self, and_false, false_and, implies_true, Option.some.injEq, exists_eq_left', nL]
  refine t_cw0 (E := E) X ?_ hf (hn A) 0 σ _ _ (by omega) (Sm_refl _ _) (fun j hj => absurd hj (by omega))
  intro τ x2 x3 x4 hS hN
  simp (disch := omega) only [e_241_48, e_241_49, n10, n01, Nat.lt_irrefl, Nat.not_lt_zero, ne_eq, Nat.add_zero, Nat.one_ne_zero, Nat.zero_ne_one, Nat.reduceEqDiff, bI_T, bI_F, bI_0, bI_1, bI_01, not_and_self, true_and, and_true, not_true_eq_false, not_false_eq_true, false_imp_iff, true_imp_iff, imp_self, gPv_n, gPv_i, gPv_r, gPv_0, Option.toList_some, Option.toList_none, List.singleton_append, List.cons_append, List.nil_append, List.length_nil, List.length_cons, Nat.zero_le, Nat.reduceAdd, Nat.reduceLeDiff, or_true, true_or, false_or, or_false, and_self, and_false, false_and, implies_true, Option.some.injEq, exists_eq_left', nL]
  exact t_cw3 X hE hM K (hn A) 0 τ _ _ (by omega) hS hN
end
