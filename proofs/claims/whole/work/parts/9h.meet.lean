/-! meet -/
section
variable {A : Nat → Int32}
def dM (A : Nat → Int32) (a b : Nat) : Nat := if fl (mM A) 12 a b < 16777216 then fl (mM A) 12 a b / 64 else 1000000
theorem dM_le {a b : Nat} : dM A a b ≤ 1000000 := by
  rw [dM]
  split <;> omega
theorem sT_dM {a b : Nat} : sT A a b = if dM A a b = 1000000 then -nI 1 else nI (dM A a b) := by
  rw [sT, dM]
  by_cases c : fl (mM A) 12 a b < 16777216
  · rw [if_pos c, if_pos c, if_neg (show ¬ fl (mM A) 12 a b / 64 = 1000000 by omega)]
  · rw [if_neg c, if_neg c, if_pos rfl]
theorem al_dM {a b : Nat} {α β : Nat → Nat} (wh : Wh A) (ha : a < hn A) (hb : b < hn A) (hO : DsO A b α β) : (if St A a = true ∧ St A b = true then α a else 1000000) = dM A a b := by
  by_cases c : St A a = true ∧ St A b = true
  · rw [if_pos c]
    have hs : sM A b = true := (sM_St hb).trans c.2
    rcases DsO_lw wh hO ha with ⟨q1, q2⟩ | ⟨q1, q2⟩
    · have := fl_nw q2
      rw [dM, if_neg (show ¬ fl (mM A) 12 a b < 16777216 by omega)]
      exact q1
    · have f1 := fl_yes wh hs ha q2
      obtain ⟨c1, c2⟩ := Lw_b wh ha q2
      rw [dM, f1, if_pos (show 64 * α a + β a < 16777216 by omega)]
      omega
  · rw [if_neg c]
    have : sM A a = false ∨ sM A b = false := by
      rw [sM_St ha, sM_St hb]
      cases h1 : St A a
      · exact Or.inl rfl
      · cases h2 : St A b
        · exact Or.inr rfl
        · exact absurd ⟨h1, h2⟩ c
    have := fl_ns this
    rw [dM, if_neg (show ¬ fl (mM A) 12 a b < 16777216 by omega)]
end
section
variable {B : Nat} {own : Nat → Nat} {σ : gS} {A : Nat → Int32} {d v : Nat} {Q : Option Value → gS → Prop}
abbrev lbP (B a : Nat) : Prop := a = B + 71 ∨ a = B + 72 ∨ a = B + 76
def LbI (B : Nat) (A : Nat → Int32) (i j : Nat) (τ : gS) : Prop := ∀ a b, a < hn A → b < hn A → (b < i ∨ b = i ∧ a < j) → gI τ (B + 76) (12 * a + b) = nI (dM A a b)
theorem t_lb1 {i : Nat} {α β : Nat → Nat} (X : MX B σ A) (hi : i < hn A) (hD : DsI B A i α β σ) (hO : DsO A i α β) (K : ∀ τ' x2, Sm (fun a => a = B + 76) σ τ' → LbI B A (i + 1) 0 τ' → wp (d + 2) pr_263 Q 69 [some (.ref (B + 54)), some (.int (nI i)), x2] [] τ') : ∀ m j τ, j + m = hn A → Sm (fun a => a = B + 76) σ τ → LbI B A i j τ → wp (d + 2) pr_263 Q 17 [some (.ref (B + 54)), some (.int (nI i)), some (.int (nI j))] [] τ := by
  have wh := X.2.2.1
  have h12 := hn_le wh
  have hn2 := hn_eq wh
  intro m
  induction m with
  | zero =>
    intro j τ hj hS hI
    obtain ⟨hv, hA, _⟩ := MX_S X hS (by omega)
    have z : hn A ≤ j := by omega
    simp (disch := omega) only [e_263_17, e_263_18, e_263_19, e_263_22, n10, n01, Nat.lt_irrefl, Nat.not_lt_zero, ne_eq, Nat.add_zero, Nat.one_ne_zero, Nat.zero_ne_one, Nat.reduceEqDiff, bI_T, bI_F, bI_0, bI_1, bI_01, not_and_self, true_and, and_true, not_true_eq_false, not_false_eq_true, false_imp_iff, true_imp_iff, imp_self, gPv_n, gPv_i, gPv_r, gPv_0, Option.toList_some, Option.toList_none, List.singleton_append, List.cons_append, List.nil_append, List.length_nil, List.length_cons, Nat.zero_le, Nat.reduceAdd, Nat.reduceLeDiff, or_true, true_or, false_or, or_false, and_self, and_false, false_and, implies_true, Option.some.injEq, exists_eq_left', nL, nI_add, nI_mul, nI_clamp, nI_ltI, nI_leI, nI_eq, nI_pos, nI_pos', Nat.reduceAdd, Nat.reduceMul, Nat.reducePow, sk_54 hv, sr_54_2 hv, sr_54_3 hv, sr_54_4 hv, sr_54_5 hv, sr_54_7 hv, sr_54_8 hv, sr_54_9 hv, sr_54_12 hv, sr_54_13 hv, sr_54_14 hv, sr_54_22 hv, sr_54_25 hv, sr_54_26 hv, sr_54_27 hv, sr_54_34 hv, sr_54_35 hv, sr_54_36 hv, sr_54_37 hv, sr_54_38 hv, sr_54_40 hv, sr_54_43 hv, sr_54_44 hv, sr_54_45 hv, sr_54_46 hv, sr_54_47 hv, t_houses hv, hA, hn2, z]
    refine K τ _ hS ?_
    intro a b ha hb hab
    exact hI a b ha hb (by omega)
  | succ m ih =>
    intro j τ hj hS hI
    obtain ⟨hv, hA, _⟩ := MX_S X hS (by omega)
    have z : ¬ hn A ≤ j := by omega
    have hjn : j < hn A := by omega
    have j12 : j < 12 := by omega
    have i12 : i < 12 := by omega
    have z1 : 12 * j + i < 144 := by omega
    have r71 : gI τ (B + 71) j = nI (α j) := by rw [hS.2.2.2.2.2.2.1 _ (by omega)]; exact (hD.1 j hjn).1
    have key := al_dM wh hjn hi hO
    have nx : ∀ x : Int32, x = nI (dM A j i) → LbI B A i (j + 1) (sI τ (B + 76) (12 * j + i) x) := by
      intro x hx a b ha hb hab
      by_cases q : a = j ∧ b = i
      · rw [q.1, q.2, rI_eq, hx]
      · rw [rI_nk (by omega)]
        exact hI a b ha hb (by omega)
    rw [e_263_17]
    cases c1 : St A j
    · rw [if_neg (by rw [c1]; simp)] at key
      simp (disch := omega) only [e_263_18, e_263_19, e_263_22, e_263_25, e_263_26, e_263_29, e_263_31, e_263_32, e_263_33, e_263_34, e_263_35, e_263_36, e_263_37, e_263_40, e_263_43, e_263_44, e_263_45, e_263_48, e_263_51, e_263_52, e_263_55, e_263_56, e_263_57, e_263_60, e_263_62, e_263_63, e_263_66, n10, n01, Nat.lt_irrefl, Nat.not_lt_zero, ne_eq, Nat.add_zero, Nat.one_ne_zero, Nat.zero_ne_one, Nat.reduceEqDiff, bI_T, bI_F, bI_0, bI_1, bI_01, not_and_self, true_and, and_true, not_true_eq_false, not_false_eq_true, false_imp_iff, true_imp_iff, imp_self, gPv_n, gPv_i, gPv_r, gPv_0, Option.toList_some, Option.toList_none, List.singleton_append, List.cons_append, List.nil_append, List.length_nil, List.length_cons, Nat.zero_le, Nat.reduceAdd, Nat.reduceLeDiff, or_true, true_or, false_or, or_false, and_self, and_false, false_and, implies_true, Option.some.injEq, exists_eq_left', nL, nI_add, nI_mul, nI_clamp, nI_ltI, nI_leI, nI_eq, nI_pos, nI_pos', Nat.reduceAdd, Nat.reduceMul, Nat.reducePow, sk_54 hv, sr_54_2 hv, sr_54_3 hv, sr_54_4 hv, sr_54_5 hv, sr_54_7 hv, sr_54_8 hv, sr_54_9 hv, sr_54_12 hv, sr_54_13 hv, sr_54_14 hv, sr_54_22 hv, sr_54_25 hv, sr_54_26 hv, sr_54_27 hv, sr_54_34 hv, sr_54_35 hv, sr_54_36 hv, sr_54_37 hv, sr_54_38 hv, sr_54_40 hv, sr_54_43 hv, sr_54_44 hv, sr_54_45 hv, sr_54_46 hv, sr_54_47 hv, sk_76 hv, sn_76 hv, t_houses hv, t_stands hv, hA, hn2, z, z1, c1, Bool.false_eq_true]
      exact ih (j + 1) _ (by omega) (Sm_I hS rfl) (nx _ (by rw [← key]))
    · cases c2 : St A i
      · rw [if_neg (by rw [c2]; simp)] at key
        simp (disch := omega) only [e_263_18, e_263_19, e_263_22, e_263_25, e_263_26, e_263_29, e_263_31, e_263_32, e_263_33, e_263_34, e_263_35, e_263_36, e_263_37, e_263_40, e_263_43, e_263_44, e_263_45, e_263_48, e_263_51, e_263_52, e_263_55, e_263_56, e_263_57, e_263_60, e_263_62, e_263_63, e_263_66, n10, n01, Nat.lt_irrefl, Nat.not_lt_zero, ne_eq, Nat.add_zero, Nat.one_ne_zero, Nat.zero_ne_one, Nat.reduceEqDiff, bI_T, bI_F, bI_0, bI_1, bI_01, not_and_self, true_and, and_true, not_true_eq_false, not_false_eq_true, false_imp_iff, true_imp_iff, imp_self, gPv_n, gPv_i, gPv_r, gPv_0, Option.toList_some, Option.toList_none, List.singleton_append, List.cons_append, List.nil_append, List.length_nil, List.length_cons, Nat.zero_le, Nat.reduceAdd, Nat.reduceLeDiff, or_true, true_or, false_or, or_false, and_self, and_false, false_and, implies_true, Option.some.injEq, exists_eq_left', nL, nI_add, nI_mul, nI_clamp, nI_ltI, nI_leI, nI_eq, nI_pos, nI_pos', Nat.reduceAdd, Nat.reduceMul, Nat.reducePow, sk_54 hv, sr_54_2 hv, sr_54_3 hv, sr_54_4 hv, sr_54_5 hv, sr_54_7 hv, sr_54_8 hv, sr_54_9 hv, sr_54_12 hv, sr_54_13 hv, sr_54_14 hv, sr_54_22 hv, sr_54_25 hv, sr_54_26 hv, sr_54_27 hv, sr_54_34 hv, sr_54_35 hv, sr_54_36 hv, sr_54_37 hv, sr_54_38 hv, sr_54_40 hv, sr_54_43 hv, sr_54_44 hv, sr_54_45 hv, sr_54_46 hv, sr_54_47 hv, sk_76 hv, sn_76 hv, t_houses hv, t_stands hv, hA, hn2, z, z1, c1, c2, Bool.false_eq_true]
        exact ih (j + 1) _ (by omega) (Sm_I hS rfl) (nx _ (by rw [← key]))
      · rw [if_pos ⟨c1, c2⟩] at key
        simp (disch := omega) only [e_263_18, e_263_19, e_263_22, e_263_25, e_263_26, e_263_29, e_263_31, e_263_32, e_263_33, e_263_34, e_263_35, e_263_36, e_263_37, e_263_40, e_263_43, e_263_44, e_263_45, e_263_48, e_263_51, e_263_52, e_263_55, e_263_56, e_263_57, e_263_60, e_263_62, e_263_63, e_263_66, n10, n01, Nat.lt_irrefl, Nat.not_lt_zero, ne_eq, Nat.add_zero, Nat.one_ne_zero, Nat.zero_ne_one, Nat.reduceEqDiff, bI_T, bI_F, bI_0, bI_1, bI_01, not_and_self, true_and, and_true, not_true_eq_false, not_false_eq_true, false_imp_iff, true_imp_iff, imp_self, gPv_n, gPv_i, gPv_r, gPv_0, Option.toList_some, Option.toList_none, List.singleton_append, List.cons_append, List.nil_append, List.length_nil, List.length_cons, Nat.zero_le, Nat.reduceAdd, Nat.reduceLeDiff, or_true, true_or, false_or, or_false, and_self, and_false, false_and, implies_true, Option.some.injEq, exists_eq_left', nL, nI_add, nI_mul, nI_clamp, nI_ltI, nI_leI, nI_eq, nI_pos, nI_pos', Nat.reduceAdd, Nat.reduceMul, Nat.reducePow, sk_54 hv, sr_54_2 hv, sr_54_3 hv, sr_54_4 hv, sr_54_5 hv, sr_54_7 hv, sr_54_8 hv, sr_54_9 hv, sr_54_12 hv, sr_54_13 hv, sr_54_14 hv, sr_54_22 hv, sr_54_25 hv, sr_54_26 hv, sr_54_27 hv, sr_54_34 hv, sr_54_35 hv, sr_54_36 hv, sr_54_37 hv, sr_54_38 hv, sr_54_40 hv, sr_54_43 hv, sr_54_44 hv, sr_54_45 hv, sr_54_46 hv, sr_54_47 hv, sk_71 hv, sn_71 hv, sk_76 hv, sn_76 hv, t_houses hv, t_stands hv, hA, hn2, z, z1, c1, c2, j12, r71]
        exact ih (j + 1) _ (by omega) (Sm_I hS rfl) (nx _ (by rw [← key]))
theorem t_lb2 (X : MX B σ A) (hM : M67 B A σ) (K : ∀ τ', Sm (lbP B) σ τ' → LbI B A (hn A) 0 τ' → Q none τ') : ∀ m i τ x2, i + m = hn A → Sm (lbP B) σ τ → LbI B A i 0 τ → wp (d + 2) pr_263 Q 2 [some (.ref (B + 54)), some (.int (nI i)), x2] [] τ := by
  have wh := X.2.2.1
  have h12 := hn_le wh
  have hn2 := hn_eq wh
  intro m
  induction m with
  | zero =>
    intro i τ x2 hi hS hI
    obtain ⟨hv, hA, _⟩ := MX_S X hS (by omega)
    have e : i = hn A := by omega
    subst e
    simp (disch := omega) only [e_263_2, e_263_3, e_263_4, e_263_7, e_263_75, n10, n01, Nat.lt_irrefl, Nat.not_lt_zero, ne_eq, Nat.add_zero, Nat.one_ne_zero, Nat.zero_ne_one, Nat.reduceEqDiff, bI_T, bI_F, bI_0, bI_1, bI_01, not_and_self, true_and, and_true, not_true_eq_false, not_false_eq_true, false_imp_iff, true_imp_iff, imp_self, gPv_n, gPv_i, gPv_r, gPv_0, Option.toList_some, Option.toList_none, List.singleton_append, List.cons_append, List.nil_append, List.length_nil, List.length_cons, Nat.zero_le, Nat.reduceAdd, Nat.reduceLeDiff, or_true, true_or, false_or, or_false, and_self, and_false, false_and, implies_true, Option.some.injEq, exists_eq_left', nL, nI_add, nI_mul, nI_clamp, nI_ltI, nI_leI, nI_eq, nI_pos, nI_pos', Nat.reduceAdd, Nat.reduceMul, Nat.reducePow, sk_54 hv, sr_54_2 hv, sr_54_3 hv, sr_54_4 hv, sr_54_5 hv, sr_54_7 hv, sr_54_8 hv, sr_54_9 hv, sr_54_12 hv, sr_54_13 hv, sr_54_14 hv, sr_54_22 hv, sr_54_25 hv, sr_54_26 hv, sr_54_27 hv, sr_54_34 hv, sr_54_35 hv, sr_54_36 hv, sr_54_37 hv, sr_54_38 hv, sr_54_40 hv, sr_54_43 hv, sr_54_44 hv, sr_54_45 hv, sr_54_46 hv, sr_54_47 hv, t_houses hv, hA, hn2, Nat.le_refl]
    exact K τ hS hI
  | succ m ih =>
    intro i τ x2 hi hS hI
    have X1 := MX_S X hS (by omega)
    obtain ⟨hv, hA, _⟩ := id X1
    have z : ¬ hn A ≤ i := by omega
    have M1 : M67 B A τ := M67_S hM hS (fun a ha => by simp only [lbP] at ha; omega)
    rw [e_263_2]
    simp (disch := omega) only [e_263_3, e_263_4, e_263_7, e_263_10, e_263_11, e_263_12, n10, n01, Nat.lt_irrefl, Nat.not_lt_zero, ne_eq, Nat.add_zero, Nat.one_ne_zero, Nat.zero_ne_one, Nat.reduceEqDiff, bI_T, bI_F, bI_0, bI_1, bI_01, not_and_self, true_and, and_true, not_true_eq_false, not_false_eq_true, false_imp_iff, true_imp_iff, imp_self, gPv_n, gPv_i, gPv_r, gPv_0, Option.toList_some, Option.toList_none, List.singleton_append, List.cons_append, List.nil_append, List.length_nil, List.length_cons, Nat.zero_le, Nat.reduceAdd, Nat.reduceLeDiff, or_true, true_or, false_or, or_false, and_self, and_false, false_and, implies_true, Option.some.injEq, exists_eq_left', nL, nI_add, nI_mul, nI_clamp, nI_ltI, nI_leI, nI_eq, nI_pos, nI_pos', Nat.reduceAdd, Nat.reduceMul, Nat.reducePow, sk_54 hv, sr_54_2 hv, sr_54_3 hv, sr_54_4 hv, sr_54_5 hv, sr_54_7 hv, sr_54_8 hv, sr_54_9 hv, sr_54_12 hv, sr_54_13 hv, sr_54_14 hv, sr_54_22 hv, sr_54_25 hv, sr_54_26 hv, sr_54_27 hv, sr_54_34 hv, sr_54_35 hv, sr_54_36 hv, sr_54_37 hv, sr_54_38 hv, sr_54_40 hv, sr_54_43 hv, sr_54_44 hv, sr_54_45 hv, sr_54_46 hv, sr_54_47 hv, t_houses hv, hA, hn2, z]
    refine t_dist (d := d) X1 M1 (by omega) ?_
    intro τ2 α β hS2 hD hO
    have X2 := MX_S X1 hS2 (by omega)
    have hS02 : Sm (lbP B) σ τ2 := Sm_trans hS (Sm_mono hS2 (fun a ha => by simp only [dsP, lbP] at *; omega))
    simp (disch := omega) only [e_263_15, e_263_16, n10, n01, Nat.lt_irrefl, Nat.not_lt_zero, ne_eq, Nat.add_zero, Nat.one_ne_zero, Nat.zero_ne_one, Nat.reduceEqDiff, bI_T, bI_F, bI_0, bI_1, bI_01, not_and_self, true_and, and_true, not_true_eq_false, not_false_eq_true, false_imp_iff, true_imp_iff, imp_self, gPv_n, gPv_i, gPv_r, gPv_0, Option.toList_some, Option.toList_none, List.singleton_append, List.cons_append, List.nil_append, List.length_nil, List.length_cons, Nat.zero_le, Nat.reduceAdd, Nat.reduceLeDiff, or_true, true_or, false_or, or_false, and_self, and_false, false_and, implies_true, Option.some.injEq, exists_eq_left', nL]
    refine t_lb1 (d := d) X2 (by omega) hD hO ?_ (hn A) 0 τ2 (by omega) (Sm_refl _ _) ?_
    · intro τ3 x2 hS3 hI3
      simp (disch := omega) only [e_263_69, e_263_72, n10, n01, Nat.lt_irrefl, Nat.not_lt_zero, ne_eq, Nat.add_zero, Nat.one_ne_zero, Nat.zero_ne_one, Nat.reduceEqDiff, bI_T, bI_F, bI_0, bI_1, bI_01, not_and_self, true_and, and_true, not_true_eq_false, not_false_eq_true, false_imp_iff, true_imp_iff, imp_self, gPv_n, gPv_i, gPv_r, gPv_0, Option.toList_some, Option.toList_none, List.singleton_append, List.cons_append, List.nil_append, List.length_nil, List.length_cons, Nat.zero_le, Nat.reduceAdd, Nat.reduceLeDiff, or_true, true_or, false_or, or_false, and_self, and_false, false_and, implies_true, Option.some.injEq, exists_eq_left', nL, nI_add]
      exact ih (i + 1) τ3 _ (by omega) (Sm_trans hS02 (Sm_mono hS3 (fun a ha => by simp only [lbP]; omega))) hI3
    · intro a b ha hb hab
      rw [hS2.2.2.2.2.2.2.1 _ (by omega)]
      exact hI a b ha hb hab
def LbO (B : Nat) (A : Nat → Int32) (τ : gS) : Prop := ∀ a b, a < hn A → b < hn A → gI τ (B + 76) (12 * a + b) = nI (dM A a b)
theorem t_layB (X : MX B σ A) (hM : M67 B A σ) (K : ∀ τ', Sm (lbP B) σ τ' → LbO B A τ' → Q none τ') : wc (d + 3) 263 [.ref (B + 54)] σ Q := by
  simp (disch := omega) only [c_263, e_263_0, e_263_1, n10, n01, Nat.lt_irrefl, Nat.not_lt_zero, ne_eq, Nat.add_zero, Nat.one_ne_zero, Nat.zero_ne_one, Nat.reduceEqDiff, bI_T, bI_F, bI_0, bI_1, bI_01, not_and_self, true_and, and_true, not_true_eq_false, not_false_eq_true, false_imp_iff, true_imp_iff, imp_self, gPv_n, gPv_i, gPv_r, gPv_0, Option.toList_some, Option.toList_none, List.singleton_append, List.cons_append, List.nil_append, List.length_nil, List.length_cons, Nat.zero_le, Nat.reduceAdd, Nat.reduceLeDiff, or_true, true_or, false_or, or_false, and_self, and_false, false_and, implies_true, Option.some.injEq, exists_eq_left', nL]
  refine t_lb2 X hM ?_ (hn A) 0 σ _ (by omega) (Sm_refl _ _) (fun a b _ _ q => absurd q (by omega))
  intro τ' hS hI
  exact K τ' hS (fun a b ha hb => hI a b ha hb (Or.inl hb))
/-- the place where two meet: place, the later's time, the sum -/
def mp (D : Nat → Nat → Nat) (x y : Nat) : Nat → Option (Nat × Nat × Nat)
  | 0 => none
  | i + 1 => if 1000000 ≤ max (D x i) (D y i) then mp D x y i else match mp D x y i with
    | none => some (i, max (D x i) (D y i), D x i + D y i)
    | some (p, L, S) => if max (D x i) (D y i) < L ∨ max (D x i) (D y i) = L ∧ D x i + D y i < S then some (i, max (D x i) (D y i), D x i + D y i) else some (p, L, S)
theorem mp_ok {D : Nat → Nat → Nat} {x y : Nat} : ∀ i p L S, mp D x y i = some (p, L, S) → p < i ∧ L = max (D x p) (D y p) ∧ S = D x p + D y p ∧ L < 1000000 := by
  intro i
  induction i with
  | zero => intro p L S h; exact absurd h (by simp [mp])
  | succ i ih =>
    intro p L S h
    rw [mp] at h
    by_cases c : 1000000 ≤ max (D x i) (D y i)
    · rw [if_pos c] at h
      obtain ⟨h1, h2⟩ := ih p L S h
      exact ⟨by omega, h2⟩
    · rw [if_neg c] at h
      cases q : mp D x y i with
      | none =>
        rw [q] at h
        simp only [Option.some.injEq, Prod.mk.injEq] at h
        obtain ⟨rfl, rfl, rfl⟩ := h
        exact ⟨by omega, rfl, rfl, by omega⟩
      | some z =>
        obtain ⟨p', L', S'⟩ := z
        rw [q] at h
        simp only at h
        by_cases c2 : max (D x i) (D y i) < L' ∨ max (D x i) (D y i) = L' ∧ D x i + D y i < S'
        · rw [if_pos c2] at h
          simp only [Option.some.injEq, Prod.mk.injEq] at h
          obtain ⟨rfl, rfl, rfl⟩ := h
          exact ⟨by omega, rfl, rfl, by omega⟩
        · rw [if_neg c2] at h
          simp only [Option.some.injEq, Prod.mk.injEq] at h
          obtain ⟨rfl, rfl, rfl⟩ := h
          obtain ⟨h1, h2⟩ := ih _ _ _ q
          exact ⟨by omega, h2⟩
def mpI (o : Option (Nat × Nat × Nat)) : Int32 := match o with
  | none => -nI 1
  | some (p, _, _) => nI p
def mpc (w : Nat) (o : Option (Nat × Nat × Nat)) : Nat × Nat := match o with
  | none => (w, w)
  | some (_, L, S) => (L, S)
theorem s_mp {x y : Nat} (hc : Ctx B own σ A) (hM : MsO B A σ) (hx : x < 12) (hy : y < 12) (K : Q (some (.int (mpI (mp (dM A) x y (hn A))))) σ) : ∀ m i x7 x8 x9 x10, i + m = hn A → wp (d + 3) pr_98 Q 11 [some (.ref (B + 25)), some (.int (nI x)), some (.int (nI y)), some (.int (mpI (mp (dM A) x y i))), some (.int (nI (mpc 0 (mp (dM A) x y i)).1)), some (.int (nI (mpc 0 (mp (dM A) x y i)).2)), some (.int (nI i)), x7, x8, x9, x10] [] σ := by
  have hv := hc.1
  have wh : Wh A := hc.2.1.1.1
  have h12 := hn_le wh
  have hn2 := hn_eq wh
  have e5 : gI σ (B + 1) 5 = A 250 := hc.2.1.2.1.1.1
  intro m
  induction m with
  | zero =>
    intro i x7 x8 x9 x10 hi
    have e : i = hn A := by omega
    subst e
    simp (disch := omega) only [e_98_11, e_98_13, e_98_14, e_98_17, e_98_20, e_98_123, e_98_124, n10, n01, Nat.lt_irrefl, Nat.not_lt_zero, ne_eq, Nat.add_zero, Nat.one_ne_zero, Nat.zero_ne_one, Nat.reduceEqDiff, bI_T, bI_F, bI_0, bI_1, bI_01, not_and_self, true_and, and_true, not_true_eq_false, not_false_eq_true, false_imp_iff, true_imp_iff, imp_self, gPv_n, gPv_i, gPv_r, gPv_0, Option.toList_some, Option.toList_none, List.singleton_append, List.cons_append, List.nil_append, List.length_nil, List.length_cons, Nat.zero_le, Nat.reduceAdd, Nat.reduceLeDiff, or_true, true_or, false_or, or_false, and_self, and_false, false_and, implies_true, Option.some.injEq, exists_eq_left', nL, nI_add, nI_mul, nI_clamp, nI_ltI, nI_leI, nI_eq, nI_pos, nI_pos', Nat.reduceAdd, Nat.reduceMul, Nat.reducePow, sk_1 hv, sr_1_0 hv, sr_1_1 hv, sr_1_2 hv, sr_1_3 hv, sr_1_4 hv, sr_1_7 hv, sr_1_9 hv, sr_1_14 hv, sr_1_15 hv, sr_1_16 hv, sk_25 hv, sr_25_0 hv, sr_25_1 hv, sr_25_2 hv, sr_25_3 hv, sr_25_4 hv, sr_25_5 hv, e5, hn2, Nat.le_refl]
    exact K
  | succ m ih =>
    intro i x7 x8 x9 x10 hi
    have z : ¬ hn A ≤ i := by omega
    have i12 : i < 12 := by omega
    have l1 := dM_le (A := A) (a := x) (b := i)
    have l2 := dM_le (A := A) (a := y) (b := i)
    have ih := ih (i + 1)
    rw [mp] at ih
    have s1 := sT_dM (A := A) (a := x) (b := i)
    have s2 := sT_dM (A := A) (a := y) (b := i)
    rw [e_98_11]
    by_cases c1 : dM A x i = 1000000
    · rw [if_pos c1] at s1
      rw [if_pos (by omega)] at ih
      simp (disch := omega) only [e_98_13, e_98_14, e_98_17, e_98_20, e_98_23, e_98_24, e_98_25, e_98_27, e_98_30, e_98_32, e_98_33, e_98_34, e_98_36, e_98_39, e_98_41, e_98_43, e_98_44, e_98_117, e_98_120, n10, n01, Nat.lt_irrefl, Nat.not_lt_zero, ne_eq, Nat.add_zero, Nat.one_ne_zero, Nat.zero_ne_one, Nat.reduceEqDiff, bI_T, bI_F, bI_0, bI_1, bI_01, not_and_self, true_and, and_true, not_true_eq_false, not_false_eq_true, false_imp_iff, true_imp_iff, imp_self, gPv_n, gPv_i, gPv_r, gPv_0, Option.toList_some, Option.toList_none, List.singleton_append, List.cons_append, List.nil_append, List.length_nil, List.length_cons, Nat.zero_le, Nat.reduceAdd, Nat.reduceLeDiff, or_true, true_or, false_or, or_false, and_self, and_false, false_and, implies_true, Option.some.injEq, exists_eq_left', nL, nI_add, nI_mul, nI_clamp, nI_ltI, nI_leI, nI_eq, nI_pos, nI_pos', Nat.reduceAdd, Nat.reduceMul, Nat.reducePow, sk_1 hv, sr_1_0 hv, sr_1_1 hv, sr_1_2 hv, sr_1_3 hv, sr_1_4 hv, sr_1_7 hv, sr_1_9 hv, sr_1_14 hv, sr_1_15 hv, sr_1_16 hv, sk_25 hv, sr_25_0 hv, sr_25_1 hv, sr_25_2 hv, sr_25_3 hv, sr_25_4 hv, sr_25_5 hv, e5, hn2, z, s_shT hv hM hx i12, s_shT hv hM hy i12, s1]
      exact ih _ _ _ _ (by omega)
    · rw [if_neg c1] at s1
      have n1 : ¬ nI (dM A x i) = -nI 1 := fun z => ng_ne 1 (dM A x i) (by omega) (by omega) (by omega) z.symm
      by_cases c2 : dM A y i = 1000000
      · rw [if_pos c2] at s2
        rw [if_pos (by omega)] at ih
        simp (disch := omega) only [e_98_13, e_98_14, e_98_17, e_98_20, e_98_23, e_98_24, e_98_25, e_98_27, e_98_30, e_98_32, e_98_33, e_98_34, e_98_36, e_98_39, e_98_41, e_98_43, e_98_44, e_98_47, e_98_49, e_98_50, e_98_117, e_98_120, n10, n01, Nat.lt_irrefl, Nat.not_lt_zero, ne_eq, Nat.add_zero, Nat.one_ne_zero, Nat.zero_ne_one, Nat.reduceEqDiff, bI_T, bI_F, bI_0, bI_1, bI_01, not_and_self, true_and, and_true, not_true_eq_false, not_false_eq_true, false_imp_iff, true_imp_iff, imp_self, gPv_n, gPv_i, gPv_r, gPv_0, Option.toList_some, Option.toList_none, List.singleton_append, List.cons_append, List.nil_append, List.length_nil, List.length_cons, Nat.zero_le, Nat.reduceAdd, Nat.reduceLeDiff, or_true, true_or, false_or, or_false, and_self, and_false, false_and, implies_true, Option.some.injEq, exists_eq_left', nL, nI_add, nI_mul, nI_clamp, nI_ltI, nI_leI, nI_eq, nI_pos, nI_pos', Nat.reduceAdd, Nat.reduceMul, Nat.reducePow, sk_1 hv, sr_1_0 hv, sr_1_1 hv, sr_1_2 hv, sr_1_3 hv, sr_1_4 hv, sr_1_7 hv, sr_1_9 hv, sr_1_14 hv, sr_1_15 hv, sr_1_16 hv, sk_25 hv, sr_25_0 hv, sr_25_1 hv, sr_25_2 hv, sr_25_3 hv, sr_25_4 hv, sr_25_5 hv, e5, hn2, z, s_shT hv hM hx i12, s_shT hv hM hy i12, s1, s2, n1]
        exact ih _ _ _ _ (by omega)
      · rw [if_neg c2] at s2
        have n2 : ¬ nI (dM A y i) = -nI 1 := fun z => ng_ne 1 (dM A y i) (by omega) (by omega) (by omega) z.symm
        rw [if_neg (by omega)] at ih
        cases q : mp (dM A) x y i with
        | none =>
          rw [q] at ih
          simp only [mpI, mpc] at ih
          by_cases c3 : max (dM A x i) (dM A y i) < 0 ∨ max (dM A x i) (dM A y i) = 0 ∧ dM A x i + dM A y i < 0
          · omega
          · by_cases c4 : max (dM A x i) (dM A y i) = 0
            · have c5 : ¬ max (dM A x i) (dM A y i) < 0 := by omega
              rw [c4] at ih
              simp (disch := omega) only [e_98_13, e_98_14, e_98_17, e_98_20, e_98_23, e_98_24, e_98_25, e_98_27, e_98_30, e_98_32, e_98_33, e_98_34, e_98_36, e_98_39, e_98_41, e_98_43, e_98_44, e_98_47, e_98_49, e_98_50, e_98_53, e_98_55, e_98_57, e_98_60, e_98_62, e_98_64, e_98_66, e_98_69, e_98_71, e_98_73, e_98_76, e_98_78, e_98_80, e_98_81, e_98_83, e_98_86, e_98_87, e_98_90, e_98_91, e_98_93, e_98_94, e_98_95, e_98_98, e_98_100, e_98_103, e_98_105, e_98_106, e_98_108, e_98_110, e_98_112, e_98_114, e_98_115, e_98_117, e_98_120, n10, n01, Nat.lt_irrefl, Nat.not_lt_zero, ne_eq, Nat.add_zero, Nat.one_ne_zero, Nat.zero_ne_one, Nat.reduceEqDiff, bI_T, bI_F, bI_0, bI_1, bI_01, not_and_self, true_and, and_true, not_true_eq_false, not_false_eq_true, false_imp_iff, true_imp_iff, imp_self, gPv_n, gPv_i, gPv_r, gPv_0, Option.toList_some, Option.toList_none, List.singleton_append, List.cons_append, List.nil_append, List.length_nil, List.length_cons, Nat.zero_le, Nat.reduceAdd, Nat.reduceLeDiff, or_true, true_or, false_or, or_false, and_self, and_false, false_and, implies_true, Option.some.injEq, exists_eq_left', nL, nI_add, nI_mul, nI_clamp, nI_ltI, nI_leI, nI_eq, nI_pos, nI_pos', Nat.reduceAdd, Nat.reduceMul, Nat.reducePow, sk_1 hv, sr_1_0 hv, sr_1_1 hv, sr_1_2 hv, sr_1_3 hv, sr_1_4 hv, sr_1_7 hv, sr_1_9 hv, sr_1_14 hv, sr_1_15 hv, sr_1_16 hv, sk_25 hv, sr_25_0 hv, sr_25_1 hv, sr_25_2 hv, sr_25_3 hv, sr_25_4 hv, sr_25_5 hv, e5, hn2, z, s_shT hv hM hx i12, s_shT hv hM hy i12, s1, s2, n1, n2, mpI, mpc, nI_max2, c4, Nat.zero_le]
              exact ih _ _ _ _ (by omega)
            · simp (disch := omega) only [e_98_13, e_98_14, e_98_17, e_98_20, e_98_23, e_98_24, e_98_25, e_98_27, e_98_30, e_98_32, e_98_33, e_98_34, e_98_36, e_98_39, e_98_41, e_98_43, e_98_44, e_98_47, e_98_49, e_98_50, e_98_53, e_98_55, e_98_57, e_98_60, e_98_62, e_98_64, e_98_66, e_98_69, e_98_71, e_98_73, e_98_76, e_98_78, e_98_80, e_98_81, e_98_83, e_98_86, e_98_87, e_98_90, e_98_91, e_98_93, e_98_94, e_98_95, e_98_98, e_98_100, e_98_103, e_98_105, e_98_106, e_98_108, e_98_110, e_98_112, e_98_114, e_98_115, e_98_117, e_98_120, n10, n01, Nat.lt_irrefl, Nat.not_lt_zero, ne_eq, Nat.add_zero, Nat.one_ne_zero, Nat.zero_ne_one, Nat.reduceEqDiff, bI_T, bI_F, bI_0, bI_1, bI_01, not_and_self, true_and, and_true, not_true_eq_false, not_false_eq_true, false_imp_iff, true_imp_iff, imp_self, gPv_n, gPv_i, gPv_r, gPv_0, Option.toList_some, Option.toList_none, List.singleton_append, List.cons_append, List.nil_append, List.length_nil, List.length_cons, Nat.zero_le, Nat.reduceAdd, Nat.reduceLeDiff, or_true, true_or, false_or, or_false, and_self, and_false, false_and, implies_true, Option.some.injEq, exists_eq_left', nL, nI_add, nI_mul, nI_clamp, nI_ltI, nI_leI, nI_eq, nI_pos, nI_pos', Nat.reduceAdd, Nat.reduceMul, Nat.reducePow, sk_1 hv, sr_1_0 hv, sr_1_1 hv, sr_1_2 hv, sr_1_3 hv, sr_1_4 hv, sr_1_7 hv, sr_1_9 hv, sr_1_14 hv, sr_1_15 hv, sr_1_16 hv, sk_25 hv, sr_25_0 hv, sr_25_1 hv, sr_25_2 hv, sr_25_3 hv, sr_25_4 hv, sr_25_5 hv, e5, hn2, z, s_shT hv hM hx i12, s_shT hv hM hy i12, s1, s2, n1, n2, mpI, mpc, nI_max2, c4, Nat.not_lt_zero]
              exact ih _ _ _ _ (by omega)
        | some w =>
          obtain ⟨p, L, S⟩ := w
          obtain ⟨o1, o2, o3, o4⟩ := mp_ok _ _ _ _ q
          have np : ¬ nI p = -nI 1 := fun z => ng_ne 1 p (by omega) (by omega) (by omega) z.symm
          have lx := dM_le (A := A) (a := x) (b := p)
          have ly := dM_le (A := A) (a := y) (b := p)
          rw [q] at ih
          simp only at ih
          by_cases c3 : max (dM A x i) (dM A y i) < L
          · rw [if_pos (Or.inl c3)] at ih
            simp (disch := omega) only [e_98_13, e_98_14, e_98_17, e_98_20, e_98_23, e_98_24, e_98_25, e_98_27, e_98_30, e_98_32, e_98_33, e_98_34, e_98_36, e_98_39, e_98_41, e_98_43, e_98_44, e_98_47, e_98_49, e_98_50, e_98_53, e_98_55, e_98_57, e_98_60, e_98_62, e_98_64, e_98_66, e_98_69, e_98_71, e_98_73, e_98_76, e_98_78, e_98_80, e_98_81, e_98_83, e_98_86, e_98_87, e_98_90, e_98_91, e_98_93, e_98_94, e_98_95, e_98_98, e_98_100, e_98_103, e_98_105, e_98_106, e_98_108, e_98_110, e_98_112, e_98_114, e_98_115, e_98_117, e_98_120, n10, n01, Nat.lt_irrefl, Nat.not_lt_zero, ne_eq, Nat.add_zero, Nat.one_ne_zero, Nat.zero_ne_one, Nat.reduceEqDiff, bI_T, bI_F, bI_0, bI_1, bI_01, not_and_self, true_and, and_true, not_true_eq_false, not_false_eq_true, false_imp_iff, true_imp_iff, imp_self, gPv_n, gPv_i, gPv_r, gPv_0, Option.toList_some, Option.toList_none, List.singleton_append, List.cons_append, List.nil_append, List.length_nil, List.length_cons, Nat.zero_le, Nat.reduceAdd, Nat.reduceLeDiff, or_true, true_or, false_or, or_false, and_self, and_false, false_and, implies_true, Option.some.injEq, exists_eq_left', nL, nI_add, nI_mul, nI_clamp, nI_ltI, nI_leI, nI_eq, nI_pos, nI_pos', Nat.reduceAdd, Nat.reduceMul, Nat.reducePow, sk_1 hv, sr_1_0 hv, sr_1_1 hv, sr_1_2 hv, sr_1_3 hv, sr_1_4 hv, sr_1_7 hv, sr_1_9 hv, sr_1_14 hv, sr_1_15 hv, sr_1_16 hv, sk_25 hv, sr_25_0 hv, sr_25_1 hv, sr_25_2 hv, sr_25_3 hv, sr_25_4 hv, sr_25_5 hv, e5, hn2, z, s_shT hv hM hx i12, s_shT hv hM hy i12, s1, s2, n1, n2, mpI, mpc, nI_max2, c3, np]
            exact ih _ _ _ _ (by omega)
          · by_cases c4 : max (dM A x i) (dM A y i) = L
            · by_cases c5 : dM A x i + dM A y i < S
              · have c5' : ¬ S ≤ dM A x i + dM A y i := by omega
                rw [if_pos (Or.inr ⟨c4, c5⟩)] at ih
                rw [c4] at ih
                simp (disch := omega) only [e_98_13, e_98_14, e_98_17, e_98_20, e_98_23, e_98_24, e_98_25, e_98_27, e_98_30, e_98_32, e_98_33, e_98_34, e_98_36, e_98_39, e_98_41, e_98_43, e_98_44, e_98_47, e_98_49, e_98_50, e_98_53, e_98_55, e_98_57, e_98_60, e_98_62, e_98_64, e_98_66, e_98_69, e_98_71, e_98_73, e_98_76, e_98_78, e_98_80, e_98_81, e_98_83, e_98_86, e_98_87, e_98_90, e_98_91, e_98_93, e_98_94, e_98_95, e_98_98, e_98_100, e_98_103, e_98_105, e_98_106, e_98_108, e_98_110, e_98_112, e_98_114, e_98_115, e_98_117, e_98_120, n10, n01, Nat.lt_irrefl, Nat.not_lt_zero, ne_eq, Nat.add_zero, Nat.one_ne_zero, Nat.zero_ne_one, Nat.reduceEqDiff, bI_T, bI_F, bI_0, bI_1, bI_01, not_and_self, true_and, and_true, not_true_eq_false, not_false_eq_true, false_imp_iff, true_imp_iff, imp_self, gPv_n, gPv_i, gPv_r, gPv_0, Option.toList_some, Option.toList_none, List.singleton_append, List.cons_append, List.nil_append, List.length_nil, List.length_cons, Nat.zero_le, Nat.reduceAdd, Nat.reduceLeDiff, or_true, true_or, false_or, or_false, and_self, and_false, false_and, implies_true, Option.some.injEq, exists_eq_left', nL, nI_add, nI_mul, nI_clamp, nI_ltI, nI_leI, nI_eq, nI_pos, nI_pos', Nat.reduceAdd, Nat.reduceMul, Nat.reducePow, sk_1 hv, sr_1_0 hv, sr_1_1 hv, sr_1_2 hv, sr_1_3 hv, sr_1_4 hv, sr_1_7 hv, sr_1_9 hv, sr_1_14 hv, sr_1_15 hv, sr_1_16 hv, sk_25 hv, sr_25_0 hv, sr_25_1 hv, sr_25_2 hv, sr_25_3 hv, sr_25_4 hv, sr_25_5 hv, e5, hn2, z, s_shT hv hM hx i12, s_shT hv hM hy i12, s1, s2, n1, n2, mpI, mpc, nI_max2, c4, c5', np]
                exact ih _ _ _ _ (by omega)
              · have c5' : S ≤ dM A x i + dM A y i := by omega
                rw [if_neg (by omega)] at ih
                simp (disch := omega) only [e_98_13, e_98_14, e_98_17, e_98_20, e_98_23, e_98_24, e_98_25, e_98_27, e_98_30, e_98_32, e_98_33, e_98_34, e_98_36, e_98_39, e_98_41, e_98_43, e_98_44, e_98_47, e_98_49, e_98_50, e_98_53, e_98_55, e_98_57, e_98_60, e_98_62, e_98_64, e_98_66, e_98_69, e_98_71, e_98_73, e_98_76, e_98_78, e_98_80, e_98_81, e_98_83, e_98_86, e_98_87, e_98_90, e_98_91, e_98_93, e_98_94, e_98_95, e_98_98, e_98_100, e_98_103, e_98_105, e_98_106, e_98_108, e_98_110, e_98_112, e_98_114, e_98_115, e_98_117, e_98_120, n10, n01, Nat.lt_irrefl, Nat.not_lt_zero, ne_eq, Nat.add_zero, Nat.one_ne_zero, Nat.zero_ne_one, Nat.reduceEqDiff, bI_T, bI_F, bI_0, bI_1, bI_01, not_and_self, true_and, and_true, not_true_eq_false, not_false_eq_true, false_imp_iff, true_imp_iff, imp_self, gPv_n, gPv_i, gPv_r, gPv_0, Option.toList_some, Option.toList_none, List.singleton_append, List.cons_append, List.nil_append, List.length_nil, List.length_cons, Nat.zero_le, Nat.reduceAdd, Nat.reduceLeDiff, or_true, true_or, false_or, or_false, and_self, and_false, false_and, implies_true, Option.some.injEq, exists_eq_left', nL, nI_add, nI_mul, nI_clamp, nI_ltI, nI_leI, nI_eq, nI_pos, nI_pos', Nat.reduceAdd, Nat.reduceMul, Nat.reducePow, sk_1 hv, sr_1_0 hv, sr_1_1 hv, sr_1_2 hv, sr_1_3 hv, sr_1_4 hv, sr_1_7 hv, sr_1_9 hv, sr_1_14 hv, sr_1_15 hv, sr_1_16 hv, sk_25 hv, sr_25_0 hv, sr_25_1 hv, sr_25_2 hv, sr_25_3 hv, sr_25_4 hv, sr_25_5 hv, e5, hn2, z, s_shT hv hM hx i12, s_shT hv hM hy i12, s1, s2, n1, n2, mpI, mpc, nI_max2, c4, c5', np]
                exact ih _ _ _ _ (by omega)
            · rw [if_neg (by omega)] at ih
              simp (disch := omega) only [e_98_13, e_98_14, e_98_17, e_98_20, e_98_23, e_98_24, e_98_25, e_98_27, e_98_30, e_98_32, e_98_33, e_98_34, e_98_36, e_98_39, e_98_41, e_98_43, e_98_44, e_98_47, e_98_49, e_98_50, e_98_53, e_98_55, e_98_57, e_98_60, e_98_62, e_98_64, e_98_66, e_98_69, e_98_71, e_98_73, e_98_76, e_98_78, e_98_80, e_98_81, e_98_83, e_98_86, e_98_87, e_98_90, e_98_91, e_98_93, e_98_94, e_98_95, e_98_98, e_98_100, e_98_103, e_98_105, e_98_106, e_98_108, e_98_110, e_98_112, e_98_114, e_98_115, e_98_117, e_98_120, n10, n01, Nat.lt_irrefl, Nat.not_lt_zero, ne_eq, Nat.add_zero, Nat.one_ne_zero, Nat.zero_ne_one, Nat.reduceEqDiff, bI_T, bI_F, bI_0, bI_1, bI_01, not_and_self, true_and, and_true, not_true_eq_false, not_false_eq_true, false_imp_iff, true_imp_iff, imp_self, gPv_n, gPv_i, gPv_r, gPv_0, Option.toList_some, Option.toList_none, List.singleton_append, List.cons_append, List.nil_append, List.length_nil, List.length_cons, Nat.zero_le, Nat.reduceAdd, Nat.reduceLeDiff, or_true, true_or, false_or, or_false, and_self, and_false, false_and, implies_true, Option.some.injEq, exists_eq_left', nL, nI_add, nI_mul, nI_clamp, nI_ltI, nI_leI, nI_eq, nI_pos, nI_pos', Nat.reduceAdd, Nat.reduceMul, Nat.reducePow, sk_1 hv, sr_1_0 hv, sr_1_1 hv, sr_1_2 hv, sr_1_3 hv, sr_1_4 hv, sr_1_7 hv, sr_1_9 hv, sr_1_14 hv, sr_1_15 hv, sr_1_16 hv, sk_25 hv, sr_25_0 hv, sr_25_1 hv, sr_25_2 hv, sr_25_3 hv, sr_25_4 hv, sr_25_5 hv, e5, hn2, z, s_shT hv hM hx i12, s_shT hv hM hy i12, s1, s2, n1, n2, mpI, mpc, nI_max2, c3, c4, np]
              exact ih _ _ _ _ (by omega)
theorem s_meetP {x y : Nat} (hc : Ctx B own σ A) (hM : MsO B A σ) (hx : x < 12) (hy : y < 12) (K : Q (some (.int (mpI (mp (dM A) x y (hn A))))) σ) : wc (d + 4) 98 [.ref (B + 25), .int (nI x), .int (nI y)] σ Q := by
  simp (disch := omega) only [c_98, e_98_0, e_98_1, e_98_2, e_98_3, e_98_5, e_98_6, e_98_8, e_98_9, n10, n01, Nat.lt_irrefl, Nat.not_lt_zero, ne_eq, Nat.add_zero, Nat.one_ne_zero, Nat.zero_ne_one, Nat.reduceEqDiff, bI_T, bI_F, bI_0, bI_1, bI_01, not_and_self, true_and, and_true, not_true_eq_false, not_false_eq_true, false_imp_iff, true_imp_iff, imp_self, gPv_n, gPv_i, gPv_r, gPv_0, Option.toList_some, Option.toList_none, List.singleton_append, List.cons_append, List.nil_append, List.length_nil, List.length_cons, Nat.zero_le, Nat.reduceAdd, Nat.reduceLeDiff, or_true, true_or, false_or, or_false, and_self, and_false, false_and, implies_true, Option.some.injEq, exists_eq_left', nL]
  exact s_mp hc hM hx hy K (hn A) 0 _ _ _ _ (by omega)
theorem t_mp {x y s : Nat} (X : MX B σ A) (hL : LbO B A σ) (hx : x < hn A) (hy : y < hn A) (K : ∀ x7 x8 x9 x10, wp (d + 1) pr_268 Q 157 [some (.ref (B + 54)), some (.int (nI x)), some (.int (nI y)), some (.int (nI s)), some (.int (mpI (mp (dM A) x y (hn A)))), some (.int (nI (mpc 1000000 (mp (dM A) x y (hn A))).1)), some (.int (nI (mpc 1000000 (mp (dM A) x y (hn A))).2)), x7, x8, x9, x10] [] σ) : ∀ m i x8 x9 x10, i + m = hn A → wp (d + 1) pr_268 Q 49 [some (.ref (B + 54)), some (.int (nI x)), some (.int (nI y)), some (.int (nI s)), some (.int (mpI (mp (dM A) x y i))), some (.int (nI (mpc 1000000 (mp (dM A) x y i)).1)), some (.int (nI (mpc 1000000 (mp (dM A) x y i)).2)), some (.int (nI i)), x8, x9, x10] [] σ := by
  obtain ⟨hv, hA, wh, wd, wl⟩ := id X
  have h12 := hn_le wh
  have hn2 := hn_eq wh
  intro m
  induction m with
  | zero =>
    intro i x8 x9 x10 hi
    have e : i = hn A := by omega
    subst e
    simp (disch := omega) only [e_268_49, e_268_51, e_268_52, e_268_55, n10, n01, Nat.lt_irrefl, Nat.not_lt_zero, ne_eq, Nat.add_zero, Nat.one_ne_zero, Nat.zero_ne_one, Nat.reduceEqDiff, bI_T, bI_F, bI_0, bI_1, bI_01, not_and_self, true_and, and_true, not_true_eq_false, not_false_eq_true, false_imp_iff, true_imp_iff, imp_self, gPv_n, gPv_i, gPv_r, gPv_0, Option.toList_some, Option.toList_none, List.singleton_append, List.cons_append, List.nil_append, List.length_nil, List.length_cons, Nat.zero_le, Nat.reduceAdd, Nat.reduceLeDiff, or_true, true_or, false_or, or_false, and_self, and_false, false_and, implies_true, Option.some.injEq, exists_eq_left', nL, nI_add, nI_mul, nI_clamp, nI_ltI, nI_leI, nI_eq, nI_pos, nI_pos', Nat.reduceAdd, Nat.reduceMul, Nat.reducePow, sk_54 hv, sr_54_2 hv, sr_54_3 hv, sr_54_4 hv, sr_54_5 hv, sr_54_7 hv, sr_54_8 hv, sr_54_9 hv, sr_54_12 hv, sr_54_13 hv, sr_54_14 hv, sr_54_22 hv, sr_54_25 hv, sr_54_26 hv, sr_54_27 hv, sr_54_34 hv, sr_54_35 hv, sr_54_36 hv, sr_54_37 hv, sr_54_38 hv, sr_54_40 hv, sr_54_43 hv, sr_54_44 hv, sr_54_45 hv, sr_54_46 hv, sr_54_47 hv, t_houses hv, hA, hn2, Nat.le_refl]
    exact K _ _ _ _
  | succ m ih =>
    intro i x8 x9 x10 hi
    have z : ¬ hn A ≤ i := by omega
    have z1 : 12 * x + i < 144 := by omega
    have z2 : 12 * y + i < 144 := by omega
    have l1 := dM_le (A := A) (a := x) (b := i)
    have l2 := dM_le (A := A) (a := y) (b := i)
    have e1 := hL x i hx (by omega)
    have e2 := hL y i hy (by omega)
    have ih := ih (i + 1)
    rw [mp] at ih
    have go : ∀ _x : Option Value, wp (d + 1) pr_268 Q 102 [some (.ref (B + 54)), some (.int (nI x)), some (.int (nI y)), some (.int (nI s)), some (.int (mpI (mp (dM A) x y i))), some (.int (nI (mpc 1000000 (mp (dM A) x y i)).1)), some (.int (nI (mpc 1000000 (mp (dM A) x y i)).2)), some (.int (nI i)), some (.int (nI (dM A x i))), some (.int (nI (dM A y i))), some (.int (nI (max (dM A x i) (dM A y i))))] [] σ := by
      intro _
      by_cases c0 : 1000000 ≤ max (dM A x i) (dM A y i)
      · rw [if_pos c0] at ih
        simp (disch := omega) only [e_268_102, e_268_104, e_268_106, e_268_151, e_268_154, n10, n01, Nat.lt_irrefl, Nat.not_lt_zero, ne_eq, Nat.add_zero, Nat.one_ne_zero, Nat.zero_ne_one, Nat.reduceEqDiff, bI_T, bI_F, bI_0, bI_1, bI_01, not_and_self, true_and, and_true, not_true_eq_false, not_false_eq_true, false_imp_iff, true_imp_iff, imp_self, gPv_n, gPv_i, gPv_r, gPv_0, Option.toList_some, Option.toList_none, List.singleton_append, List.cons_append, List.nil_append, List.length_nil, List.length_cons, Nat.zero_le, Nat.reduceAdd, Nat.reduceLeDiff, or_true, true_or, false_or, or_false, and_self, and_false, false_and, implies_true, Option.some.injEq, exists_eq_left', nL, nI_add, nI_mul, nI_clamp, nI_ltI, nI_leI, nI_eq, nI_pos, nI_pos', Nat.reduceAdd, Nat.reduceMul, Nat.reducePow, c0]
        exact ih _ _ _ (by omega)
      · rw [if_neg c0] at ih
        cases q : mp (dM A) x y i with
        | none =>
          rw [q] at ih
          simp only [mpI, mpc] at ih
          have c1 : ¬ 1000000 < max (dM A x i) (dM A y i) := by omega
          have c2 : ¬ max (dM A x i) (dM A y i) = 1000000 := by omega
          simp (disch := omega) only [e_268_102, e_268_104, e_268_106, e_268_109, e_268_111, e_268_113, e_268_116, e_268_118, e_268_120, e_268_123, e_268_125, e_268_127, e_268_128, e_268_130, e_268_133, e_268_136, e_268_138, e_268_140, e_268_142, e_268_144, e_268_146, e_268_148, e_268_149, e_268_151, e_268_154, n10, n01, Nat.lt_irrefl, Nat.not_lt_zero, ne_eq, Nat.add_zero, Nat.one_ne_zero, Nat.zero_ne_one, Nat.reduceEqDiff, bI_T, bI_F, bI_0, bI_1, bI_01, not_and_self, true_and, and_true, not_true_eq_false, not_false_eq_true, false_imp_iff, true_imp_iff, imp_self, gPv_n, gPv_i, gPv_r, gPv_0, Option.toList_some, Option.toList_none, List.singleton_append, List.cons_append, List.nil_append, List.length_nil, List.length_cons, Nat.zero_le, Nat.reduceAdd, Nat.reduceLeDiff, or_true, true_or, false_or, or_false, and_self, and_false, false_and, implies_true, Option.some.injEq, exists_eq_left', nL, nI_add, nI_mul, nI_clamp, nI_ltI, nI_leI, nI_eq, nI_pos, nI_pos', Nat.reduceAdd, Nat.reduceMul, Nat.reducePow, mpI, mpc, c0, c1, c2]
          exact ih _ _ _ (by omega)
        | some w =>
          obtain ⟨p, L, S⟩ := w
          obtain ⟨o1, o2, o3, o4⟩ := mp_ok _ _ _ _ q
          have lx := dM_le (A := A) (a := x) (b := p)
          have ly := dM_le (A := A) (a := y) (b := p)
          rw [q] at ih
          simp only at ih
          by_cases c3 : L < max (dM A x i) (dM A y i)
          · rw [if_neg (by omega)] at ih
            simp (disch := omega) only [e_268_102, e_268_104, e_268_106, e_268_109, e_268_111, e_268_113, e_268_116, e_268_118, e_268_120, e_268_123, e_268_125, e_268_127, e_268_128, e_268_130, e_268_133, e_268_136, e_268_138, e_268_140, e_268_142, e_268_144, e_268_146, e_268_148, e_268_149, e_268_151, e_268_154, n10, n01, Nat.lt_irrefl, Nat.not_lt_zero, ne_eq, Nat.add_zero, Nat.one_ne_zero, Nat.zero_ne_one, Nat.reduceEqDiff, bI_T, bI_F, bI_0, bI_1, bI_01, not_and_self, true_and, and_true, not_true_eq_false, not_false_eq_true, false_imp_iff, true_imp_iff, imp_self, gPv_n, gPv_i, gPv_r, gPv_0, Option.toList_some, Option.toList_none, List.singleton_append, List.cons_append, List.nil_append, List.length_nil, List.length_cons, Nat.zero_le, Nat.reduceAdd, Nat.reduceLeDiff, or_true, true_or, false_or, or_false, and_self, and_false, false_and, implies_true, Option.some.injEq, exists_eq_left', nL, nI_add, nI_mul, nI_clamp, nI_ltI, nI_leI, nI_eq, nI_pos, nI_pos', Nat.reduceAdd, Nat.reduceMul, Nat.reducePow, mpI, mpc, c0, c3]
            exact ih _ _ _ (by omega)
          · by_cases c4 : max (dM A x i) (dM A y i) = L
            · by_cases c5 : dM A x i + dM A y i < S
              · rw [if_pos (Or.inr ⟨c4, c5⟩)] at ih
                rw [c4] at ih c0
                simp (disch := omega) only [e_268_102, e_268_104, e_268_106, e_268_109, e_268_111, e_268_113, e_268_116, e_268_118, e_268_120, e_268_123, e_268_125, e_268_127, e_268_128, e_268_130, e_268_133, e_268_136, e_268_138, e_268_140, e_268_142, e_268_144, e_268_146, e_268_148, e_268_149, e_268_151, e_268_154, n10, n01, Nat.lt_irrefl, Nat.not_lt_zero, ne_eq, Nat.add_zero, Nat.one_ne_zero, Nat.zero_ne_one, Nat.reduceEqDiff, bI_T, bI_F, bI_0, bI_1, bI_01, not_and_self, true_and, and_true, not_true_eq_false, not_false_eq_true, false_imp_iff, true_imp_iff, imp_self, gPv_n, gPv_i, gPv_r, gPv_0, Option.toList_some, Option.toList_none, List.singleton_append, List.cons_append, List.nil_append, List.length_nil, List.length_cons, Nat.zero_le, Nat.reduceAdd, Nat.reduceLeDiff, or_true, true_or, false_or, or_false, and_self, and_false, false_and, implies_true, Option.some.injEq, exists_eq_left', nL, nI_add, nI_mul, nI_clamp, nI_ltI, nI_leI, nI_eq, nI_pos, nI_pos', Nat.reduceAdd, Nat.reduceMul, Nat.reducePow, mpI, mpc, c0, c4, c5, Nat.lt_irrefl]
                exact ih _ _ _ (by omega)
              · rw [if_neg (by omega)] at ih
                rw [c4] at c0
                simp (disch := omega) only [e_268_102, e_268_104, e_268_106, e_268_109, e_268_111, e_268_113, e_268_116, e_268_118, e_268_120, e_268_123, e_268_125, e_268_127, e_268_128, e_268_130, e_268_133, e_268_136, e_268_138, e_268_140, e_268_142, e_268_144, e_268_146, e_268_148, e_268_149, e_268_151, e_268_154, n10, n01, Nat.lt_irrefl, Nat.not_lt_zero, ne_eq, Nat.add_zero, Nat.one_ne_zero, Nat.zero_ne_one, Nat.reduceEqDiff, bI_T, bI_F, bI_0, bI_1, bI_01, not_and_self, true_and, and_true, not_true_eq_false, not_false_eq_true, false_imp_iff, true_imp_iff, imp_self, gPv_n, gPv_i, gPv_r, gPv_0, Option.toList_some, Option.toList_none, List.singleton_append, List.cons_append, List.nil_append, List.length_nil, List.length_cons, Nat.zero_le, Nat.reduceAdd, Nat.reduceLeDiff, or_true, true_or, false_or, or_false, and_self, and_false, false_and, implies_true, Option.some.injEq, exists_eq_left', nL, nI_add, nI_mul, nI_clamp, nI_ltI, nI_leI, nI_eq, nI_pos, nI_pos', Nat.reduceAdd, Nat.reduceMul, Nat.reducePow, mpI, mpc, c0, c4, c5, Nat.lt_irrefl]
                exact ih _ _ _ (by omega)
            · rw [if_pos (Or.inl (by omega))] at ih
              simp (disch := omega) only [e_268_102, e_268_104, e_268_106, e_268_109, e_268_111, e_268_113, e_268_116, e_268_118, e_268_120, e_268_123, e_268_125, e_268_127, e_268_128, e_268_130, e_268_133, e_268_136, e_268_138, e_268_140, e_268_142, e_268_144, e_268_146, e_268_148, e_268_149, e_268_151, e_268_154, n10, n01, Nat.lt_irrefl, Nat.not_lt_zero, ne_eq, Nat.add_zero, Nat.one_ne_zero, Nat.zero_ne_one, Nat.reduceEqDiff, bI_T, bI_F, bI_0, bI_1, bI_01, not_and_self, true_and, and_true, not_true_eq_false, not_false_eq_true, false_imp_iff, true_imp_iff, imp_self, gPv_n, gPv_i, gPv_r, gPv_0, Option.toList_some, Option.toList_none, List.singleton_append, List.cons_append, List.nil_append, List.length_nil, List.length_cons, Nat.zero_le, Nat.reduceAdd, Nat.reduceLeDiff, or_true, true_or, false_or, or_false, and_self, and_false, false_and, implies_true, Option.some.injEq, exists_eq_left', nL, nI_add, nI_mul, nI_clamp, nI_ltI, nI_leI, nI_eq, nI_pos, nI_pos', Nat.reduceAdd, Nat.reduceMul, Nat.reducePow, mpI, mpc, c0, c3, c4]
              exact ih _ _ _ (by omega)
    rw [e_268_49]
    by_cases cm : dM A x i ≤ dM A y i
    · have em : max (dM A x i) (dM A y i) = dM A y i := Nat.max_eq_right cm
      rw [em] at go
      simp (disch := omega) only [e_268_51, e_268_52, e_268_55, e_268_58, e_268_59, e_268_62, e_268_64, e_268_65, e_268_66, e_268_68, e_268_69, e_268_70, e_268_72, e_268_73, e_268_76, e_268_78, e_268_79, e_268_80, e_268_82, e_268_83, e_268_84, e_268_86, e_268_88, e_268_90, e_268_93, e_268_95, e_268_98, e_268_100, n10, n01, Nat.lt_irrefl, Nat.not_lt_zero, ne_eq, Nat.add_zero, Nat.one_ne_zero, Nat.zero_ne_one, Nat.reduceEqDiff, bI_T, bI_F, bI_0, bI_1, bI_01, not_and_self, true_and, and_true, not_true_eq_false, not_false_eq_true, false_imp_iff, true_imp_iff, imp_self, gPv_n, gPv_i, gPv_r, gPv_0, Option.toList_some, Option.toList_none, List.singleton_append, List.cons_append, List.nil_append, List.length_nil, List.length_cons, Nat.zero_le, Nat.reduceAdd, Nat.reduceLeDiff, or_true, true_or, false_or, or_false, and_self, and_false, false_and, implies_true, Option.some.injEq, exists_eq_left', nL, nI_add, nI_mul, nI_clamp, nI_ltI, nI_leI, nI_eq, nI_pos, nI_pos', Nat.reduceAdd, Nat.reduceMul, Nat.reducePow, sk_54 hv, sr_54_2 hv, sr_54_3 hv, sr_54_4 hv, sr_54_5 hv, sr_54_7 hv, sr_54_8 hv, sr_54_9 hv, sr_54_12 hv, sr_54_13 hv, sr_54_14 hv, sr_54_22 hv, sr_54_25 hv, sr_54_26 hv, sr_54_27 hv, sr_54_34 hv, sr_54_35 hv, sr_54_36 hv, sr_54_37 hv, sr_54_38 hv, sr_54_40 hv, sr_54_43 hv, sr_54_44 hv, sr_54_45 hv, sr_54_46 hv, sr_54_47 hv, sk_76 hv, sn_76 hv, t_houses hv, hA, hn2, z, z1, z2, e1, e2, cm]
      exact go none
    · have em : max (dM A x i) (dM A y i) = dM A x i := Nat.max_eq_left (by omega)
      rw [em] at go
      simp (disch := omega) only [e_268_51, e_268_52, e_268_55, e_268_58, e_268_59, e_268_62, e_268_64, e_268_65, e_268_66, e_268_68, e_268_69, e_268_70, e_268_72, e_268_73, e_268_76, e_268_78, e_268_79, e_268_80, e_268_82, e_268_83, e_268_84, e_268_86, e_268_88, e_268_90, e_268_93, e_268_95, e_268_98, e_268_100, n10, n01, Nat.lt_irrefl, Nat.not_lt_zero, ne_eq, Nat.add_zero, Nat.one_ne_zero, Nat.zero_ne_one, Nat.reduceEqDiff, bI_T, bI_F, bI_0, bI_1, bI_01, not_and_self, true_and, and_true, not_true_eq_false, not_false_eq_true, false_imp_iff, true_imp_iff, imp_self, gPv_n, gPv_i, gPv_r, gPv_0, Option.toList_some, Option.toList_none, List.singleton_append, List.cons_append, List.nil_append, List.length_nil, List.length_cons, Nat.zero_le, Nat.reduceAdd, Nat.reduceLeDiff, or_true, true_or, false_or, or_false, and_self, and_false, false_and, implies_true, Option.some.injEq, exists_eq_left', nL, nI_add, nI_mul, nI_clamp, nI_ltI, nI_leI, nI_eq, nI_pos, nI_pos', Nat.reduceAdd, Nat.reduceMul, Nat.reducePow, sk_54 hv, sr_54_2 hv, sr_54_3 hv, sr_54_4 hv, sr_54_5 hv, sr_54_7 hv, sr_54_8 hv, sr_54_9 hv, sr_54_12 hv, sr_54_13 hv, sr_54_14 hv, sr_54_22 hv, sr_54_25 hv, sr_54_26 hv, sr_54_27 hv, sr_54_34 hv, sr_54_35 hv, sr_54_36 hv, sr_54_37 hv, sr_54_38 hv, sr_54_40 hv, sr_54_43 hv, sr_54_44 hv, sr_54_45 hv, sr_54_46 hv, sr_54_47 hv, sk_76 hv, sn_76 hv, t_houses hv, hA, hn2, z, z1, z2, e1, e2, cm]
      exact go none
end
section
variable {CV : Nat → (Nat → Int32) → (Nat → Nat → Int32) → Prop} {G : gG}
set_option maxHeartbeats 2000000 in
theorem ob_meet (hcv : CVl CV) (h2 : ∀ A W, CV 2 A W ↔ ∀ a b, a < 12 → b < 12 → W 6 (12 * a + b) = nI (mM A a b) ∧ W 7 (12 * a + b) = nI (fl (mM A) 12 a b)) : gOb (Inv LSx CV MVx G) (gb G) (gB G) (gB G + 54) 147 268 3 := by
  intro σ k as hl hk hI
  obtain ⟨p0, p1, p2, rfl⟩ := len3 hl
  have hv := Inv_Sh hI
  have hb := Inv_b hI
  obtain ⟨own, cc, v, hc, ha, hX, hm⟩ := Inv_ctx hI hk
  obtain ⟨z30, z32⟩ := Inv_30 hI
  have w1 := hX.2.2.1
  have h12 := hn_le w1
  have hn2 := hn_eq w1
  have e5 := hc.2.1.2.1.1.1
  by_cases h0 : nI 0 ≤ p0 ∧ p0 < nI (hn (gI σ (gB G + 56)))
  · by_cases h1 : nI 0 ≤ p1 ∧ p1 < nI (hn (gI σ (gB G + 56)))
    · obtain ⟨a, ha1, rfl⟩ := in_lt (by omega) h0
      obtain ⟨b, hb1, rfl⟩ := in_lt (by omega) h1
      have a12 : a < 12 := by omega
      have b12 : b < 12 := by omega
      by_cases h3 : nI 0 ≤ p2 ∧ p2 ≤ nI 1
      · obtain ⟨y, hy, rfl⟩ := in_nI (by omega) h3
        simp (disch := first | omega | (simp only [IvS_I, IvS_J, IvS_r]; assumption)) only [List.map_cons, List.map_nil, Value.int.injEq, gSc_r, gSc_I, n10, n01, Nat.lt_irrefl, Nat.not_lt_zero, ne_eq, Nat.add_zero, Nat.one_ne_zero, Nat.zero_ne_one, Nat.reduceEqDiff, bI_T, bI_F, bI_0, bI_1, bI_01, not_and_self, true_and, and_true, not_true_eq_false, not_false_eq_true, false_imp_iff, true_imp_iff, imp_self, gPv_n, gPv_i, gPv_r, gPv_0, Option.toList_some, Option.toList_none, List.singleton_append, List.cons_append, List.nil_append, List.length_nil, List.length_cons, Nat.zero_le, Nat.reduceAdd, Nat.reduceLeDiff, or_true, true_or, false_or, or_false, and_self, and_false, false_and, implies_true, Option.some.injEq, exists_eq_left', nL, nI_add, nI_mul, nI_clamp, nI_ltI, nI_leI, nI_eq, nI_pos, nI_pos', Nat.reduceAdd, Nat.reduceMul, Nat.reducePow, c_147, e_147_0, e_147_1, e_147_4, e_147_5, e_147_8, e_147_11, e_147_12, e_147_15, e_147_16, e_147_19, e_147_22, e_147_23, e_147_24, e_147_25, e_147_28, e_147_31, e_147_32, e_147_33, e_147_34, e_147_37, e_147_38, e_147_41, sk_0 hv, sr_0_0 hv, sr_0_1 hv, sr_0_2 hv, sr_0_4 hv, sr_0_7 hv, sr_0_9 hv, sr_0_10 hv, sr_0_11 hv, sr_0_12 hv, sr_0_13 hv, sr_0_14 hv, sk_1 hv, sr_1_0 hv, sr_1_1 hv, sr_1_2 hv, sr_1_3 hv, sr_1_4 hv, sr_1_7 hv, sr_1_9 hv, sr_1_14 hv, sr_1_15 hv, sr_1_16 hv, sk_25 hv, sr_25_0 hv, sr_25_1 hv, sr_25_2 hv, sr_25_3 hv, sr_25_4 hv, sr_25_5 hv, s_has (sk_1 hv), s_within, e5, hn2, ha1, hb1, hy]
        refine s_openRows (d := 992) hcv hc ha ?_
        intro τ hS hcT haT hr
        have hvT := hcT.1
        simp (disch := omega) only [e_147_44, n10, n01, Nat.lt_irrefl, Nat.not_lt_zero, ne_eq, Nat.add_zero, Nat.one_ne_zero, Nat.zero_ne_one, Nat.reduceEqDiff, bI_T, bI_F, bI_0, bI_1, bI_01, not_and_self, true_and, and_true, not_true_eq_false, not_false_eq_true, false_imp_iff, true_imp_iff, imp_self, gPv_n, gPv_i, gPv_r, gPv_0, Option.toList_some, Option.toList_none, List.singleton_append, List.cons_append, List.nil_append, List.length_nil, List.length_cons, Nat.zero_le, Nat.reduceAdd, Nat.reduceLeDiff, or_true, true_or, false_or, or_false, and_self, and_false, false_and, implies_true, Option.some.injEq, exists_eq_left', nL, nI_add, nI_mul, nI_clamp, nI_ltI, nI_leI, nI_eq, nI_pos, nI_pos', Nat.reduceAdd, Nat.reduceMul, Nat.reducePow, sk_25 hvT, sr_25_0 hvT, sr_25_1 hvT, sr_25_2 hvT, sr_25_3 hvT, sr_25_4 hvT, sr_25_5 hvT]
        refine s_measure (d := 994) hcv h2 hcT haT hr ?_
        intro τ2 hS2 hcT2 haT2 hM2
        have hv2 := hcT2.1
        have hS02 : Sm (fun a => gB G + 25 ≤ a ∧ a < gB G + 50) σ τ2 := Sm_trans (Sm_mono hS (fun a ha => by omega)) (Sm_mono hS2 (fun a ha => by omega))
        have XT := MX_S hX hS02 (by omega)
        have mod : ∀ x : Int32, x = (if y = 0 then mpI (mp (dM (gI σ (gB G + 56))) a b (hn (gI σ (gB G + 56)))) else match mp (dM (gI σ (gB G + 56))) a b (hn (gI σ (gB G + 56))) with
            | none => -nI 1
            | some (_, L, _) => nI L) → (gSc (gb G) σ τ2 ∧ gK τ2 (gB G + 54) = 13) ∧ ∃ v : Int32, Value.int x = Value.int v ∧ wc 1000 268 [.ref (gB G + 54), .int (nI a), .int (nI b), .int (nI y)] τ2 (fun r2 σ2 => r2 = some (.int v) ∧ Inv LSx CV MVx G σ2 (k + 1)) := by
          intro x hx
          have e250 : gI τ2 (gB G + 56) 250 = nI (hn (gI σ (gB G + 56))) := by rw [XT.2.1]; exact hn2
          refine ⟨⟨gSc_S hS02 (by omega), sk_54 hv2⟩, x, rfl, ?_⟩
          simp (disch := first | omega | (simp only [IvS_I, IvS_J, IvS_r]; assumption)) only [n10, n01, Nat.lt_irrefl, Nat.not_lt_zero, ne_eq, Nat.add_zero, Nat.one_ne_zero, Nat.zero_ne_one, Nat.reduceEqDiff, bI_T, bI_F, bI_0, bI_1, bI_01, not_and_self, true_and, and_true, not_true_eq_false, not_false_eq_true, false_imp_iff, true_imp_iff, imp_self, gPv_n, gPv_i, gPv_r, gPv_0, Option.toList_some, Option.toList_none, List.singleton_append, List.cons_append, List.nil_append, List.length_nil, List.length_cons, Nat.zero_le, Nat.reduceAdd, Nat.reduceLeDiff, or_true, true_or, false_or, or_false, and_self, and_false, false_and, implies_true, Option.some.injEq, exists_eq_left', nL, nI_add, nI_mul, nI_clamp, nI_ltI, nI_leI, nI_eq, nI_pos, nI_pos', Nat.reduceAdd, Nat.reduceMul, Nat.reducePow, c_268, e_268_0, e_268_1, e_268_2, e_268_5, e_268_8, e_268_9, e_268_10, e_268_13, e_268_16, e_268_17, e_268_18, e_268_19, e_268_22, e_268_25, e_268_26, e_268_27, e_268_28, sk_54 hv2, sr_54_2 hv2, sr_54_3 hv2, sr_54_4 hv2, sr_54_5 hv2, sr_54_7 hv2, sr_54_8 hv2, sr_54_9 hv2, sr_54_12 hv2, sr_54_13 hv2, sr_54_14 hv2, sr_54_22 hv2, sr_54_25 hv2, sr_54_26 hv2, sr_54_27 hv2, sr_54_34 hv2, sr_54_35 hv2, sr_54_36 hv2, sr_54_37 hv2, sr_54_38 hv2, sr_54_40 hv2, sr_54_43 hv2, sr_54_44 hv2, sr_54_45 hv2, sr_54_46 hv2, sr_54_47 hv2, t_isHouse hv2, t_lies, e250, le_sub1, ha1, hb1, hy]
          refine t_look (d := 930) XT (Mc_S hm hS02 (fun a ha => by omega)) (by rw [hS02.2.2.2.2.2.2.1 _ (by omega)]; exact z30) (by rw [hS02.2.2.2.2.2.2.1 _ (by omega)]; exact z32) ?_
          intro τ3 hq
          have X3 := QM_X XT hq
          have hv3 := X3.1
          simp (disch := omega) only [e_268_31, e_268_32, n10, n01, Nat.lt_irrefl, Nat.not_lt_zero, ne_eq, Nat.add_zero, Nat.one_ne_zero, Nat.zero_ne_one, Nat.reduceEqDiff, bI_T, bI_F, bI_0, bI_1, bI_01, not_and_self, true_and, and_true, not_true_eq_false, not_false_eq_true, false_imp_iff, true_imp_iff, imp_self, gPv_n, gPv_i, gPv_r, gPv_0, Option.toList_some, Option.toList_none, List.singleton_append, List.cons_append, List.nil_append, List.length_nil, List.length_cons, Nat.zero_le, Nat.reduceAdd, Nat.reduceLeDiff, or_true, true_or, false_or, or_false, and_self, and_false, false_and, implies_true, Option.some.injEq, exists_eq_left', nL, nI_add, nI_mul, nI_clamp, nI_ltI, nI_leI, nI_eq, nI_pos, nI_pos', Nat.reduceAdd, Nat.reduceMul, Nat.reducePow, sk_54 hv3, sr_54_2 hv3, sr_54_3 hv3, sr_54_4 hv3, sr_54_5 hv3, sr_54_7 hv3, sr_54_8 hv3, sr_54_9 hv3, sr_54_12 hv3, sr_54_13 hv3, sr_54_14 hv3, sr_54_22 hv3, sr_54_25 hv3, sr_54_26 hv3, sr_54_27 hv3, sr_54_34 hv3, sr_54_35 hv3, sr_54_36 hv3, sr_54_37 hv3, sr_54_38 hv3, sr_54_40 hv3, sr_54_43 hv3, sr_54_44 hv3, sr_54_45 hv3, sr_54_46 hv3, sr_54_47 hv3]
          refine t_layB (d := 996) X3 (M67_q hq) ?_
          intro τ4 hS4 hL
          have X4 := MX_S X3 hS4 (by simp only [lbP]; omega)
          have hq4 := QM_S hq hS4 (fun a ha => by simp only [lbP] at ha; omega)
          have fin := Inv_QM hk hI hm hS02 haT2 hq4
          simp (disch := omega) only [e_268_35, e_268_36, e_268_38, e_268_40, e_268_42, e_268_44, e_268_46, e_268_47, n10, n01, Nat.lt_irrefl, Nat.not_lt_zero, ne_eq, Nat.add_zero, Nat.one_ne_zero, Nat.zero_ne_one, Nat.reduceEqDiff, bI_T, bI_F, bI_0, bI_1, bI_01, not_and_self, true_and, and_true, not_true_eq_false, not_false_eq_true, false_imp_iff, true_imp_iff, imp_self, gPv_n, gPv_i, gPv_r, gPv_0, Option.toList_some, Option.toList_none, List.singleton_append, List.cons_append, List.nil_append, List.length_nil, List.length_cons, Nat.zero_le, Nat.reduceAdd, Nat.reduceLeDiff, or_true, true_or, false_or, or_false, and_self, and_false, false_and, implies_true, Option.some.injEq, exists_eq_left', nL, nI_add, nI_mul, nI_clamp, nI_ltI, nI_leI, nI_eq, nI_pos, nI_pos', Nat.reduceAdd, Nat.reduceMul, Nat.reducePow]
          refine t_mp (d := 998) X4 hL ha1 hb1 ?_ (hn (gI σ (gB G + 56))) 0 _ _ _ (by omega)
          intro x7 x8 x9 x10
          cases q : mp (dM (gI σ (gB G + 56))) a b (hn (gI σ (gB G + 56))) with
          | none =>
            rw [q] at hx
            have hx : x = -nI 1 := by
              rw [hx]
              split <;> rfl
            subst hx
            simp (disch := omega) only [e_268_157, e_268_159, e_268_160, e_268_163, e_268_164, e_268_167, e_268_169, e_268_172, e_268_174, n10, n01, Nat.lt_irrefl, Nat.not_lt_zero, ne_eq, Nat.add_zero, Nat.one_ne_zero, Nat.zero_ne_one, Nat.reduceEqDiff, bI_T, bI_F, bI_0, bI_1, bI_01, not_and_self, true_and, and_true, not_true_eq_false, not_false_eq_true, false_imp_iff, true_imp_iff, imp_self, gPv_n, gPv_i, gPv_r, gPv_0, Option.toList_some, Option.toList_none, List.singleton_append, List.cons_append, List.nil_append, List.length_nil, List.length_cons, Nat.zero_le, Nat.reduceAdd, Nat.reduceLeDiff, or_true, true_or, false_or, or_false, and_self, and_false, false_and, implies_true, Option.some.injEq, exists_eq_left', nL, nI_add, nI_mul, nI_clamp, nI_ltI, nI_leI, nI_eq, nI_pos, nI_pos', Nat.reduceAdd, Nat.reduceMul, Nat.reducePow, mpI, mpc]
            exact fin
          | some w =>
            obtain ⟨p, L, S⟩ := w
            obtain ⟨o1, o2, o3, o4⟩ := mp_ok _ _ _ _ q
            have np : ¬ nI p = -nI 1 := fun z => ng_ne 1 p (by omega) (by omega) (by omega) z.symm
            rw [q] at hx
            by_cases y0 : y = 0
            · rw [if_pos y0] at hx
              have hx : x = nI p := hx
              subst hx
              simp (disch := omega) only [e_268_157, e_268_159, e_268_160, e_268_163, e_268_164, e_268_167, e_268_169, e_268_172, e_268_174, n10, n01, Nat.lt_irrefl, Nat.not_lt_zero, ne_eq, Nat.add_zero, Nat.one_ne_zero, Nat.zero_ne_one, Nat.reduceEqDiff, bI_T, bI_F, bI_0, bI_1, bI_01, not_and_self, true_and, and_true, not_true_eq_false, not_false_eq_true, false_imp_iff, true_imp_iff, imp_self, gPv_n, gPv_i, gPv_r, gPv_0, Option.toList_some, Option.toList_none, List.singleton_append, List.cons_append, List.nil_append, List.length_nil, List.length_cons, Nat.zero_le, Nat.reduceAdd, Nat.reduceLeDiff, or_true, true_or, false_or, or_false, and_self, and_false, false_and, implies_true, Option.some.injEq, exists_eq_left', nL, nI_add, nI_mul, nI_clamp, nI_ltI, nI_leI, nI_eq, nI_pos, nI_pos', Nat.reduceAdd, Nat.reduceMul, Nat.reducePow, mpI, mpc, np, y0]
              exact fin
            · rw [if_neg y0] at hx
              have hx : x = nI L := hx
              subst hx
              simp (disch := omega) only [e_268_157, e_268_159, e_268_160, e_268_163, e_268_164, e_268_167, e_268_169, e_268_172, e_268_174, n10, n01, Nat.lt_irrefl, Nat.not_lt_zero, ne_eq, Nat.add_zero, Nat.one_ne_zero, Nat.zero_ne_one, Nat.reduceEqDiff, bI_T, bI_F, bI_0, bI_1, bI_01, not_and_self, true_and, and_true, not_true_eq_false, not_false_eq_true, false_imp_iff, true_imp_iff, imp_self, gPv_n, gPv_i, gPv_r, gPv_0, Option.toList_some, Option.toList_none, List.singleton_append, List.cons_append, List.nil_append, List.length_nil, List.length_cons, Nat.zero_le, Nat.reduceAdd, Nat.reduceLeDiff, or_true, true_or, false_or, or_false, and_self, and_false, false_and, implies_true, Option.some.injEq, exists_eq_left', nL, nI_add, nI_mul, nI_clamp, nI_ltI, nI_leI, nI_eq, nI_pos, nI_pos', Nat.reduceAdd, Nat.reduceMul, Nat.reducePow, mpI, mpc, np, y0]
              exact fin
        simp (disch := omega) only [e_147_47, e_147_48, e_147_51, e_147_52, e_147_53, n10, n01, Nat.lt_irrefl, Nat.not_lt_zero, ne_eq, Nat.add_zero, Nat.one_ne_zero, Nat.zero_ne_one, Nat.reduceEqDiff, bI_T, bI_F, bI_0, bI_1, bI_01, not_and_self, true_and, and_true, not_true_eq_false, not_false_eq_true, false_imp_iff, true_imp_iff, imp_self, gPv_n, gPv_i, gPv_r, gPv_0, Option.toList_some, Option.toList_none, List.singleton_append, List.cons_append, List.nil_append, List.length_nil, List.length_cons, Nat.zero_le, Nat.reduceAdd, Nat.reduceLeDiff, or_true, true_or, false_or, or_false, and_self, and_false, false_and, implies_true, Option.some.injEq, exists_eq_left', nL, nI_add, nI_mul, nI_clamp, nI_ltI, nI_leI, nI_eq, nI_pos, nI_pos', Nat.reduceAdd, Nat.reduceMul, Nat.reducePow, sk_0 hv2, sr_0_0 hv2, sr_0_1 hv2, sr_0_2 hv2, sr_0_4 hv2, sr_0_7 hv2, sr_0_9 hv2, sr_0_10 hv2, sr_0_11 hv2, sr_0_12 hv2, sr_0_13 hv2, sr_0_14 hv2, sk_25 hv2, sr_25_0 hv2, sr_25_1 hv2, sr_25_2 hv2, sr_25_3 hv2, sr_25_4 hv2, sr_25_5 hv2]
        refine s_meetP (d := 995) hcT2 hM2 a12 b12 ?_
        cases q : mp (dM (gI σ (gB G + 56))) a b (hn (gI σ (gB G + 56))) with
        | none =>
          rw [q] at mod
          simp (disch := omega) only [e_147_56, e_147_58, e_147_60, e_147_61, e_147_64, e_147_65, e_147_68, e_147_70, n10, n01, Nat.lt_irrefl, Nat.not_lt_zero, ne_eq, Nat.add_zero, Nat.one_ne_zero, Nat.zero_ne_one, Nat.reduceEqDiff, bI_T, bI_F, bI_0, bI_1, bI_01, not_and_self, true_and, and_true, not_true_eq_false, not_false_eq_true, false_imp_iff, true_imp_iff, imp_self, gPv_n, gPv_i, gPv_r, gPv_0, Option.toList_some, Option.toList_none, List.singleton_append, List.cons_append, List.nil_append, List.length_nil, List.length_cons, Nat.zero_le, Nat.reduceAdd, Nat.reduceLeDiff, or_true, true_or, false_or, or_false, and_self, and_false, false_and, implies_true, Option.some.injEq, exists_eq_left', nL, nI_add, nI_mul, nI_clamp, nI_ltI, nI_leI, nI_eq, nI_pos, nI_pos', Nat.reduceAdd, Nat.reduceMul, Nat.reducePow, mpI]
          refine mod _ ?_
          split <;> rfl
        | some w =>
          obtain ⟨p, L, S⟩ := w
          obtain ⟨o1, o2, o3, o4⟩ := mp_ok _ _ _ _ q
          have np : ¬ nI p = -nI 1 := fun z => ng_ne 1 p (by omega) (by omega) (by omega) z.symm
          have p12 : p < 12 := by omega
          have s1 := sT_dM (A := gI σ (gB G + 56)) (a := a) (b := p)
          have s2 := sT_dM (A := gI σ (gB G + 56)) (a := b) (b := p)
          rw [if_neg (by omega)] at s1 s2
          rw [q] at mod
          by_cases y0 : y = 0
          · simp (disch := omega) only [e_147_56, e_147_58, e_147_60, e_147_61, e_147_64, e_147_65, e_147_68, e_147_70, n10, n01, Nat.lt_irrefl, Nat.not_lt_zero, ne_eq, Nat.add_zero, Nat.one_ne_zero, Nat.zero_ne_one, Nat.reduceEqDiff, bI_T, bI_F, bI_0, bI_1, bI_01, not_and_self, true_and, and_true, not_true_eq_false, not_false_eq_true, false_imp_iff, true_imp_iff, imp_self, gPv_n, gPv_i, gPv_r, gPv_0, Option.toList_some, Option.toList_none, List.singleton_append, List.cons_append, List.nil_append, List.length_nil, List.length_cons, Nat.zero_le, Nat.reduceAdd, Nat.reduceLeDiff, or_true, true_or, false_or, or_false, and_self, and_false, false_and, implies_true, Option.some.injEq, exists_eq_left', nL, nI_add, nI_mul, nI_clamp, nI_ltI, nI_leI, nI_eq, nI_pos, nI_pos', Nat.reduceAdd, Nat.reduceMul, Nat.reducePow, mpI, np, y0]
            subst y0
            exact mod _ rfl
          · simp (disch := omega) only [e_147_56, e_147_58, e_147_60, e_147_61, e_147_64, e_147_65, e_147_68, e_147_70, e_147_71, e_147_72, e_147_75, e_147_76, e_147_78, e_147_81, e_147_82, e_147_85, e_147_86, e_147_88, e_147_91, e_147_94, n10, n01, Nat.lt_irrefl, Nat.not_lt_zero, ne_eq, Nat.add_zero, Nat.one_ne_zero, Nat.zero_ne_one, Nat.reduceEqDiff, bI_T, bI_F, bI_0, bI_1, bI_01, not_and_self, true_and, and_true, not_true_eq_false, not_false_eq_true, false_imp_iff, true_imp_iff, imp_self, gPv_n, gPv_i, gPv_r, gPv_0, Option.toList_some, Option.toList_none, List.singleton_append, List.cons_append, List.nil_append, List.length_nil, List.length_cons, Nat.zero_le, Nat.reduceAdd, Nat.reduceLeDiff, or_true, true_or, false_or, or_false, and_self, and_false, false_and, implies_true, Option.some.injEq, exists_eq_left', nL, nI_add, nI_mul, nI_clamp, nI_ltI, nI_leI, nI_eq, nI_pos, nI_pos', Nat.reduceAdd, Nat.reduceMul, Nat.reducePow, sk_0 hv2, sr_0_0 hv2, sr_0_1 hv2, sr_0_2 hv2, sr_0_4 hv2, sr_0_7 hv2, sr_0_9 hv2, sr_0_10 hv2, sr_0_11 hv2, sr_0_12 hv2, sr_0_13 hv2, sr_0_14 hv2, sk_25 hv2, sr_25_0 hv2, sr_25_1 hv2, sr_25_2 hv2, sr_25_3 hv2, sr_25_4 hv2, sr_25_5 hv2, mpI, np, y0, s_shT hv2 hM2 a12 p12, s_shT hv2 hM2 b12 p12, s1, s2, nI_max2]
            refine mod _ ?_
            rw [if_neg y0, ← o2]
      · have h3' := nin (by omega) h3
        simp (disch := first | omega | (simp only [IvS_I, IvS_J, IvS_r]; assumption)) only [List.map_cons, List.map_nil, Value.int.injEq, gSc_r, gSc_I, n10, n01, Nat.lt_irrefl, Nat.not_lt_zero, ne_eq, Nat.add_zero, Nat.one_ne_zero, Nat.zero_ne_one, Nat.reduceEqDiff, bI_T, bI_F, bI_0, bI_1, bI_01, not_and_self, true_and, and_true, not_true_eq_false, not_false_eq_true, false_imp_iff, true_imp_iff, imp_self, gPv_n, gPv_i, gPv_r, gPv_0, Option.toList_some, Option.toList_none, List.singleton_append, List.cons_append, List.nil_append, List.length_nil, List.length_cons, Nat.zero_le, Nat.reduceAdd, Nat.reduceLeDiff, or_true, true_or, false_or, or_false, and_self, and_false, false_and, implies_true, Option.some.injEq, exists_eq_left', nL, c_147, e_147_0, e_147_1, e_147_4, e_147_5, e_147_8, e_147_11, e_147_12, e_147_15, e_147_16, e_147_19, e_147_22, e_147_23, e_147_24, e_147_25, e_147_28, e_147_31, e_147_32, c_268, e_268_0, e_268_1, e_268_2, e_268_5, e_268_8, e_268_9, e_268_10, e_268_13, e_268_16, e_268_17, e_268_18, e_268_19, e_268_22, e_268_25, e_268_26, sk_0 hv, sr_0_0 hv, sr_0_1 hv, sr_0_2 hv, sr_0_4 hv, sr_0_7 hv, sr_0_9 hv, sr_0_10 hv, sr_0_11 hv, sr_0_12 hv, sr_0_13 hv, sr_0_14 hv, sk_1 hv, sr_1_0 hv, sr_1_1 hv, sr_1_2 hv, sr_1_3 hv, sr_1_4 hv, sr_1_7 hv, sr_1_9 hv, sr_1_14 hv, sr_1_15 hv, sr_1_16 hv, sk_54 hv, sr_54_2 hv, sr_54_3 hv, sr_54_4 hv, sr_54_5 hv, sr_54_7 hv, sr_54_8 hv, sr_54_9 hv, sr_54_12 hv, sr_54_13 hv, sr_54_14 hv, sr_54_22 hv, sr_54_25 hv, sr_54_26 hv, sr_54_27 hv, sr_54_34 hv, sr_54_35 hv, sr_54_36 hv, sr_54_37 hv, sr_54_38 hv, sr_54_40 hv, sr_54_43 hv, sr_54_44 hv, sr_54_45 hv, sr_54_46 hv, sr_54_47 hv, s_has (sk_1 hv), s_within, t_isHouse hv, t_lies, e5, hn2, le_sub1, ha1, hb1, h3, nI_ltI, nI_leI]
        exact Inv_up hI
    · simp (disch := first | omega | (simp only [IvS_I, IvS_J, IvS_r]; assumption)) only [List.map_cons, List.map_nil, Value.int.injEq, gSc_r, gSc_I, n10, n01, Nat.lt_irrefl, Nat.not_lt_zero, ne_eq, Nat.add_zero, Nat.one_ne_zero, Nat.zero_ne_one, Nat.reduceEqDiff, bI_T, bI_F, bI_0, bI_1, bI_01, not_and_self, true_and, and_true, not_true_eq_false, not_false_eq_true, false_imp_iff, true_imp_iff, imp_self, gPv_n, gPv_i, gPv_r, gPv_0, Option.toList_some, Option.toList_none, List.singleton_append, List.cons_append, List.nil_append, List.length_nil, List.length_cons, Nat.zero_le, Nat.reduceAdd, Nat.reduceLeDiff, or_true, true_or, false_or, or_false, and_self, and_false, false_and, implies_true, Option.some.injEq, exists_eq_left', nL, c_147, e_147_0, e_147_1, e_147_4, e_147_5, e_147_8, e_147_11, e_147_12, e_147_15, e_147_16, e_147_19, e_147_22, e_147_23, e_147_24, e_147_25, e_147_28, e_147_31, e_147_32, c_268, e_268_0, e_268_1, e_268_2, e_268_5, e_268_8, e_268_9, e_268_10, e_268_13, e_268_16, e_268_17, e_268_18, e_268_19, e_268_22, e_268_25, e_268_26, sk_0 hv, sr_0_0 hv, sr_0_1 hv, sr_0_2 hv, sr_0_4 hv, sr_0_7 hv, sr_0_9 hv, sr_0_10 hv, sr_0_11 hv, sr_0_12 hv, sr_0_13 hv, sr_0_14 hv, sk_1 hv, sr_1_0 hv, sr_1_1 hv, sr_1_2 hv, sr_1_3 hv, sr_1_4 hv, sr_1_7 hv, sr_1_9 hv, sr_1_14 hv, sr_1_15 hv, sr_1_16 hv, sk_54 hv, sr_54_2 hv, sr_54_3 hv, sr_54_4 hv, sr_54_5 hv, sr_54_7 hv, sr_54_8 hv, sr_54_9 hv, sr_54_12 hv, sr_54_13 hv, sr_54_14 hv, sr_54_22 hv, sr_54_25 hv, sr_54_26 hv, sr_54_27 hv, sr_54_34 hv, sr_54_35 hv, sr_54_36 hv, sr_54_37 hv, sr_54_38 hv, sr_54_40 hv, sr_54_43 hv, sr_54_44 hv, sr_54_45 hv, sr_54_46 hv, sr_54_47 hv, s_has (sk_1 hv), t_isHouse hv, e5, hn2, le_sub1, h0, h1]
      exact Inv_up hI
  · simp (disch := first | omega | (simp only [IvS_I, IvS_J, IvS_r]; assumption)) only [List.map_cons, List.map_nil, Value.int.injEq, gSc_r, gSc_I, n10, n01, Nat.lt_irrefl, Nat.not_lt_zero, ne_eq, Nat.add_zero, Nat.one_ne_zero, Nat.zero_ne_one, Nat.reduceEqDiff, bI_T, bI_F, bI_0, bI_1, bI_01, not_and_self, true_and, and_true, not_true_eq_false, not_false_eq_true, false_imp_iff, true_imp_iff, imp_self, gPv_n, gPv_i, gPv_r, gPv_0, Option.toList_some, Option.toList_none, List.singleton_append, List.cons_append, List.nil_append, List.length_nil, List.length_cons, Nat.zero_le, Nat.reduceAdd, Nat.reduceLeDiff, or_true, true_or, false_or, or_false, and_self, and_false, false_and, implies_true, Option.some.injEq, exists_eq_left', nL, c_147, e_147_0, e_147_1, e_147_4, e_147_5, e_147_8, e_147_11, e_147_12, e_147_15, e_147_16, e_147_19, e_147_22, e_147_23, e_147_24, e_147_25, e_147_28, e_147_31, e_147_32, c_268, e_268_0, e_268_1, e_268_2, e_268_5, e_268_8, e_268_9, e_268_10, e_268_13, e_268_16, e_268_17, e_268_18, e_268_19, e_268_22, e_268_25, e_268_26, sk_0 hv, sr_0_0 hv, sr_0_1 hv, sr_0_2 hv, sr_0_4 hv, sr_0_7 hv, sr_0_9 hv, sr_0_10 hv, sr_0_11 hv, sr_0_12 hv, sr_0_13 hv, sr_0_14 hv, sk_1 hv, sr_1_0 hv, sr_1_1 hv, sr_1_2 hv, sr_1_3 hv, sr_1_4 hv, sr_1_7 hv, sr_1_9 hv, sr_1_14 hv, sr_1_15 hv, sr_1_16 hv, sk_54 hv, sr_54_2 hv, sr_54_3 hv, sr_54_4 hv, sr_54_5 hv, sr_54_7 hv, sr_54_8 hv, sr_54_9 hv, sr_54_12 hv, sr_54_13 hv, sr_54_14 hv, sr_54_22 hv, sr_54_25 hv, sr_54_26 hv, sr_54_27 hv, sr_54_34 hv, sr_54_35 hv, sr_54_36 hv, sr_54_37 hv, sr_54_38 hv, sr_54_40 hv, sr_54_43 hv, sr_54_44 hv, sr_54_45 hv, sr_54_46 hv, sr_54_47 hv, s_has (sk_1 hv), t_isHouse hv, e5, hn2, le_sub1, h0]
    exact Inv_up hI
end
