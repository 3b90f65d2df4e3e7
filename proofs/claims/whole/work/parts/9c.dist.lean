/-! the model's distances -/
def un (f : Nat → Nat) (k v : Nat) : Nat → Nat := fun j => if j = k then v else f j
theorem un_eq {f : Nat → Nat} {k v : Nat} : un f k v k = v := if_pos rfl
theorem un_ne {f : Nat → Nat} {k v j : Nat} (h : j ≠ k) : un f k v j = f j := if_neg h
def pot (α β : Nat → Nat) : Nat → Nat
  | 0 => 0
  | n + 1 => pot α β n + (1048576 * α n + β n)
theorem pot_n {α β : Nat → Nat} {h v u : Nat} : ∀ n, n ≤ h → pot (un α h v) (un β h u) n = pot α β n := by
  intro n
  induction n with
  | zero => intro _; rfl
  | succ n ih =>
    intro hn
    simp only [pot]
    rw [ih (by omega), un_ne (by omega), un_ne (by omega)]
theorem pot_u {α β : Nat → Nat} {h v u : Nat} (hl : 1048576 * v + u < 1048576 * α h + β h) : ∀ n, h < n → pot (un α h v) (un β h u) n < pot α β n := by
  intro n
  induction n with
  | zero => intro z; omega
  | succ n ih =>
    intro hn
    simp only [pot]
    by_cases c : n = h
    · subst c
      rw [pot_n n (Nat.le_refl _), un_eq, un_eq]
      omega
    · have := ih (by omega)
      rw [un_ne c, un_ne c]
      omega
def DP (A : Nat → Int32) (t : Nat) (α β : Nat → Nat) : Prop := α t = 0 ∧ β t = 0 ∧ ∀ h, h < hn A → α h ≤ 1000000 ∧ β h ≤ α h ∧ (α h = 1000000 → β h = 0) ∧ (α h < 1000000 → Wk (eM A) (wM A) t (β h) h (α h))
def rlx (A : Nat → Int32) (α β : Nat → Nat) (h k : Nat) : Prop := eM A h k = true → α k ≠ 1000000 → lex (α h) (β h) (wM A h k + α k) (β k + 1)
def DC (A : Nat → Int32) (α0 β0 α β : Nat → Nat) (c h k : Nat) : Prop := (c = 0 ∧ α = α0 ∧ β = β0 ∧ ∀ h' k', k' < hn A → (h' < h ∨ h' = h ∧ k' < k) → rlx A α β h' k') ∨ (c = 1 ∧ pot α β (hn A) < pot α0 β0 (hn A))
theorem DC_k {A : Nat → Int32} {α0 β0 α β : Nat → Nat} {c h k : Nat} (hd : DC A α0 β0 α β c h k) (hr : rlx A α β h k) : DC A α0 β0 α β c h (k + 1) := by
  rcases hd with ⟨h1, h2, h3, h4⟩ | hd
  · refine Or.inl ⟨h1, h2, h3, ?_⟩
    intro h' k' hk hh
    by_cases z : h' = h ∧ k' = k
    · rw [z.1, z.2]; exact hr
    · exact h4 h' k' hk (by omega)
  · exact Or.inr hd
theorem DC_h {A : Nat → Int32} {α0 β0 α β : Nat → Nat} {c h : Nat} (hd : DC A α0 β0 α β c h (hn A)) : DC A α0 β0 α β c (h + 1) 0 := by
  rcases hd with ⟨h1, h2, h3, h4⟩ | hd
  · refine Or.inl ⟨h1, h2, h3, ?_⟩
    intro h' k' hk hh
    exact h4 h' k' hk (by omega)
  · exact Or.inr hd
theorem DC_u {A : Nat → Int32} {α0 β0 α β : Nat → Nat} {c h k v u : Nat} (hd : DC A α0 β0 α β c h k) (hh : h < hn A) (hl : 1048576 * v + u < 1048576 * α h + β h) : DC A α0 β0 (un α h v) (un β h u) 1 h (k + 1) := by
  have g := pot_u hl (hn A) hh
  rcases hd with ⟨_, h2, h3, _⟩ | ⟨_, hd⟩
  · rw [h2, h3] at g ⊢
    exact Or.inr ⟨rfl, g⟩
  · exact Or.inr ⟨rfl, by omega⟩
theorem DP_u {A : Nat → Int32} {t h k : Nat} {α β : Nat → Nat} (hp : DP A t α β) (he : eM A h k = true) (hk : α k < 1000000) (hlt : wM A h k + α k < α h ∨ wM A h k + α k = α h ∧ β k + 1 < β h) : DP A t (un α h (wM A h k + α k)) (un β h (β k + 1)) ∧ 1048576 * (wM A h k + α k) + (β k + 1) < 1048576 * α h + β h := by
  obtain ⟨hh, hkn, hne, _, _⟩ := eM_h he
  obtain ⟨p1, p2, p3⟩ := hp
  have w1 := (wM_r (A := A) (a := h) (b := k)).2.1
  obtain ⟨a1, a2, a3, a4⟩ := p3 h hh
  obtain ⟨b1, b2, b3, b4⟩ := p3 k hkn
  have ht : h ≠ t := by
    intro z
    rw [z, p1] at hlt
    rw [z] at w1
    omega
  refine ⟨⟨by rw [un_ne ht.symm]; exact p1, by rw [un_ne ht.symm]; exact p2, ?_⟩, ?_⟩
  · intro j hj
    by_cases c : j = h
    · subst c
      rw [un_eq, un_eq]
      refine ⟨by omega, by omega, by omega, ?_⟩
      intro _
      exact ⟨k, α k, he, b4 hk, rfl⟩
    · rw [un_ne c, un_ne c]
      exact p3 j hj
  · omega
section
variable {B : Nat} {σ : gS} {A : Nat → Int32} {d t : Nat} {Q : Option Value → gS → Prop}
def DsI (B : Nat) (A : Nat → Int32) (t : Nat) (α β : Nat → Nat) (τ : gS) : Prop := (∀ h, h < hn A → gI τ (B + 71) h = nI (α h) ∧ gI τ (B + 72) h = nI (β h)) ∧ DP A t α β
abbrev dsP (B a : Nat) : Prop := a = B + 71 ∨ a = B + 72
def M67 (B : Nat) (A : Nat → Int32) (σ : gS) : Prop := (∀ a, a < hn A → gI σ (B + 66) a = nI (opn A (A 249) a)) ∧ ∀ a b, a < hn A → b < hn A → a ≠ b → gI σ (B + 67) (12 * a + b) = nI (wM A a b)
set_option maxHeartbeats 1000000 in
theorem t_ds1 {h : Nat} {α0 β0 : Nat → Nat} (X : MX B σ A) (hM : M67 B A σ) (hh : h < hn A) (K : ∀ τ' α' β' c' x4 x5, Sm (dsP B) σ τ' → DsI B A t α' β' τ' → DC A α0 β0 α' β' c' (h + 1) 0 → wp (d + 1) pr_242 Q 195 [some (.ref (B + 54)), some (.int (nI t)), some (.int (nI c')), some (.int (nI h)), x4, x5] [] τ') : ∀ m k τ α β c x5, k + m = hn A → Sm (dsP B) σ τ → DsI B A t α β τ → DC A α0 β0 α β c h k → wp (d + 1) pr_242 Q 61 [some (.ref (B + 54)), some (.int (nI t)), some (.int (nI c)), some (.int (nI h)), some (.int (nI k)), x5] [] τ := by
  have wh := X.2.2.1
  have h12 := hn_le wh
  have hn2 := hn_eq wh
  intro m
  induction m with
  | zero =>
    intro k τ α β c x5 hk hS hD hC
    obtain ⟨hv, hA, _⟩ := MX_S X hS (by omega)
    have z : hn A ≤ k := by omega
    have e : k = hn A := by omega
    simp (disch := omega) only [e_242_61, e_242_63, e_242_64, e_242_67, n10, n01, Nat.lt_irrefl, Nat.not_lt_zero, ne_eq, Nat.add_zero, Nat.one_ne_zero, Nat.zero_ne_one, Nat.reduceEqDiff, bI_T, bI_F, bI_0, bI_1, bI_01, not_and_self, true_and, and_true, not_true_eq_false, not_false_eq_true, false_imp_iff, true_imp_iff, imp_self, gPv_n, gPv_i, gPv_r, gPv_0, Option.toList_some, Option.toList_none, List.singleton_append, List.cons_append, List.nil_append, List.length_nil, List.length_cons, Nat.zero_le, Nat.reduceAdd, Nat.reduceLeDiff, or_true, true_or, false_or, or_false, and_self, and_false, false_and, implies_true, Option.some.injEq, exists_eq_left', nL, nI_add, nI_mul, nI_clamp, nI_ltI, nI_leI, nI_eq, nI_pos, nI_pos', Nat.reduceAdd, Nat.reduceMul, Nat.reducePow, sk_54 hv, sr_54_2 hv, sr_54_3 hv, sr_54_4 hv, sr_54_5 hv, sr_54_7 hv, sr_54_8 hv, sr_54_9 hv, sr_54_12 hv, sr_54_13 hv, sr_54_14 hv, sr_54_22 hv, sr_54_25 hv, sr_54_26 hv, sr_54_27 hv, sr_54_34 hv, sr_54_35 hv, sr_54_36 hv, sr_54_37 hv, sr_54_38 hv, sr_54_40 hv, sr_54_43 hv, sr_54_44 hv, sr_54_45 hv, sr_54_46 hv, sr_54_47 hv, t_houses hv, hA, hn2, z]
    exact K τ α β c _ _ hS hD (DC_h (by rw [← e]; exact hC))
  | succ m ih =>
    intro k τ α β c x5 hk hS hD hC
    obtain ⟨hv, hA, _⟩ := MX_S X hS (by omega)
    have z : ¬ hn A ≤ k := by omega
    have hkn : k < hn A := by omega
    have k12 : k < 12 := by omega
    have hh12 : h < 12 := by omega
    obtain ⟨hR, hP⟩ := hD
    obtain ⟨r1, r2⟩ := hR h hh
    obtain ⟨s1, s2⟩ := hR k hkn
    have e66 : gI τ (B + 66) h = nI (opn A (A 249) h) := by rw [hS.2.2.2.2.2.2.1 _ (by omega)]; exact hM.1 h hh
    have ol : opn A (A 249) h < 4096 := opn_lt wh
    obtain ⟨a1, a2, a3, a4⟩ := hP.2.2 h hh
    obtain ⟨b1, b2, b3, b4⟩ := hP.2.2 k hkn
    have w99 := (wM_r (A := A) (a := h) (b := k)).2.2
    rw [e_242_61]
    cases ce : eM A h k
    · have c' : (opn A (A 249) h).testBit k = false := ce
      simp (disch := omega) only [e_242_63, e_242_64, e_242_67, e_242_70, e_242_71, e_242_74, e_242_75, e_242_76, e_242_78, e_242_81, e_242_189, e_242_192, n10, n01, Nat.lt_irrefl, Nat.not_lt_zero, ne_eq, Nat.add_zero, Nat.one_ne_zero, Nat.zero_ne_one, Nat.reduceEqDiff, bI_T, bI_F, bI_0, bI_1, bI_01, not_and_self, true_and, and_true, not_true_eq_false, not_false_eq_true, false_imp_iff, true_imp_iff, imp_self, gPv_n, gPv_i, gPv_r, gPv_0, Option.toList_some, Option.toList_none, List.singleton_append, List.cons_append, List.nil_append, List.length_nil, List.length_cons, Nat.zero_le, Nat.reduceAdd, Nat.reduceLeDiff, or_true, true_or, false_or, or_false, and_self, and_false, false_and, implies_true, Option.some.injEq, exists_eq_left', nL, nI_add, nI_mul, nI_clamp, nI_ltI, nI_leI, nI_eq, nI_pos, nI_pos', Nat.reduceAdd, Nat.reduceMul, Nat.reducePow, sk_54 hv, sr_54_2 hv, sr_54_3 hv, sr_54_4 hv, sr_54_5 hv, sr_54_7 hv, sr_54_8 hv, sr_54_9 hv, sr_54_12 hv, sr_54_13 hv, sr_54_14 hv, sr_54_22 hv, sr_54_25 hv, sr_54_26 hv, sr_54_27 hv, sr_54_34 hv, sr_54_35 hv, sr_54_36 hv, sr_54_37 hv, sr_54_38 hv, sr_54_40 hv, sr_54_43 hv, sr_54_44 hv, sr_54_45 hv, sr_54_46 hv, sr_54_47 hv, sk_66 hv, sn_66 hv, t_houses hv, hA, hn2, z, t_isIn, e66, c', hh12, Bool.false_eq_true]
      exact ih (k + 1) τ α β c _ (by omega) hS ⟨hR, hP⟩ (DC_k hC (fun q => absurd q (by rw [ce]; simp)))
    · have c' : (opn A (A 249) h).testBit k = true := ce
      obtain ⟨_, _, hne, _, _⟩ := eM_h ce
      have e67 : gI τ (B + 67) (12 * h + k) = nI (wM A h k) := by rw [hS.2.2.2.2.2.2.1 _ (by omega)]; exact hM.2 h k hh hkn hne
      have z144 : 12 * h + k < 144 := by omega
      by_cases ci : α k = 1000000
      · simp (disch := omega) only [e_242_63, e_242_64, e_242_67, e_242_70, e_242_71, e_242_74, e_242_75, e_242_76, e_242_78, e_242_81, e_242_84, e_242_85, e_242_88, e_242_90, e_242_91, e_242_93, e_242_96, e_242_189, e_242_192, n10, n01, Nat.lt_irrefl, Nat.not_lt_zero, ne_eq, Nat.add_zero, Nat.one_ne_zero, Nat.zero_ne_one, Nat.reduceEqDiff, bI_T, bI_F, bI_0, bI_1, bI_01, not_and_self, true_and, and_true, not_true_eq_false, not_false_eq_true, false_imp_iff, true_imp_iff, imp_self, gPv_n, gPv_i, gPv_r, gPv_0, Option.toList_some, Option.toList_none, List.singleton_append, List.cons_append, List.nil_append, List.length_nil, List.length_cons, Nat.zero_le, Nat.reduceAdd, Nat.reduceLeDiff, or_true, true_or, false_or, or_false, and_self, and_false, false_and, implies_true, Option.some.injEq, exists_eq_left', nL, nI_add, nI_mul, nI_clamp, nI_ltI, nI_leI, nI_eq, nI_pos, nI_pos', Nat.reduceAdd, Nat.reduceMul, Nat.reducePow, sk_54 hv, sr_54_2 hv, sr_54_3 hv, sr_54_4 hv, sr_54_5 hv, sr_54_7 hv, sr_54_8 hv, sr_54_9 hv, sr_54_12 hv, sr_54_13 hv, sr_54_14 hv, sr_54_22 hv, sr_54_25 hv, sr_54_26 hv, sr_54_27 hv, sr_54_34 hv, sr_54_35 hv, sr_54_36 hv, sr_54_37 hv, sr_54_38 hv, sr_54_40 hv, sr_54_43 hv, sr_54_44 hv, sr_54_45 hv, sr_54_46 hv, sr_54_47 hv, sk_66 hv, sn_66 hv, sk_71 hv, sn_71 hv, t_houses hv, hA, hn2, z, t_isIn, e66, c', hh12, k12, s1, ci]
        exact ih (k + 1) τ α β c _ (by omega) hS ⟨hR, hP⟩ (DC_k hC (fun _ q => absurd ci q))
      · by_cases c1 : α h < wM A h k + α k
        · simp (disch := omega) only [e_242_63, e_242_64, e_242_67, e_242_70, e_242_71, e_242_74, e_242_75, e_242_76, e_242_78, e_242_81, e_242_84, e_242_85, e_242_88, e_242_90, e_242_91, e_242_93, e_242_96, e_242_99, e_242_100, e_242_103, e_242_105, e_242_106, e_242_107, e_242_109, e_242_110, e_242_111, e_242_112, e_242_115, e_242_117, e_242_118, e_242_119, e_242_121, e_242_123, e_242_124, e_242_127, e_242_128, e_242_129, e_242_189, e_242_192, n10, n01, Nat.lt_irrefl, Nat.not_lt_zero, ne_eq, Nat.add_zero, Nat.one_ne_zero, Nat.zero_ne_one, Nat.reduceEqDiff, bI_T, bI_F, bI_0, bI_1, bI_01, not_and_self, true_and, and_true, not_true_eq_false, not_false_eq_true, false_imp_iff, true_imp_iff, imp_self, gPv_n, gPv_i, gPv_r, gPv_0, Option.toList_some, Option.toList_none, List.singleton_append, List.cons_append, List.nil_append, List.length_nil, List.length_cons, Nat.zero_le, Nat.reduceAdd, Nat.reduceLeDiff, or_true, true_or, false_or, or_false, and_self, and_false, false_and, implies_true, Option.some.injEq, exists_eq_left', nL, nI_add, nI_mul, nI_clamp, nI_ltI, nI_leI, nI_eq, nI_pos, nI_pos', Nat.reduceAdd, Nat.reduceMul, Nat.reducePow, sk_54 hv, sr_54_2 hv, sr_54_3 hv, sr_54_4 hv, sr_54_5 hv, sr_54_7 hv, sr_54_8 hv, sr_54_9 hv, sr_54_12 hv, sr_54_13 hv, sr_54_14 hv, sr_54_22 hv, sr_54_25 hv, sr_54_26 hv, sr_54_27 hv, sr_54_34 hv, sr_54_35 hv, sr_54_36 hv, sr_54_37 hv, sr_54_38 hv, sr_54_40 hv, sr_54_43 hv, sr_54_44 hv, sr_54_45 hv, sr_54_46 hv, sr_54_47 hv, sk_66 hv, sn_66 hv, sk_67 hv, sn_67 hv, sk_71 hv, sn_71 hv, t_houses hv, hA, hn2, z, t_isIn, e66, e67, c', hh12, k12, z144, s1, r1, ci, c1]
          exact ih (k + 1) τ α β c _ (by omega) hS ⟨hR, hP⟩ (DC_k hC (fun _ _ => Or.inl c1))
        · by_cases c2 : wM A h k + α k = α h ∧ ¬ β k + 1 < β h
          · obtain ⟨c3, c4⟩ := c2
            simp (disch := omega) only [e_242_63, e_242_64, e_242_67, e_242_70, e_242_71, e_242_74, e_242_75, e_242_76, e_242_78, e_242_81, e_242_84, e_242_85, e_242_88, e_242_90, e_242_91, e_242_93, e_242_96, e_242_99, e_242_100, e_242_103, e_242_105, e_242_106, e_242_107, e_242_109, e_242_110, e_242_111, e_242_112, e_242_115, e_242_117, e_242_118, e_242_119, e_242_121, e_242_123, e_242_124, e_242_127, e_242_128, e_242_129, e_242_132, e_242_134, e_242_135, e_242_138, e_242_139, e_242_140, e_242_143, e_242_144, e_242_147, e_242_149, e_242_150, e_242_151, e_242_152, e_242_153, e_242_156, e_242_157, e_242_158, e_242_161, e_242_189, e_242_192, n10, n01, Nat.lt_irrefl, Nat.not_lt_zero, ne_eq, Nat.add_zero, Nat.one_ne_zero, Nat.zero_ne_one, Nat.reduceEqDiff, bI_T, bI_F, bI_0, bI_1, bI_01, not_and_self, true_and, and_true, not_true_eq_false, not_false_eq_true, false_imp_iff, true_imp_iff, imp_self, gPv_n, gPv_i, gPv_r, gPv_0, Option.toList_some, Option.toList_none, List.singleton_append, List.cons_append, List.nil_append, List.length_nil, List.length_cons, Nat.zero_le, Nat.reduceAdd, Nat.reduceLeDiff, or_true, true_or, false_or, or_false, and_self, and_false, false_and, implies_true, Option.some.injEq, exists_eq_left', nL, nI_add, nI_mul, nI_clamp, nI_ltI, nI_leI, nI_eq, nI_pos, nI_pos', Nat.reduceAdd, Nat.reduceMul, Nat.reducePow, sk_54 hv, sr_54_2 hv, sr_54_3 hv, sr_54_4 hv, sr_54_5 hv, sr_54_7 hv, sr_54_8 hv, sr_54_9 hv, sr_54_12 hv, sr_54_13 hv, sr_54_14 hv, sr_54_22 hv, sr_54_25 hv, sr_54_26 hv, sr_54_27 hv, sr_54_34 hv, sr_54_35 hv, sr_54_36 hv, sr_54_37 hv, sr_54_38 hv, sr_54_40 hv, sr_54_43 hv, sr_54_44 hv, sr_54_45 hv, sr_54_46 hv, sr_54_47 hv, sk_66 hv, sn_66 hv, sk_67 hv, sn_67 hv, sk_71 hv, sn_71 hv, sk_72 hv, sn_72 hv, t_houses hv, hA, hn2, z, t_isIn, e66, e67, c', hh12, k12, z144, s1, r1, s2, r2, ci, c1, c3, c4, Nat.lt_irrefl]
            exact ih (k + 1) τ α β c _ (by omega) hS ⟨hR, hP⟩ (DC_k hC (fun _ _ => Or.inr ⟨c3.symm, by omega⟩))
          · have hlt : wM A h k + α k < α h ∨ wM A h k + α k = α h ∧ β k + 1 < β h := by omega
            obtain ⟨hP', hl⟩ := DP_u hP ce (by omega) hlt
            have st : wp (d + 1) pr_242 Q 164 [some (.ref (B + 54)), some (.int (nI t)), some (.int (nI c)), some (.int (nI h)), some (.int (nI k)), some (.int (nI (wM A h k + α k)))] [] τ := by
              have s2' : gI (sI τ (B + 71) h (nI (wM A h k + α k))) (B + 72) k = nI (β k) := by rw [rI_ne (by omega)]; exact s2
              simp (disch := first | omega | (simp only [IvS_I]; assumption)) only [e_242_164, e_242_165, e_242_168, e_242_169, e_242_171, e_242_172, e_242_173, e_242_176, e_242_177, e_242_178, e_242_181, e_242_183, e_242_184, e_242_185, e_242_186, e_242_187, e_242_188, e_242_189, e_242_192, n10, n01, Nat.lt_irrefl, Nat.not_lt_zero, ne_eq, Nat.add_zero, Nat.one_ne_zero, Nat.zero_ne_one, Nat.reduceEqDiff, bI_T, bI_F, bI_0, bI_1, bI_01, not_and_self, true_and, and_true, not_true_eq_false, not_false_eq_true, false_imp_iff, true_imp_iff, imp_self, gPv_n, gPv_i, gPv_r, gPv_0, Option.toList_some, Option.toList_none, List.singleton_append, List.cons_append, List.nil_append, List.length_nil, List.length_cons, Nat.zero_le, Nat.reduceAdd, Nat.reduceLeDiff, or_true, true_or, false_or, or_false, and_self, and_false, false_and, implies_true, Option.some.injEq, exists_eq_left', nL, nI_add, nI_mul, nI_clamp, nI_ltI, nI_leI, nI_eq, nI_pos, nI_pos', Nat.reduceAdd, Nat.reduceMul, Nat.reducePow, sk_54 hv, sr_54_2 hv, sr_54_3 hv, sr_54_4 hv, sr_54_5 hv, sr_54_7 hv, sr_54_8 hv, sr_54_9 hv, sr_54_12 hv, sr_54_13 hv, sr_54_14 hv, sr_54_22 hv, sr_54_25 hv, sr_54_26 hv, sr_54_27 hv, sr_54_34 hv, sr_54_35 hv, sr_54_36 hv, sr_54_37 hv, sr_54_38 hv, sr_54_40 hv, sr_54_43 hv, sr_54_44 hv, sr_54_45 hv, sr_54_46 hv, sr_54_47 hv, sk_71 hv, sn_71 hv, sk_72 hv, sn_72 hv, n_K_I, n_K_J, n_K_R, n_K_r, n_N_I, n_N_J, n_N_R, n_N_r, n_R_I, n_R_J, n_R_r, n_J_I, n_J_R, n_J_r, n_I_J, n_I_R, n_n_I, n_n_J, n_n_R, n_n_r, n_w_I, n_w_J, n_w_R, n_w_r, n_T_I, n_T_J, n_T_R, n_T_r, rI_ne, rI_nk, rI_eq, rr_ne, rr_eq, n_J_J, n_R_R, Nat.add_left_cancel_iff, Nat.add_right_cancel_iff, Nat.add_eq_left, Nat.left_eq_add, Nat.reduceEqDiff, Nat.reduceAdd, Nat.zero_ne_one, Nat.one_ne_zero, false_and, and_false, true_and, and_true, and_self, if_false, if_true, ↓reduceIte, hh12, k12, s2]
              refine ih (k + 1) _ (un α h (wM A h k + α k)) (un β h (β k + 1)) 1 _ (by omega) (Sm_I (Sm_I hS (Or.inl rfl)) (Or.inr rfl)) ⟨?_, hP'⟩ (DC_u hC hh hl)
              intro j hj
              by_cases q : j = h
              · subst q
                rw [un_eq, un_eq, rI_ne (by omega), rI_eq, rI_eq]
                exact ⟨rfl, rfl⟩
              · rw [un_ne q, un_ne q, rI_ne (by omega), rI_nk q, rI_nk q, rI_ne (by omega)]
                exact hR j hj
            by_cases c3 : wM A h k + α k = α h
            · have c4 : β k + 1 < β h := by omega
              rw [c3] at st
              simp (disch := omega) only [e_242_63, e_242_64, e_242_67, e_242_70, e_242_71, e_242_74, e_242_75, e_242_76, e_242_78, e_242_81, e_242_84, e_242_85, e_242_88, e_242_90, e_242_91, e_242_93, e_242_96, e_242_99, e_242_100, e_242_103, e_242_105, e_242_106, e_242_107, e_242_109, e_242_110, e_242_111, e_242_112, e_242_115, e_242_117, e_242_118, e_242_119, e_242_121, e_242_123, e_242_124, e_242_127, e_242_128, e_242_129, e_242_132, e_242_134, e_242_135, e_242_138, e_242_139, e_242_140, e_242_143, e_242_144, e_242_147, e_242_149, e_242_150, e_242_151, e_242_152, e_242_153, e_242_156, e_242_157, e_242_158, e_242_161, n10, n01, Nat.lt_irrefl, Nat.not_lt_zero, ne_eq, Nat.add_zero, Nat.one_ne_zero, Nat.zero_ne_one, Nat.reduceEqDiff, bI_T, bI_F, bI_0, bI_1, bI_01, not_and_self, true_and, and_true, not_true_eq_false, not_false_eq_true, false_imp_iff, true_imp_iff, imp_self, gPv_n, gPv_i, gPv_r, gPv_0, Option.toList_some, Option.toList_none, List.singleton_append, List.cons_append, List.nil_append, List.length_nil, List.length_cons, Nat.zero_le, Nat.reduceAdd, Nat.reduceLeDiff, or_true, true_or, false_or, or_false, and_self, and_false, false_and, implies_true, Option.some.injEq, exists_eq_left', nL, nI_add, nI_mul, nI_clamp, nI_ltI, nI_leI, nI_eq, nI_pos, nI_pos', Nat.reduceAdd, Nat.reduceMul, Nat.reducePow, sk_54 hv, sr_54_2 hv, sr_54_3 hv, sr_54_4 hv, sr_54_5 hv, sr_54_7 hv, sr_54_8 hv, sr_54_9 hv, sr_54_12 hv, sr_54_13 hv, sr_54_14 hv, sr_54_22 hv, sr_54_25 hv, sr_54_26 hv, sr_54_27 hv, sr_54_34 hv, sr_54_35 hv, sr_54_36 hv, sr_54_37 hv, sr_54_38 hv, sr_54_40 hv, sr_54_43 hv, sr_54_44 hv, sr_54_45 hv, sr_54_46 hv, sr_54_47 hv, sk_66 hv, sn_66 hv, sk_67 hv, sn_67 hv, sk_71 hv, sn_71 hv, sk_72 hv, sn_72 hv, t_houses hv, hA, hn2, z, t_isIn, e66, e67, c', hh12, k12, z144, s1, r1, s2, r2, ci, c1, c3, c4, Nat.lt_irrefl]
              exact st
            · simp (disch := omega) only [e_242_63, e_242_64, e_242_67, e_242_70, e_242_71, e_242_74, e_242_75, e_242_76, e_242_78, e_242_81, e_242_84, e_242_85, e_242_88, e_242_90, e_242_91, e_242_93, e_242_96, e_242_99, e_242_100, e_242_103, e_242_105, e_242_106, e_242_107, e_242_109, e_242_110, e_242_111, e_242_112, e_242_115, e_242_117, e_242_118, e_242_119, e_242_121, e_242_123, e_242_124, e_242_127, e_242_128, e_242_129, e_242_132, e_242_134, e_242_135, e_242_138, e_242_139, e_242_140, e_242_143, e_242_144, e_242_147, e_242_149, e_242_150, e_242_151, e_242_152, e_242_153, e_242_156, e_242_157, e_242_158, e_242_161, n10, n01, Nat.lt_irrefl, Nat.not_lt_zero, ne_eq, Nat.add_zero, Nat.one_ne_zero, Nat.zero_ne_one, Nat.reduceEqDiff, bI_T, bI_F, bI_0, bI_1, bI_01, not_and_self, true_and, and_true, not_true_eq_false, not_false_eq_true, false_imp_iff, true_imp_iff, imp_self, gPv_n, gPv_i, gPv_r, gPv_0, Option.toList_some, Option.toList_none, List.singleton_append, List.cons_append, List.nil_append, List.length_nil, List.length_cons, Nat.zero_le, Nat.reduceAdd, Nat.reduceLeDiff, or_true, true_or, false_or, or_false, and_self, and_false, false_and, implies_true, Option.some.injEq, exists_eq_left', nL, nI_add, nI_mul, nI_clamp, nI_ltI, nI_leI, nI_eq, nI_pos, nI_pos', Nat.reduceAdd, Nat.reduceMul, Nat.reducePow, sk_54 hv, sr_54_2 hv, sr_54_3 hv, sr_54_4 hv, sr_54_5 hv, sr_54_7 hv, sr_54_8 hv, sr_54_9 hv, sr_54_12 hv, sr_54_13 hv, sr_54_14 hv, sr_54_22 hv, sr_54_25 hv, sr_54_26 hv, sr_54_27 hv, sr_54_34 hv, sr_54_35 hv, sr_54_36 hv, sr_54_37 hv, sr_54_38 hv, sr_54_40 hv, sr_54_43 hv, sr_54_44 hv, sr_54_45 hv, sr_54_46 hv, sr_54_47 hv, sk_66 hv, sn_66 hv, sk_67 hv, sn_67 hv, sk_71 hv, sn_71 hv, sk_72 hv, sn_72 hv, t_houses hv, hA, hn2, z, t_isIn, e66, e67, c', hh12, k12, z144, s1, r1, s2, r2, ci, c1, c3]
              exact st
theorem t_ds2 {α0 β0 : Nat → Nat} (X : MX B σ A) (hM : M67 B A σ) (K : ∀ τ' α' β' c' x3 x4 x5, Sm (dsP B) σ τ' → DsI B A t α' β' τ' → DC A α0 β0 α' β' c' (hn A) 0 → wp (d + 1) pr_242 Q 201 [some (.ref (B + 54)), some (.int (nI t)), some (.int (nI c')), x3, x4, x5] [] τ') : ∀ m h τ α β c x4 x5, h + m = hn A → Sm (dsP B) σ τ → DsI B A t α β τ → DC A α0 β0 α β c h 0 → wp (d + 1) pr_242 Q 50 [some (.ref (B + 54)), some (.int (nI t)), some (.int (nI c)), some (.int (nI h)), x4, x5] [] τ := by
  have wh := X.2.2.1
  have h12 := hn_le wh
  have hn2 := hn_eq wh
  intro m
  induction m with
  | zero =>
    intro h τ α β c x4 x5 hk hS hD hC
    obtain ⟨hv, hA, _⟩ := MX_S X hS (by omega)
    have z : hn A ≤ h := by omega
    have e : h = hn A := by omega
    simp (disch := omega) only [e_242_50, e_242_51, e_242_52, e_242_55, n10, n01, Nat.lt_irrefl, Nat.not_lt_zero, ne_eq, Nat.add_zero, Nat.one_ne_zero, Nat.zero_ne_one, Nat.reduceEqDiff, bI_T, bI_F, bI_0, bI_1, bI_01, not_and_self, true_and, and_true, not_true_eq_false, not_false_eq_true, false_imp_iff, true_imp_iff, imp_self, gPv_n, gPv_i, gPv_r, gPv_0, Option.toList_some, Option.toList_none, List.singleton_append, List.cons_append, List.nil_append, List.length_nil, List.length_cons, Nat.zero_le, Nat.reduceAdd, Nat.reduceLeDiff, or_true, true_or, false_or, or_false, and_self, and_false, false_and, implies_true, Option.some.injEq, exists_eq_left', nL, nI_add, nI_mul, nI_clamp, nI_ltI, nI_leI, nI_eq, nI_pos, nI_pos', Nat.reduceAdd, Nat.reduceMul, Nat.reducePow, sk_54 hv, sr_54_2 hv, sr_54_3 hv, sr_54_4 hv, sr_54_5 hv, sr_54_7 hv, sr_54_8 hv, sr_54_9 hv, sr_54_12 hv, sr_54_13 hv, sr_54_14 hv, sr_54_22 hv, sr_54_25 hv, sr_54_26 hv, sr_54_27 hv, sr_54_34 hv, sr_54_35 hv, sr_54_36 hv, sr_54_37 hv, sr_54_38 hv, sr_54_40 hv, sr_54_43 hv, sr_54_44 hv, sr_54_45 hv, sr_54_46 hv, sr_54_47 hv, t_houses hv, hA, hn2, z]
    exact K τ α β c _ _ _ hS hD (by rw [← e]; exact hC)
  | succ m ih =>
    intro h τ α β c x4 x5 hk hS hD hC
    obtain ⟨hv, hA, _⟩ := MX_S X hS (by omega)
    have z : ¬ hn A ≤ h := by omega
    rw [e_242_50]
    simp (disch := omega) only [e_242_51, e_242_52, e_242_55, e_242_58, e_242_59, n10, n01, Nat.lt_irrefl, Nat.not_lt_zero, ne_eq, Nat.add_zero, Nat.one_ne_zero, Nat.zero_ne_one, Nat.reduceEqDiff, bI_T, bI_F, bI_0, bI_1, bI_01, not_and_self, true_and, and_true, not_true_eq_false, not_false_eq_true, false_imp_iff, true_imp_iff, imp_self, gPv_n, gPv_i, gPv_r, gPv_0, Option.toList_some, Option.toList_none, List.singleton_append, List.cons_append, List.nil_append, List.length_nil, List.length_cons, Nat.zero_le, Nat.reduceAdd, Nat.reduceLeDiff, or_true, true_or, false_or, or_false, and_self, and_false, false_and, implies_true, Option.some.injEq, exists_eq_left', nL, nI_add, nI_mul, nI_clamp, nI_ltI, nI_leI, nI_eq, nI_pos, nI_pos', Nat.reduceAdd, Nat.reduceMul, Nat.reducePow, sk_54 hv, sr_54_2 hv, sr_54_3 hv, sr_54_4 hv, sr_54_5 hv, sr_54_7 hv, sr_54_8 hv, sr_54_9 hv, sr_54_12 hv, sr_54_13 hv, sr_54_14 hv, sr_54_22 hv, sr_54_25 hv, sr_54_26 hv, sr_54_27 hv, sr_54_34 hv, sr_54_35 hv, sr_54_36 hv, sr_54_37 hv, sr_54_38 hv, sr_54_40 hv, sr_54_43 hv, sr_54_44 hv, sr_54_45 hv, sr_54_46 hv, sr_54_47 hv, t_houses hv, hA, hn2, z]
    refine t_ds1 (α0 := α0) (β0 := β0) X hM (by omega) ?_ (hn A) 0 τ α β c _ (by omega) hS hD hC
    intro τ' α' β' c' x4 x5 hS' hD' hC'
    simp (disch := omega) only [e_242_195, e_242_198, n10, n01, Nat.lt_irrefl, Nat.not_lt_zero, ne_eq, Nat.add_zero, Nat.one_ne_zero, Nat.zero_ne_one, Nat.reduceEqDiff, bI_T, bI_F, bI_0, bI_1, bI_01, not_and_self, true_and, and_true, not_true_eq_false, not_false_eq_true, false_imp_iff, true_imp_iff, imp_self, gPv_n, gPv_i, gPv_r, gPv_0, Option.toList_some, Option.toList_none, List.singleton_append, List.cons_append, List.nil_append, List.length_nil, List.length_cons, Nat.zero_le, Nat.reduceAdd, Nat.reduceLeDiff, or_true, true_or, false_or, or_false, and_self, and_false, false_and, implies_true, Option.some.injEq, exists_eq_left', nL, nI_add]
    exact ih (h + 1) τ' α' β' c' _ _ (by omega) hS' hD' hC'
/-- numbers that no edge shortens -/
def DsO (A : Nat → Int32) (t : Nat) (α β : Nat → Nat) : Prop := DP A t α β ∧ ∀ h k, k < hn A → h < hn A → rlx A α β h k
theorem t_ds3 (X : MX B σ A) (hM : M67 B A σ) (K : ∀ τ' α β, Sm (dsP B) σ τ' → DsI B A t α β τ' → DsO A t α β → Q none τ') : ∀ N τ α β x2 x3 x4 x5, pot α β (hn A) < N → Sm (dsP B) σ τ → DsI B A t α β τ → wp (d + 1) pr_242 Q 46 [some (.ref (B + 54)), some (.int (nI t)), x2, x3, x4, x5] [] τ := by
  intro N
  induction N with
  | zero => intro τ α β x2 x3 x4 x5 hN; omega
  | succ N ih =>
    intro τ α β x2 x3 x4 x5 hN hS hD
    simp (disch := omega) only [e_242_46, e_242_47, e_242_48, e_242_49, n10, n01, Nat.lt_irrefl, Nat.not_lt_zero, ne_eq, Nat.add_zero, Nat.one_ne_zero, Nat.zero_ne_one, Nat.reduceEqDiff, bI_T, bI_F, bI_0, bI_1, bI_01, not_and_self, true_and, and_true, not_true_eq_false, not_false_eq_true, false_imp_iff, true_imp_iff, imp_self, gPv_n, gPv_i, gPv_r, gPv_0, Option.toList_some, Option.toList_none, List.singleton_append, List.cons_append, List.nil_append, List.length_nil, List.length_cons, Nat.zero_le, Nat.reduceAdd, Nat.reduceLeDiff, or_true, true_or, false_or, or_false, and_self, and_false, false_and, implies_true, Option.some.injEq, exists_eq_left', nL]
    refine t_ds2 (α0 := α) (β0 := β) X hM ?_ (hn A) 0 τ α β 0 _ _ (by omega) hS hD (Or.inl ⟨rfl, rfl, rfl, fun h' k' _ q => absurd q (by omega)⟩)
    intro τ' α' β' c' x3 x4 x5 hS' hD' hC'
    rcases hC' with ⟨c0, e1, e2, hr⟩ | ⟨c1, hp⟩
    · rw [c0]
      simp (disch := omega) only [e_242_201, e_242_42, e_242_43, e_242_204, n10, n01, Nat.lt_irrefl, Nat.not_lt_zero, ne_eq, Nat.add_zero, Nat.one_ne_zero, Nat.zero_ne_one, Nat.reduceEqDiff, bI_T, bI_F, bI_0, bI_1, bI_01, not_and_self, true_and, and_true, not_true_eq_false, not_false_eq_true, false_imp_iff, true_imp_iff, imp_self, gPv_n, gPv_i, gPv_r, gPv_0, Option.toList_some, Option.toList_none, List.singleton_append, List.cons_append, List.nil_append, List.length_nil, List.length_cons, Nat.zero_le, Nat.reduceAdd, Nat.reduceLeDiff, or_true, true_or, false_or, or_false, and_self, and_false, false_and, implies_true, Option.some.injEq, exists_eq_left', nL, nI_add, nI_mul, nI_clamp, nI_ltI, nI_leI, nI_eq, nI_pos, nI_pos', Nat.reduceAdd, Nat.reduceMul, Nat.reducePow]
      exact K τ' α' β' hS' hD' ⟨hD'.2, fun h k hk hh => hr h k hk (Or.inl hh)⟩
    · rw [c1]
      simp (disch := omega) only [e_242_201, e_242_42, e_242_43, n10, n01, Nat.lt_irrefl, Nat.not_lt_zero, ne_eq, Nat.add_zero, Nat.one_ne_zero, Nat.zero_ne_one, Nat.reduceEqDiff, bI_T, bI_F, bI_0, bI_1, bI_01, not_and_self, true_and, and_true, not_true_eq_false, not_false_eq_true, false_imp_iff, true_imp_iff, imp_self, gPv_n, gPv_i, gPv_r, gPv_0, Option.toList_some, Option.toList_none, List.singleton_append, List.cons_append, List.nil_append, List.length_nil, List.length_cons, Nat.zero_le, Nat.reduceAdd, Nat.reduceLeDiff, or_true, true_or, false_or, or_false, and_self, and_false, false_and, implies_true, Option.some.injEq, exists_eq_left', nL, nI_add, nI_mul, nI_clamp, nI_ltI, nI_leI, nI_eq, nI_pos, nI_pos', Nat.reduceAdd, Nat.reduceMul, Nat.reducePow]
      exact ih τ' α' β' _ _ _ _ (by omega) hS' hD'
theorem t_ds0 (X : MX B σ A) (ht : t < hn A) (K : ∀ τ' x2 x3 x4 x5, Sm (dsP B) σ τ' → DsI B A t (fun h => if h = t then 0 else 1000000) (fun _ => 0) τ' → wp (d + 1) pr_242 Q 40 [some (.ref (B + 54)), some (.int (nI t)), x2, x3, x4, x5] [] τ') : ∀ m h τ x3 x4 x5, h + m = hn A → Sm (dsP B) σ τ → (∀ j, j < h → gI τ (B + 71) j = nI (if j = t then 0 else 1000000) ∧ gI τ (B + 72) j = nI 0) → wp (d + 1) pr_242 Q 2 [some (.ref (B + 54)), some (.int (nI t)), some (.int (nI h)), x3, x4, x5] [] τ := by
  have wh := X.2.2.1
  have h12 := hn_le wh
  have hn2 := hn_eq wh
  intro m
  induction m with
  | zero =>
    intro h τ x3 x4 x5 hh hS hR
    obtain ⟨hv, hA, _⟩ := MX_S X hS (by omega)
    have z : hn A ≤ h := by omega
    simp (disch := omega) only [e_242_2, e_242_3, e_242_4, e_242_7, n10, n01, Nat.lt_irrefl, Nat.not_lt_zero, ne_eq, Nat.add_zero, Nat.one_ne_zero, Nat.zero_ne_one, Nat.reduceEqDiff, bI_T, bI_F, bI_0, bI_1, bI_01, not_and_self, true_and, and_true, not_true_eq_false, not_false_eq_true, false_imp_iff, true_imp_iff, imp_self, gPv_n, gPv_i, gPv_r, gPv_0, Option.toList_some, Option.toList_none, List.singleton_append, List.cons_append, List.nil_append, List.length_nil, List.length_cons, Nat.zero_le, Nat.reduceAdd, Nat.reduceLeDiff, or_true, true_or, false_or, or_false, and_self, and_false, false_and, implies_true, Option.some.injEq, exists_eq_left', nL, nI_add, nI_mul, nI_clamp, nI_ltI, nI_leI, nI_eq, nI_pos, nI_pos', Nat.reduceAdd, Nat.reduceMul, Nat.reducePow, sk_54 hv, sr_54_2 hv, sr_54_3 hv, sr_54_4 hv, sr_54_5 hv, sr_54_7 hv, sr_54_8 hv, sr_54_9 hv, sr_54_12 hv, sr_54_13 hv, sr_54_14 hv, sr_54_22 hv, sr_54_25 hv, sr_54_26 hv, sr_54_27 hv, sr_54_34 hv, sr_54_35 hv, sr_54_36 hv, sr_54_37 hv, sr_54_38 hv, sr_54_40 hv, sr_54_43 hv, sr_54_44 hv, sr_54_45 hv, sr_54_46 hv, sr_54_47 hv, t_houses hv, hA, hn2, z]
    refine K τ _ _ _ _ hS ⟨fun j hj => hR j (by omega), if_pos rfl, rfl, ?_⟩
    intro j hj
    by_cases c : j = t
    · simp only [if_pos c]
      exact ⟨by omega, by omega, by omega, fun _ => ⟨c, rfl⟩⟩
    · simp only [if_neg c]
      exact ⟨by omega, by omega, by simp, fun q => absurd q (by omega)⟩
  | succ m ih =>
    intro h τ x3 x4 x5 hh hS hR
    obtain ⟨hv, hA, _⟩ := MX_S X hS (by omega)
    have z : ¬ hn A ≤ h := by omega
    have hh12 : h < 12 := by omega
    rw [e_242_2]
    by_cases c : h = t
    · subst c
      simp (disch := omega) only [e_242_3, e_242_4, e_242_7, e_242_10, e_242_11, e_242_14, e_242_15, e_242_16, e_242_17, e_242_20, e_242_21, e_242_24, e_242_26, e_242_27, e_242_28, e_242_31, e_242_32, e_242_33, e_242_34, e_242_37, n10, n01, Nat.lt_irrefl, Nat.not_lt_zero, ne_eq, Nat.add_zero, Nat.one_ne_zero, Nat.zero_ne_one, Nat.reduceEqDiff, bI_T, bI_F, bI_0, bI_1, bI_01, not_and_self, true_and, and_true, not_true_eq_false, not_false_eq_true, false_imp_iff, true_imp_iff, imp_self, gPv_n, gPv_i, gPv_r, gPv_0, Option.toList_some, Option.toList_none, List.singleton_append, List.cons_append, List.nil_append, List.length_nil, List.length_cons, Nat.zero_le, Nat.reduceAdd, Nat.reduceLeDiff, or_true, true_or, false_or, or_false, and_self, and_false, false_and, implies_true, Option.some.injEq, exists_eq_left', nL, nI_add, nI_mul, nI_clamp, nI_ltI, nI_leI, nI_eq, nI_pos, nI_pos', Nat.reduceAdd, Nat.reduceMul, Nat.reducePow, sk_54 hv, sr_54_2 hv, sr_54_3 hv, sr_54_4 hv, sr_54_5 hv, sr_54_7 hv, sr_54_8 hv, sr_54_9 hv, sr_54_12 hv, sr_54_13 hv, sr_54_14 hv, sr_54_22 hv, sr_54_25 hv, sr_54_26 hv, sr_54_27 hv, sr_54_34 hv, sr_54_35 hv, sr_54_36 hv, sr_54_37 hv, sr_54_38 hv, sr_54_40 hv, sr_54_43 hv, sr_54_44 hv, sr_54_45 hv, sr_54_46 hv, sr_54_47 hv, sk_71 hv, sn_71 hv, sk_72 hv, sn_72 hv, n_K_I, n_K_J, n_K_R, n_K_r, n_N_I, n_N_J, n_N_R, n_N_r, n_R_I, n_R_J, n_R_r, n_J_I, n_J_R, n_J_r, n_I_J, n_I_R, n_n_I, n_n_J, n_n_R, n_n_r, n_w_I, n_w_J, n_w_R, n_w_r, n_T_I, n_T_J, n_T_R, n_T_r, rI_ne, rI_nk, rI_eq, rr_ne, rr_eq, n_J_J, n_R_R, Nat.add_left_cancel_iff, Nat.add_right_cancel_iff, Nat.add_eq_left, Nat.left_eq_add, Nat.reduceEqDiff, Nat.reduceAdd, Nat.zero_ne_one, Nat.one_ne_zero, false_and, and_false, true_and, and_true, and_self, if_false, if_true, ↓reduceIte, t_houses hv, hA, hn2, z, hh12]
      refine ih (h + 1) _ _ _ _ (by omega) (Sm_I (Sm_I hS (Or.inl rfl)) (Or.inr rfl)) ?_
      intro j hj
      by_cases q : j = h
      · subst q
        rw [if_pos rfl, rI_ne (by omega), rI_eq, rI_eq]
        exact ⟨rfl, rfl⟩
      · rw [rI_ne (by omega), rI_nk q, rI_nk q, rI_ne (by omega)]
        exact hR j (by omega)
    · simp (disch := omega) only [e_242_3, e_242_4, e_242_7, e_242_10, e_242_11, e_242_14, e_242_15, e_242_16, e_242_17, e_242_20, e_242_21, e_242_24, e_242_26, e_242_27, e_242_28, e_242_31, e_242_32, e_242_33, e_242_34, e_242_37, n10, n01, Nat.lt_irrefl, Nat.not_lt_zero, ne_eq, Nat.add_zero, Nat.one_ne_zero, Nat.zero_ne_one, Nat.reduceEqDiff, bI_T, bI_F, bI_0, bI_1, bI_01, not_and_self, true_and, and_true, not_true_eq_false, not_false_eq_true, false_imp_iff, true_imp_iff, imp_self, gPv_n, gPv_i, gPv_r, gPv_0, Option.toList_some, Option.toList_none, List.singleton_append, List.cons_append, List.nil_append, List.length_nil, List.length_cons, Nat.zero_le, Nat.reduceAdd, Nat.reduceLeDiff, or_true, true_or, false_or, or_false, and_self, and_false, false_and, implies_true, Option.some.injEq, exists_eq_left', nL, nI_add, nI_mul, nI_clamp, nI_ltI, nI_leI, nI_eq, nI_pos, nI_pos', Nat.reduceAdd, Nat.reduceMul, Nat.reducePow, sk_54 hv, sr_54_2 hv, sr_54_3 hv, sr_54_4 hv, sr_54_5 hv, sr_54_7 hv, sr_54_8 hv, sr_54_9 hv, sr_54_12 hv, sr_54_13 hv, sr_54_14 hv, sr_54_22 hv, sr_54_25 hv, sr_54_26 hv, sr_54_27 hv, sr_54_34 hv, sr_54_35 hv, sr_54_36 hv, sr_54_37 hv, sr_54_38 hv, sr_54_40 hv, sr_54_43 hv, sr_54_44 hv, sr_54_45 hv, sr_54_46 hv, sr_54_47 hv, sk_71 hv, sn_71 hv, sk_72 hv, sn_72 hv, n_K_I, n_K_J, n_K_R, n_K_r, n_N_I, n_N_J, n_N_R, n_N_r, n_R_I, n_R_J, n_R_r, n_J_I, n_J_R, n_J_r, n_I_J, n_I_R, n_n_I, n_n_J, n_n_R, n_n_r, n_w_I, n_w_J, n_w_R, n_w_r, n_T_I, n_T_J, n_T_R, n_T_r, rI_ne, rI_nk, rI_eq, rr_ne, rr_eq, n_J_J, n_R_R, Nat.add_left_cancel_iff, Nat.add_right_cancel_iff, Nat.add_eq_left, Nat.left_eq_add, Nat.reduceEqDiff, Nat.reduceAdd, Nat.zero_ne_one, Nat.one_ne_zero, false_and, and_false, true_and, and_true, and_self, if_false, if_true, ↓reduceIte, t_houses hv, hA, hn2, z, hh12, c]
      refine ih (h + 1) _ _ _ _ (by omega) (Sm_I (Sm_I hS (Or.inl rfl)) (Or.inr rfl)) ?_
      intro j hj
      by_cases q : j = h
      · subst q
        rw [if_neg c, rI_ne (by omega), rI_eq, rI_eq]
        exact ⟨rfl, rfl⟩
      · rw [rI_ne (by omega), rI_nk q, rI_nk q, rI_ne (by omega)]
        exact hR j (by omega)
theorem t_dist (X : MX B σ A) (hM : M67 B A σ) (ht : t < hn A) (K : ∀ τ' α β, Sm (dsP B) σ τ' → DsI B A t α β τ' → DsO A t α β → Q none τ') : wc (d + 2) 242 [.ref (B + 54), .int (nI t)] σ Q := by
  simp (disch := omega) only [c_242, e_242_0, e_242_1, n10, n01, Nat.lt_irrefl, Nat.not_lt_zero, ne_eq, Nat.add_zero, Nat.one_ne_zero, Nat.zero_ne_one, Nat.reduceEqDiff, bI_T, bI_F, bI_0, bI_1, bI_01, not_and_self, true_and, and_true, not_true_eq_false, not_false_eq_true, false_imp_iff, true_imp_iff, imp_self, gPv_n, gPv_i, gPv_r, gPv_0, Option.toList_some, Option.toList_none, List.singleton_append, List.cons_append, List.nil_append, List.length_nil, List.length_cons, Nat.zero_le, Nat.reduceAdd, Nat.reduceLeDiff, or_true, true_or, false_or, or_false, and_self, and_false, false_and, implies_true, Option.some.injEq, exists_eq_left', nL]
  refine t_ds0 X ht ?_ (hn A) 0 σ _ _ _ (by omega) (Sm_refl _ _) (fun j hj => absurd hj (by omega))
  intro τ x2 x3 x4 x5 hS hD
  simp (disch := omega) only [e_242_40, e_242_41, e_242_42, e_242_43, n10, n01, Nat.lt_irrefl, Nat.not_lt_zero, ne_eq, Nat.add_zero, Nat.one_ne_zero, Nat.zero_ne_one, Nat.reduceEqDiff, bI_T, bI_F, bI_0, bI_1, bI_01, not_and_self, true_and, and_true, not_true_eq_false, not_false_eq_true, false_imp_iff, true_imp_iff, imp_self, gPv_n, gPv_i, gPv_r, gPv_0, Option.toList_some, Option.toList_none, List.singleton_append, List.cons_append, List.nil_append, List.length_nil, List.length_cons, Nat.zero_le, Nat.reduceAdd, Nat.reduceLeDiff, or_true, true_or, false_or, or_false, and_self, and_false, false_and, implies_true, Option.some.injEq, exists_eq_left', nL, nI_add, nI_mul, nI_clamp, nI_ltI, nI_leI, nI_eq, nI_pos, nI_pos', Nat.reduceAdd, Nat.reduceMul, Nat.reducePow]
  exact t_ds3 X hM K _ τ _ _ _ _ _ _ (Nat.lt_succ_self _) hS hD
end
/-- what they are -/
theorem min_ex {P : Nat → Prop} {n : Nat} (h : P n) : ∃ m, P m ∧ ∀ k, P k → m ≤ k := by
  have : ∀ N n, n < N → P n → ∃ m, P m ∧ ∀ k, P k → m ≤ k := by
    intro N
    induction N with
    | zero => intro n hn; omega
    | succ N ih =>
      intro n hn hp
      by_cases c : ∃ k, k < n ∧ P k
      · obtain ⟨k, k1, k2⟩ := c
        exact ih k (by omega) k2
      · refine ⟨n, hp, ?_⟩
        intro k hk
        by_cases z : k < n
        · exact absurd ⟨k, z, hk⟩ c
        · omega
  exact this (n + 1) n (Nat.lt_succ_self n) h
theorem Lw_ex {E : Nat → Nat → Bool} {w : Nat → Nat → Nat} {t h a s : Nat} (hw : Wk E w t s h a) : ∃ a s, Lw E w t h a s := by
  obtain ⟨a0, ⟨s1, h1⟩, m1⟩ := min_ex (P := fun a => ∃ s, Wk E w t s h a) ⟨s, hw⟩
  obtain ⟨s0, h2, m2⟩ := min_ex (P := fun s => Wk E w t s h a0) h1
  refine ⟨a0, s0, h2, ?_⟩
  intro b r hb
  have := m1 b ⟨r, hb⟩
  by_cases c : a0 = b
  · subst c
    exact Or.inr ⟨rfl, m2 r hb⟩
  · exact Or.inl (by omega)
theorem Wk_le {E : Nat → Nat → Bool} {w : Nat → Nat → Nat} {t : Nat} (hw : ∀ h k, w h k ≤ 99) : ∀ s h a, Wk E w t s h a → a ≤ 99 * s := by
  intro s
  induction s with
  | zero => intro h a hk; have := hk.2; omega
  | succ s ih =>
    intro h a hk
    obtain ⟨k, b, _, hb, e⟩ := hk
    have := ih k b hb
    have := hw h k
    omega
theorem Lw_b {A : Nat → Int32} {t j a s : Nat} (wh : Wh A) (hj : j < hn A) (hl : Lw (eM A) (wM A) t j a s) : s < 12 ∧ a ≤ 99 * s := by
  have h12 := hn_le wh
  have := Lw_lt (fun h k he => (eM_h he).2.1) hj hl
  exact ⟨by omega, Wk_le (fun h k => wM_r.2.2) s j a hl.1⟩
theorem DsO_lw {A : Nat → Int32} {t : Nat} {α β : Nat → Nat} (wh : Wh A) (h : DsO A t α β) {j : Nat} (hj : j < hn A) : (α j = 1000000 ∧ ∀ a s, ¬ Wk (eM A) (wM A) t s j a) ∨ (α j < 1000000 ∧ Lw (eM A) (wM A) t j (α j) (β j)) := by
  obtain ⟨⟨p1, p2, p3⟩, hr⟩ := h
  have key : ∀ s h a, h < hn A → Wk (eM A) (wM A) t s h a → a < 1000000 → lex (α h) (β h) a s := by
    intro s
    induction s with
    | zero =>
      intro h a _ hk _
      obtain ⟨rfl, rfl⟩ := hk
      exact Or.inr ⟨p1, by omega⟩
    | succ s ih =>
      intro h a hh hk ha
      obtain ⟨k, b, he, hb, e⟩ := hk
      have hkn := (eM_h he).2.1
      have l1 := ih k b hkn hb (by omega)
      have k1 : α k < 1000000 := by simp only [lex] at l1; omega
      have l2 := hr h k hkn hh he (by omega)
      rw [e]
      exact lex_trans l2 (lex_add _ l1)
  obtain ⟨q1, q2, q3, q4⟩ := p3 j hj
  by_cases c : α j < 1000000
  · refine Or.inr ⟨c, ?_⟩
    obtain ⟨a0, s0, hl⟩ := Lw_ex (q4 c)
    obtain ⟨b1, b2⟩ := Lw_b wh hj hl
    have l1 := key s0 j a0 hj hl.1 (by omega)
    have l2 := hl.2 _ _ (q4 c)
    have : α j = a0 ∧ β j = s0 := by simp only [lex] at l1 l2; omega
    rw [this.1, this.2]
    exact hl
  · refine Or.inl ⟨by omega, ?_⟩
    intro a s hw
    obtain ⟨a0, s0, hl⟩ := Lw_ex hw
    obtain ⟨b1, b2⟩ := Lw_b wh hj hl
    have l1 := key s0 j a0 hj hl.1 (by omega)
    simp only [lex] at l1
    omega
/-! what the class's numbers are -/
theorem fl_far {M : Nat → Nat → Nat} {t L : Nat} (h : ∀ i, L ≤ M i t) : ∀ k i, L ≤ fl M k i t := by
  intro k
  induction k with
  | zero => exact h
  | succ k ih =>
    intro i
    have a := ih i
    have b := ih k
    rw [fl_s]
    omega
theorem mM_E {A : Nat → Int32} {h k : Nat} (he : eM A h k = true) : mM A h k = 64 * wM A h k + 1 := by
  have := (eM_h he).2.2.1
  rw [mM, if_neg (fun z => this z.1), m0, if_pos he]
theorem fl_no {A : Nat → Int32} {t : Nat} (ht : sM A t = false) (k i : Nat) : 16777216 ≤ fl (mM A) k i t := by
  refine fl_far ?_ k i
  intro i
  have h1 : ¬ (i = t ∧ sM A i = true) := by
    rintro ⟨rfl, z⟩
    rw [ht] at z
    exact absurd z (by simp)
  have h2 : ¬ eM A i t = true := by
    intro z
    have := (eM_h z).2.2.2.2
    rw [ht] at this
    exact absurd this (by simp)
  rw [mM, if_neg h1, m0, if_neg h2]
  exact Nat.le_refl _
theorem mM_wk {A : Nat → Int32} (i j : Nat) (h : mM A i j < 16777216) : ∃ a s, Wk (eM A) (wM A) j s i a ∧ mM A i j = 64 * a + s := by
  by_cases c : i = j ∧ sM A i = true
  · exact ⟨0, 0, ⟨c.1, rfl⟩, by rw [mM, if_pos c]⟩
  · by_cases c2 : eM A i j = true
    · exact ⟨wM A i j, 1, ⟨j, 0, c2, ⟨rfl, rfl⟩, rfl⟩, mM_E c2⟩
    · rw [mM, if_neg c, m0, if_neg c2] at h
      omega
theorem fl_yes {A : Nat → Int32} {t h a s : Nat} (wh : Wh A) (ht : sM A t = true) (hh : h < hn A) (hl : Lw (eM A) (wM A) t h a s) : fl (mM A) 12 h t = 64 * a + s := by
  have h12 := hn_le wh
  obtain ⟨b1, b2⟩ := Lw_b wh hh hl
  exact fl_Lw (E := eM A) (w := wM A) (L := 16777216) (fun h k he => ⟨by have := (eM_h he).2.1; omega, mM_E he⟩) (by rw [mM, if_pos ⟨rfl, ht⟩]) mM_wk (by omega) (by omega) hl (by omega)
theorem fl_nw {A : Nat → Int32} {t h : Nat} (hn : ∀ a s, ¬ Wk (eM A) (wM A) t s h a) : 16777216 ≤ fl (mM A) 12 h t := by
  by_cases c : fl (mM A) 12 h t < 16777216
  · obtain ⟨a, s, hw, _⟩ := fl_wk mM_wk 12 h t c
    exact absurd hw (hn a s)
  · omega
/-- reach and walks -/
theorem rc_Wk {A : Nat → Int32} {f t : Nat} (wh : Wh A) (hf : f < hn A) : (rc (fun h => ad (opn A (A 249) h) 0) (hn A) (ad (2 ^ f) 0)).testBit t = true ↔ ∃ s a, Wk (eM A) (wM A) t s f a := by
  have h12 := hn_le wh
  have a0 : ∀ x, ad x 0 = x := fun x => by
    refine Nat.eq_of_testBit_eq ?_
    intro j
    rw [tb_ad]
    simp
  have hF : ∀ h, ad (opn A (A 249) h) 0 < 4096 := fun h => by rw [a0]; exact opn_lt wh
  have hS : ad (2 ^ f) 0 < 4096 := by rw [a0]; exact Nat.pow_lt_pow_right (by decide) (show f < 12 by omega)
  constructor
  · intro h
    refine rc_min (C := fun j => ∃ s a, Wk (eM A) (wM A) j s f a) ?_ ?_ h
    · intro h _ ⟨s, a, hw⟩ j hj
      simp only [a0] at hj
      exact ⟨s + 1, a + (wM A h j + 0), Wk_app s f a _ 1 hw ⟨j, 0, hj, ⟨rfl, rfl⟩, rfl⟩⟩
    · intro j hj
      rw [a0, Nat.testBit_two_pow, decide_eq_true_eq] at hj
      exact ⟨0, 0, hj, rfl⟩
  · rintro ⟨s, a, hw⟩
    have : ∀ s h a, (rc (fun h => ad (opn A (A 249) h) 0) (hn A) (ad (2 ^ f) 0)).testBit h = true → Wk (eM A) (wM A) t s h a → (rc (fun h => ad (opn A (A 249) h) 0) (hn A) (ad (2 ^ f) 0)).testBit t = true := by
      intro s
      induction s with
      | zero => intro h a hh hw; rw [← hw.1]; exact hh
      | succ s ih =>
        intro h a hh hw
        obtain ⟨k, b, he, hb, _⟩ := hw
        refine ih k b (rc_cl hF hS (eM_h he).1 hh ?_) hb
        simp only [a0]
        exact he
    refine this s f a (rc_sub ?_) hw
    rw [a0, Nat.testBit_two_pow]
    simp
