/-! the class asks a law: its clauses -/
def zOut (tested : Bool) (r : Option (List Int64)) : Bool := match r with
  | none => false
  | some st => !tested || (match st with
    | [] => false
    | a :: _ => decide (a ≠ 0))
/-- steps s to e do what a clause says -/
def CdC (X : Nat → Nat) (s e : Nat) (cl : zC) : Prop := ∀ W : Nat → Int32, zOut cl.2.1 (xr X W e 400 s []) = zHo cl W ∧ (zHo cl W = true → cl.1 = true → ∃ t v, xr X W e 400 s [] = some (t ++ [v]) ∧ cl.2.2.1 W = some v)
/-- a clause asks not for the day -/
def dyI (cl : zC) : Prop := ∀ W W' : Nat → Int32, (∀ j, j ≠ 8 → W j = W' j) → cl.2.2.1 W = cl.2.2.1 W' ∧ cl.2.2.2 W = cl.2.2.2 W'
def ClsLaw (F S : Nat → Int32) (ns : Nat) (E : Nat → Int32) (ne : Nat) (Kd : Nat → Int32) (nk : Nat) (L : List zC) : Prop := ∃ X Ed : Nat → Nat, L.length ≤ 12 ∧ ne = L.length ∧ nk = L.length ∧ F 3 = nI L.length ∧ ns ≤ 400 ∧ (∀ j, j < ns → S j = nI (X j) ∧ X j < 49152) ∧ (∀ i cl, L[i]? = some cl → E i = nI (Ed i) ∧ Kd i = nI ((if cl.1 = true then 1 else 0) + (if cl.2.1 = true then 2 else 0)) ∧ Ed i ≤ ns ∧ CdC X (if i = 0 then 0 else Ed (i - 1)) (Ed i) cl) ∧ (F 4 = nI 1 ∨ F 4 = nI 0 ∧ ∀ cl ∈ L, dyI cl)
def LSx (F S : Nat → Int32) (ns : Nat) (E : Nat → Int32) (ne : Nat) (Kd : Nat → Int32) (nk : Nat) (Co Va : Nat → Int32) (n : Nat) : Prop := ∃ L, TokOK Co Va n L ∧ ClsLaw F S ns E ne Kd nk L
/-- a law of the class lies at p -/
def LwO (B p : Nat) (σ : gS) (L : List zC) : Prop := (gK σ p = 4 ∧ gR σ p 0 = some (p + 1) ∧ gR σ p 1 = some (p + 2) ∧ gR σ p 2 = some (p + 3) ∧ gK σ (p + 1) = 21 ∧ gK σ (p + 2) = 21 ∧ gK σ (p + 3) = 21) ∧ ClsLaw (gI σ p) (gI σ (p + 1)) (gN σ (p + 1)) (gI σ (p + 2)) (gN σ (p + 2)) (gI σ (p + 3)) (gN σ (p + 3)) L ∧ B + 80 ≤ p
theorem SkR_0 {J : Nat → Int64} {v : Int64} : ∀ {t : List Int64}, SkR J (t ++ [v]) → J 0 = v := by
  intro t
  induction t with
  | nil => intro h; exact h.1
  | cons a t ih => intro h; exact ih h.2
section
variable {B p : Nat} {W : Nat → Int32} {σ : gS} {L : List zC}
theorem LwO_S {P : Nat → Prop} {τ : gS} (h : LwO B p σ L) (hP : ∀ a, P a → a < B + 80) (hS : Sm P σ τ) : LwO B p τ L := by
  obtain ⟨h1, h2, h3⟩ := h
  have e : ∀ a, B + 80 ≤ a → gI τ a = gI σ a := fun a ha => hS.2.2.2.2.2.2.1 a (fun z => absurd (hP a z) (by omega))
  refine ⟨by rw [hS.1, hS.2.2.1]; exact h1, ?_, h3⟩
  rw [e p h3, e (p + 1) (by omega), e (p + 2) (by omega), e (p + 3) (by omega), hS.2.1]
  exact h2
theorem L_lt {i : Nat} {cl : zC} (hi : L[i]? = some cl) : i < L.length := (List.getElem?_eq_some_iff.mp hi).1
theorem kd_and : ∀ a b : Bool, (nI ((if a = true then 1 else 0) + (if b = true then 2 else 0)) &&& nI 1 = nI 0 ↔ ¬ a = true) ∧ (nI ((if a = true then 1 else 0) + (if b = true then 2 else 0)) &&& nI 2 = nI 0 ↔ ¬ b = true) := by decide
theorem s_isTakes {d i : Nat} {Q : Option Value → gS → Prop} {cl : zC} (h : LwO B p σ L) (hi : L[i]? = some cl) : wc (d + 1) 28 [.ref p, .int (nI i)] σ Q ↔ Q (some (.int (bI (cl.1 = true)))) σ := by
  have hlt := L_lt hi
  obtain ⟨⟨k1, k2, k3, k4, k5, k6, k7⟩, ⟨X, Ed, a1, a2, a3, a4, a5, a6, a7, a8⟩, h3⟩ := h
  obtain ⟨b1, b2, b3, b4⟩ := a7 i cl hi
  have z : ¬ L.length ≤ i := by omega
  have hk : 20 ≤ gK σ (p + 3) ∧ gK σ (p + 3) < 27 := by omega
  have kd := (kd_and cl.1 cl.2.1).1
  by_cases hc : cl.1 = true
  · have kd : ¬ (nI ((if cl.1 = true then 1 else 0) + (if cl.2.1 = true then 2 else 0)) &&& nI 1 = nI 0) := fun z => kd.mp z hc
    simp (disch := first | omega | assumption) only [c_28, e_28_0, e_28_1, e_28_4, e_28_5, e_28_6, e_28_9, e_28_10, e_28_13, e_28_14, e_28_17, e_28_18, e_28_19, e_28_20, e_28_21, e_28_24, e_28_25, e_28_28, e_28_29, n10, n01, Nat.lt_irrefl, Nat.not_lt_zero, ne_eq, Nat.add_zero, Nat.one_ne_zero, Nat.zero_ne_one, Nat.reduceEqDiff, bI_T, bI_F, bI_0, bI_1, bI_01, not_and_self, true_and, and_true, not_true_eq_false, not_false_eq_true, false_imp_iff, true_imp_iff, imp_self, gPv_n, gPv_i, gPv_r, gPv_0, Option.toList_some, Option.toList_none, List.singleton_append, List.cons_append, List.nil_append, List.length_nil, List.length_cons, Nat.zero_le, Nat.reduceAdd, Nat.reduceLeDiff, or_true, true_or, false_or, or_false, and_self, and_false, false_and, implies_true, Option.some.injEq, exists_eq_left', nL, nI_clamp, nI_leI, nI_ltI, nI_pos, nI_pos', k1, k4, k7, a3, lg_len, z, hlt, b2, kd, bI_t hc]
  · have kd := kd.mpr hc
    simp (disch := first | omega | assumption) only [c_28, e_28_0, e_28_1, e_28_4, e_28_5, e_28_6, e_28_9, e_28_10, e_28_13, e_28_14, e_28_17, e_28_18, e_28_19, e_28_20, e_28_21, e_28_24, e_28_25, e_28_28, e_28_29, n10, n01, Nat.lt_irrefl, Nat.not_lt_zero, ne_eq, Nat.add_zero, Nat.one_ne_zero, Nat.zero_ne_one, Nat.reduceEqDiff, bI_T, bI_F, bI_0, bI_1, bI_01, not_and_self, true_and, and_true, not_true_eq_false, not_false_eq_true, false_imp_iff, true_imp_iff, imp_self, gPv_n, gPv_i, gPv_r, gPv_0, Option.toList_some, Option.toList_none, List.singleton_append, List.cons_append, List.nil_append, List.length_nil, List.length_cons, Nat.zero_le, Nat.reduceAdd, Nat.reduceLeDiff, or_true, true_or, false_or, or_false, and_self, and_false, false_and, implies_true, Option.some.injEq, exists_eq_left', nL, nI_clamp, nI_leI, nI_ltI, nI_pos, nI_pos', k1, k4, k7, a3, lg_len, z, hlt, b2, kd, bI_f hc]
theorem s_isTested {d i : Nat} {Q : Option Value → gS → Prop} {cl : zC} (h : LwO B p σ L) (hi : L[i]? = some cl) : wc (d + 1) 29 [.ref p, .int (nI i)] σ Q ↔ Q (some (.int (bI (cl.2.1 = true)))) σ := by
  have hlt := L_lt hi
  obtain ⟨⟨k1, k2, k3, k4, k5, k6, k7⟩, ⟨X, Ed, a1, a2, a3, a4, a5, a6, a7, a8⟩, h3⟩ := h
  obtain ⟨b1, b2, b3, b4⟩ := a7 i cl hi
  have z : ¬ L.length ≤ i := by omega
  have hk : 20 ≤ gK σ (p + 3) ∧ gK σ (p + 3) < 27 := by omega
  have kd := (kd_and cl.1 cl.2.1).2
  by_cases hc : cl.2.1 = true
  · have kd : ¬ (nI ((if cl.1 = true then 1 else 0) + (if cl.2.1 = true then 2 else 0)) &&& nI 2 = nI 0) := fun z => kd.mp z hc
    simp (disch := first | omega | assumption) only [c_29, e_29_0, e_29_1, e_29_4, e_29_5, e_29_6, e_29_9, e_29_10, e_29_13, e_29_14, e_29_17, e_29_18, e_29_19, e_29_20, e_29_21, e_29_24, e_29_25, e_29_28, e_29_29, n10, n01, Nat.lt_irrefl, Nat.not_lt_zero, ne_eq, Nat.add_zero, Nat.one_ne_zero, Nat.zero_ne_one, Nat.reduceEqDiff, bI_T, bI_F, bI_0, bI_1, bI_01, not_and_self, true_and, and_true, not_true_eq_false, not_false_eq_true, false_imp_iff, true_imp_iff, imp_self, gPv_n, gPv_i, gPv_r, gPv_0, Option.toList_some, Option.toList_none, List.singleton_append, List.cons_append, List.nil_append, List.length_nil, List.length_cons, Nat.zero_le, Nat.reduceAdd, Nat.reduceLeDiff, or_true, true_or, false_or, or_false, and_self, and_false, false_and, implies_true, Option.some.injEq, exists_eq_left', nL, nI_clamp, nI_leI, nI_ltI, nI_pos, nI_pos', k1, k4, k7, a3, lg_len, z, hlt, b2, kd, bI_t hc]
  · have kd := kd.mpr hc
    simp (disch := first | omega | assumption) only [c_29, e_29_0, e_29_1, e_29_4, e_29_5, e_29_6, e_29_9, e_29_10, e_29_13, e_29_14, e_29_17, e_29_18, e_29_19, e_29_20, e_29_21, e_29_24, e_29_25, e_29_28, e_29_29, n10, n01, Nat.lt_irrefl, Nat.not_lt_zero, ne_eq, Nat.add_zero, Nat.one_ne_zero, Nat.zero_ne_one, Nat.reduceEqDiff, bI_T, bI_F, bI_0, bI_1, bI_01, not_and_self, true_and, and_true, not_true_eq_false, not_false_eq_true, false_imp_iff, true_imp_iff, imp_self, gPv_n, gPv_i, gPv_r, gPv_0, Option.toList_some, Option.toList_none, List.singleton_append, List.cons_append, List.nil_append, List.length_nil, List.length_cons, Nat.zero_le, Nat.reduceAdd, Nat.reduceLeDiff, or_true, true_or, false_or, or_false, and_self, and_false, false_and, implies_true, Option.some.injEq, exists_eq_left', nL, nI_clamp, nI_leI, nI_ltI, nI_pos, nI_pos', k1, k4, k7, a3, lg_len, z, hlt, b2, kd, bI_f hc]
set_option maxHeartbeats 2000000 in
theorem s_holds {d i : Nat} {Q : Option Value → gS → Prop} {cl : zC} (hv : IvS B σ) (h : LwO B p σ L) (hW : WdI B W σ) (hi : L[i]? = some cl)
    (K : ∀ τ, Sm (fun a => a = B + 26 ∨ a = B + 28) σ τ → (zHo cl W = true → cl.1 = true → ∃ v, cl.2.2.1 W = some v ∧ gJ τ (B + 28) 0 = v) → Q (some (.int (bI (zHo cl W = true)))) τ) : wc (d + 2) 66 [.ref (B + 26), .ref p, .int (nI i)] σ Q := by
  have hlt := L_lt hi
  have h0 := h
  obtain ⟨⟨k1, k2, k3, k4, k5, k6, k7⟩, ⟨X, Ed, a1, a2, a3, a4, a5, a6, a7, a8⟩, h3⟩ := h
  obtain ⟨b1, b2, b3, b4⟩ := a7 i cl hi
  have z : ¬ L.length ≤ i := by omega
  have hk : 20 ≤ gK σ (p + 2) ∧ gK σ (p + 2) < 27 := by omega
  have sE : ∀ (d : Nat) (Q : Option Value → gS → Prop), wc (d + 1) 27 [.ref p, .int (nI i)] σ Q ↔ Q (some (.int (nI (Ed i)))) σ := by
    intro d Q
    simp (disch := first | omega | assumption) only [c_27, e_27_0, e_27_1, e_27_4, e_27_5, e_27_6, e_27_9, e_27_10, e_27_13, e_27_14, e_27_17, e_27_18, e_27_19, e_27_22, e_27_23, n10, n01, Nat.lt_irrefl, Nat.not_lt_zero, ne_eq, Nat.add_zero, Nat.one_ne_zero, Nat.zero_ne_one, Nat.reduceEqDiff, bI_T, bI_F, bI_0, bI_1, bI_01, not_and_self, true_and, and_true, not_true_eq_false, not_false_eq_true, false_imp_iff, true_imp_iff, imp_self, gPv_n, gPv_i, gPv_r, gPv_0, Option.toList_some, Option.toList_none, List.singleton_append, List.cons_append, List.nil_append, List.length_nil, List.length_cons, Nat.zero_le, Nat.reduceAdd, Nat.reduceLeDiff, or_true, true_or, false_or, or_false, and_self, and_false, false_and, implies_true, Option.some.injEq, exists_eq_left', nL, nI_add, nI_mul, nI_clamp, nI_ltI, nI_leI, nI_eq, nI_pos, nI_pos', Nat.reduceAdd, Nat.reduceMul, Nat.reducePow, k1, k3, k6, a2, lg_len, z, hlt, b1]
  have sS : ∀ (d : Nat) (Q : Option Value → gS → Prop), wc (d + 1) 26 [.ref p, .int (nI i)] σ Q ↔ Q (some (.int (nI (if i = 0 then 0 else Ed (i - 1))))) σ := by
    intro d Q
    by_cases i0 : i = 0
    · have y : i ≤ 0 := by omega
      simp (disch := first | omega | assumption) only [c_26, e_26_0, e_26_1, e_26_4, e_26_5, e_26_6, e_26_9, e_26_10, e_26_13, e_26_14, e_26_17, e_26_18, e_26_19, e_26_20, e_26_21, e_26_24, e_26_25, n10, n01, Nat.lt_irrefl, Nat.not_lt_zero, ne_eq, Nat.add_zero, Nat.one_ne_zero, Nat.zero_ne_one, Nat.reduceEqDiff, bI_T, bI_F, bI_0, bI_1, bI_01, not_and_self, true_and, and_true, not_true_eq_false, not_false_eq_true, false_imp_iff, true_imp_iff, imp_self, gPv_n, gPv_i, gPv_r, gPv_0, Option.toList_some, Option.toList_none, List.singleton_append, List.cons_append, List.nil_append, List.length_nil, List.length_cons, Nat.zero_le, Nat.reduceAdd, Nat.reduceLeDiff, or_true, true_or, false_or, or_false, and_self, and_false, false_and, implies_true, Option.some.injEq, exists_eq_left', nL, nI_add, nI_mul, nI_clamp, nI_ltI, nI_leI, nI_eq, nI_pos, nI_pos', Nat.reduceAdd, Nat.reduceMul, Nat.reducePow, k1, k3, k6, a2, lg_len, y, i0, if_true, Nat.le_refl]
    · have y : ¬ i ≤ 0 := by omega
      have y2 : ¬ L.length < i := by omega
      have y3 : nI i - nI 1 = nI (i - 1) := nI_sub (by omega)
      have y4 : i - 1 < L.length := by omega
      have e1 : gI σ (p + 2) (i - 1) = nI (Ed (i - 1)) := (a7 (i - 1) (L[i - 1]'y4) (List.getElem?_eq_getElem y4)).1
      simp (disch := first | omega | assumption) only [c_26, e_26_0, e_26_1, e_26_4, e_26_5, e_26_6, e_26_9, e_26_10, e_26_13, e_26_14, e_26_17, e_26_18, e_26_19, e_26_20, e_26_21, e_26_24, e_26_25, n10, n01, Nat.lt_irrefl, Nat.not_lt_zero, ne_eq, Nat.add_zero, Nat.one_ne_zero, Nat.zero_ne_one, Nat.reduceEqDiff, bI_T, bI_F, bI_0, bI_1, bI_01, not_and_self, true_and, and_true, not_true_eq_false, not_false_eq_true, false_imp_iff, true_imp_iff, imp_self, gPv_n, gPv_i, gPv_r, gPv_0, Option.toList_some, Option.toList_none, List.singleton_append, List.cons_append, List.nil_append, List.length_nil, List.length_cons, Nat.zero_le, Nat.reduceAdd, Nat.reduceLeDiff, or_true, true_or, false_or, or_false, and_self, and_false, false_and, implies_true, Option.some.injEq, exists_eq_left', nL, nI_add, nI_mul, nI_clamp, nI_ltI, nI_leI, nI_eq, nI_pos, nI_pos', Nat.reduceAdd, Nat.reduceMul, Nat.reducePow, k1, k3, k6, a2, lg_len, y, y2, y3, y4, e1, i0, if_false]
  have hs : (if i = 0 then 0 else Ed (i - 1)) < 5000 := by
    split
    · omega
    · have y4 : i - 1 < L.length := by omega
      have := (a7 (i - 1) (L[i - 1]'y4) (List.getElem?_eq_getElem y4)).2.2.1
      omega
  simp (disch := omega) only [c_66, e_66_0, e_66_0n, e_66_1, e_66_2, e_66_5, e_66_6, e_66_6n, e_66_7, e_66_8, e_66_11, e_66_13, e_66_14, e_66_15, e_66_18, e_66_19, e_66_20, e_66_23, e_66_24, n10, n01, Nat.lt_irrefl, Nat.not_lt_zero, ne_eq, Nat.add_zero, Nat.one_ne_zero, Nat.zero_ne_one, Nat.reduceEqDiff, bI_T, bI_F, bI_0, bI_1, bI_01, not_and_self, true_and, and_true, not_true_eq_false, not_false_eq_true, false_imp_iff, true_imp_iff, imp_self, gPv_n, gPv_i, gPv_r, gPv_0, Option.toList_some, Option.toList_none, List.singleton_append, List.cons_append, List.nil_append, List.length_nil, List.length_cons, Nat.zero_le, Nat.reduceAdd, Nat.reduceLeDiff, or_true, true_or, false_or, or_false, and_self, and_false, false_and, implies_true, Option.some.injEq, exists_eq_left', n_K_I, n_K_J, n_K_R, n_K_r, n_N_I, n_N_J, n_N_R, n_N_r, n_R_I, n_R_J, n_R_r, n_J_I, n_J_R, n_J_r, n_I_J, n_I_R, n_n_I, n_n_J, n_n_R, n_n_r, n_w_I, n_w_J, n_w_R, n_w_r, n_T_I, n_T_J, n_T_R, n_T_r, rI_ne, rI_nk, rI_eq, rr_ne, rr_eq, n_J_J, n_R_R, Nat.add_left_cancel_iff, Nat.add_right_cancel_iff, Nat.add_eq_left, Nat.left_eq_add, Nat.reduceEqDiff, Nat.reduceAdd, Nat.zero_ne_one, Nat.one_ne_zero, false_and, and_false, true_and, and_true, and_self, if_false, if_true, ↓reduceIte, nL, sk_26 hv, sr_26_0 hv, sr_26_1 hv, sE, sS, k1]
  generalize (if i = 0 then 0 else Ed (i - 1)) = s at b4 hs ⊢
  have hX : LwX B p (gN σ (p + 1)) X σ := ⟨k1, k2, k5, rfl, a6, h3, a5⟩
  have hR0 : RkI B σ (sI (sI σ (B + 26) 2 (nI 0)) (B + 26) 3 (nI 0)) [] := by
    refine ⟨Sm_I (Sm_I (Sm_refl _ _) (Or.inl rfl)) (Or.inl rfl), ?_, ?_, by decide, trivial⟩
    · simp (disch := omega) only [rI_nk, rI_eq, List.length_nil]
    · simp only [rI_eq]
  refine rk_loop (d := d) (W := W) hv hX hW b3 400 0 s [] _ _ _ (by omega) hs hR0 ?_
  intro τ' pl' n' x6 x7 hr
  obtain ⟨c1, c2⟩ := b4 W
  have hPl : ∀ a, a = B + 26 ∨ a = B + 28 → a < B + 80 := by intro a ha; omega
  cases hx : xr X W (Ed i) 400 s [] with
  | none =>
    rw [hx] at hr c1
    have hvt : IvS B τ' := fr_IvS hr.1.1 hr.1.2.1 hr.1.2.2.1 hv
    have hb := hr.2
    have K := K τ' hr.1 (fun z => by rw [← c1] at z; exact absurd z Bool.false_ne_true)
    rw [← c1] at K
    simp (disch := omega) only [e_66_238, e_66_239, e_66_242, e_66_245, e_66_245n, e_66_246, e_66_247, e_66_250, e_66_253, e_66_254, e_66_257, e_66_260, e_66_261, e_66_264, e_66_265, e_66_268, e_66_269, e_66_270, e_66_271, e_66_272, e_66_273, e_66_276, e_66_277, e_66_280, e_66_281, n10, n01, Nat.lt_irrefl, Nat.not_lt_zero, ne_eq, Nat.add_zero, Nat.one_ne_zero, Nat.zero_ne_one, Nat.reduceEqDiff, bI_T, bI_F, bI_0, bI_1, bI_01, not_and_self, true_and, and_true, not_true_eq_false, not_false_eq_true, false_imp_iff, true_imp_iff, imp_self, gPv_n, gPv_i, gPv_r, gPv_0, Option.toList_some, Option.toList_none, List.singleton_append, List.cons_append, List.nil_append, List.length_nil, List.length_cons, Nat.zero_le, Nat.reduceAdd, Nat.reduceLeDiff, or_true, true_or, false_or, or_false, and_self, and_false, false_and, implies_true, Option.some.injEq, exists_eq_left', nL, nI_add, nI_mul, nI_clamp, nI_ltI, nI_leI, nI_eq, nI_pos, nI_pos', Nat.reduceAdd, Nat.reduceMul, Nat.reducePow, sk_26 hvt, sr_26_0 hvt, sr_26_1 hvt, hb]
    simpa only [zOut, Bool.false_eq_true, bI_F] using K
  | some st =>
    rw [hx] at hr c1
    have hvt := RkI_v hv hr
    have hO := LwO_S h0 hPl hr.1
    obtain ⟨r1, r2, r3, r4, r5⟩ := hr
    have hpk := hO.1.1
    have K := K τ' r1 (fun z1 z2 => by
      obtain ⟨t, v, e1, e2⟩ := c2 z1 z2
      rw [hx] at e1
      cases e1
      exact ⟨v, e2, SkR_0 r5⟩)
    rw [← c1] at K
    by_cases ht : cl.2.1 = true
    · have e1 : bI (cl.2.1 = true) = nI 1 := bI_t ht
      simp only [zOut, ht, Bool.not_true, Bool.false_or] at K
      cases st with
      | nil =>
        simp only [List.length_nil] at r2
        simp only [Bool.false_eq_true, bI_F] at K
        simp (disch := omega) only [e_66_238, e_66_239, e_66_242, e_66_245, e_66_245n, e_66_246, e_66_247, e_66_250, e_66_253, e_66_254, e_66_257, e_66_260, e_66_261, e_66_264, e_66_265, e_66_268, e_66_269, e_66_270, e_66_271, e_66_272, e_66_273, e_66_276, e_66_277, e_66_280, e_66_281, n10, n01, Nat.lt_irrefl, Nat.not_lt_zero, ne_eq, Nat.add_zero, Nat.one_ne_zero, Nat.zero_ne_one, Nat.reduceEqDiff, bI_T, bI_F, bI_0, bI_1, bI_01, not_and_self, true_and, and_true, not_true_eq_false, not_false_eq_true, false_imp_iff, true_imp_iff, imp_self, gPv_n, gPv_i, gPv_r, gPv_0, Option.toList_some, Option.toList_none, List.singleton_append, List.cons_append, List.nil_append, List.length_nil, List.length_cons, Nat.zero_le, Nat.reduceAdd, Nat.reduceLeDiff, or_true, true_or, false_or, or_false, and_self, and_false, false_and, implies_true, Option.some.injEq, exists_eq_left', nL, nI_add, nI_mul, nI_clamp, nI_ltI, nI_leI, nI_eq, nI_pos, nI_pos', Nat.reduceAdd, Nat.reduceMul, Nat.reducePow, sk_26 hvt, sr_26_0 hvt, sr_26_1 hvt, sk_28 hvt, sn_28 hvt, r2, r3, s_isTested hO hi, e1, hpk, ht]
        exact K
      | cons a t =>
        simp only [List.length_cons] at r2 r4
        have z0 : ¬ t.length + 1 ≤ 0 := by omega
        have z1 : nI (t.length + 1) - nI 1 = nI t.length := nI_sub (by omega)
        have z2 : t.length < 64 := by omega
        have h6 : gJ τ' (B + 28) t.length = a := r5.1
        by_cases za : a = 0
        · have e : bI (decide (a ≠ 0) = true) = nI 0 := bI_f (by simp [za])
          simp only [e] at K
          simp (disch := omega) only [e_66_238, e_66_239, e_66_242, e_66_245, e_66_245n, e_66_246, e_66_247, e_66_250, e_66_253, e_66_254, e_66_257, e_66_260, e_66_261, e_66_264, e_66_265, e_66_268, e_66_269, e_66_270, e_66_271, e_66_272, e_66_273, e_66_276, e_66_277, e_66_280, e_66_281, n10, n01, Nat.lt_irrefl, Nat.not_lt_zero, ne_eq, Nat.add_zero, Nat.one_ne_zero, Nat.zero_ne_one, Nat.reduceEqDiff, bI_T, bI_F, bI_0, bI_1, bI_01, not_and_self, true_and, and_true, not_true_eq_false, not_false_eq_true, false_imp_iff, true_imp_iff, imp_self, gPv_n, gPv_i, gPv_r, gPv_0, Option.toList_some, Option.toList_none, List.singleton_append, List.cons_append, List.nil_append, List.length_nil, List.length_cons, Nat.zero_le, Nat.reduceAdd, Nat.reduceLeDiff, or_true, true_or, false_or, or_false, and_self, and_false, false_and, implies_true, Option.some.injEq, exists_eq_left', nL, nI_add, nI_mul, nI_clamp, nI_ltI, nI_leI, nI_eq, nI_pos, nI_pos', Nat.reduceAdd, Nat.reduceMul, Nat.reducePow, sk_26 hvt, sr_26_0 hvt, sr_26_1 hvt, sk_28 hvt, sn_28 hvt, r2, r3, s_isTested hO hi, e1, hpk, z0, z1, z2, h6, lgc_eq, za, ht]
          exact K
        · have e : bI (decide (a ≠ 0) = true) = nI 1 := bI_t (by simp [za])
          simp only [e] at K
          simp (disch := omega) only [e_66_238, e_66_239, e_66_242, e_66_245, e_66_245n, e_66_246, e_66_247, e_66_250, e_66_253, e_66_254, e_66_257, e_66_260, e_66_261, e_66_264, e_66_265, e_66_268, e_66_269, e_66_270, e_66_271, e_66_272, e_66_273, e_66_276, e_66_277, e_66_280, e_66_281, n10, n01, Nat.lt_irrefl, Nat.not_lt_zero, ne_eq, Nat.add_zero, Nat.one_ne_zero, Nat.zero_ne_one, Nat.reduceEqDiff, bI_T, bI_F, bI_0, bI_1, bI_01, not_and_self, true_and, and_true, not_true_eq_false, not_false_eq_true, false_imp_iff, true_imp_iff, imp_self, gPv_n, gPv_i, gPv_r, gPv_0, Option.toList_some, Option.toList_none, List.singleton_append, List.cons_append, List.nil_append, List.length_nil, List.length_cons, Nat.zero_le, Nat.reduceAdd, Nat.reduceLeDiff, or_true, true_or, false_or, or_false, and_self, and_false, false_and, implies_true, Option.some.injEq, exists_eq_left', nL, nI_add, nI_mul, nI_clamp, nI_ltI, nI_leI, nI_eq, nI_pos, nI_pos', Nat.reduceAdd, Nat.reduceMul, Nat.reducePow, sk_26 hvt, sr_26_0 hvt, sr_26_1 hvt, sk_28 hvt, sn_28 hvt, r2, r3, s_isTested hO hi, e1, hpk, z0, z1, z2, h6, lgc_eq, za, ht]
          exact K
    · have e1 : bI (cl.2.1 = true) = nI 0 := bI_f ht
      have ht' : cl.2.1 = false := by simpa using ht
      simp only [zOut, ht', Bool.not_false, Bool.true_or, bI_T] at K
      simp (disch := omega) only [e_66_238, e_66_239, e_66_242, e_66_245, e_66_245n, e_66_246, e_66_247, e_66_250, e_66_253, e_66_254, e_66_257, e_66_260, e_66_261, e_66_264, e_66_265, e_66_268, e_66_269, e_66_270, e_66_271, e_66_272, e_66_273, e_66_276, e_66_277, e_66_280, e_66_281, n10, n01, Nat.lt_irrefl, Nat.not_lt_zero, ne_eq, Nat.add_zero, Nat.one_ne_zero, Nat.zero_ne_one, Nat.reduceEqDiff, bI_T, bI_F, bI_0, bI_1, bI_01, not_and_self, true_and, and_true, not_true_eq_false, not_false_eq_true, false_imp_iff, true_imp_iff, imp_self, gPv_n, gPv_i, gPv_r, gPv_0, Option.toList_some, Option.toList_none, List.singleton_append, List.cons_append, List.nil_append, List.length_nil, List.length_cons, Nat.zero_le, Nat.reduceAdd, Nat.reduceLeDiff, or_true, true_or, false_or, or_false, and_self, and_false, false_and, implies_true, Option.some.injEq, exists_eq_left', nL, nI_add, nI_mul, nI_clamp, nI_ltI, nI_leI, nI_eq, nI_pos, nI_pos', Nat.reduceAdd, Nat.reduceMul, Nat.reducePow, sk_26 hvt, sr_26_0 hvt, sr_26_1 hvt, r2, r3, s_isTested hO hi, e1, hpk, ht, Bool.false_eq_true]
      exact K
end
