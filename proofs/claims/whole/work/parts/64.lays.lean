/-! who can visit whom: the model's rows -/
def MX (B : Nat) (σ : gS) (A : Nat → Int32) : Prop := IvS B σ ∧ gI σ (B + 56) = A ∧ Wh A ∧ Wd A ∧ LawOK A
def LvI (B : Nat) (σ τ : gS) : Prop := Sm (fun a => a = B + 54 ∨ B + 65 ≤ a ∧ a ≤ B + 68) σ τ ∧ ∀ j, j ≠ 19 → j ≠ 20 → j ≠ 21 → j ≠ 23 → j ≠ 24 → gI τ (B + 54) j = gI σ (B + 54) j
def R3 (B : Nat) (A : Nat → Int32) (dy : Int32) (τ : gS) (a b : Nat) : Prop := (∀ a', a' < a → gI τ (B + 66) a' = nI (opn A dy a')) ∧ gI τ (B + 66) a = nI (mkN (opB A dy a) b) ∧ ∀ a' b', (a' < a ∧ b' < hn A ∨ a' = a ∧ b' < b) → a' ≠ b' → gI τ (B + 67) (12 * a' + b') = tks A a' b' (A (72 + 12 * a' + b')) dy ∧ gI τ (B + 68) (12 * a' + b') = bI (wdB A dy a' b' = true)
theorem nar1 : vp_nar .boolean (nI 1) = nI 1 := by decide
theorem nar0 : vp_nar .boolean (nI 0) = nI 0 := by decide
section
variable {B : Nat} {σ : gS} {A : Nat → Int32} {d : Nat} {Q : Option Value → gS → Prop} {dy : Int32}
theorem MX_S {P : Nat → Prop} {τ : gS} (h : MX B σ A) (hS : Sm P σ τ) (hP : ¬ P (B + 56)) : MX B τ A := ⟨fr_IvS hS.1 hS.2.1 hS.2.2.1 h.1, by rw [hS.2.2.2.2.2.2.1 _ hP]; exact h.2.1, h.2.2⟩
theorem LvI_X {τ : gS} (h : MX B σ A) (hL : LvI B σ τ) : MX B τ A := MX_S h hL.1 (by omega)
theorem LvI_asks {τ τ' : gS} (hL : LvI B σ τ) (hS : Sm (fun a => a = B + 54 ∨ a = B + 65) τ τ') (hf : ∀ j, j ≠ 19 → j ≠ 20 → j ≠ 21 → j ≠ 23 → j ≠ 24 → gI τ' (B + 54) j = gI τ (B + 54) j) : LvI B σ τ' := ⟨Sm_trans hL.1 (Sm_mono hS (fun a ha => by omega)), fun j h1 h2 h3 h4 h5 => (hf j h1 h2 h3 h4 h5).trans (hL.2 j h1 h2 h3 h4 h5)⟩
theorem LvI_I {τ : gS} {a k : Nat} {x : Int32} (hL : LvI B σ τ) (ha : B + 65 ≤ a ∧ a ≤ B + 68) : LvI B σ (sI τ a k x) := ⟨Sm_I hL.1 (Or.inr ha), fun j h1 h2 h3 h4 h5 => by rw [rI_ne (by omega)]; exact hL.2 j h1 h2 h3 h4 h5⟩
theorem R3_c {τ τ' : gS} {a b : Nat} (h : R3 B A dy τ a b) (h6 : gI τ' (B + 66) = gI τ (B + 66)) (h7 : gI τ' (B + 67) = gI τ (B + 67)) (h8 : gI τ' (B + 68) = gI τ (B + 68)) : R3 B A dy τ' a b := by
  simp only [R3, h6, h7, h8]
  exact h
set_option maxHeartbeats 4000000 in
theorem t_lv1 {a : Nat} (X : MX B σ A) (ha : a < hn A) : ∀ m b τ (x4 : Option Value), b + m = hn A → LvI B σ τ → R3 B A dy τ a b →
    (∀ τ' x3 x4, LvI B σ τ' → R3 B A dy τ' a (hn A) → wp (d + 67) pr_233 Q 216 [some (.ref (B + 54)), some (.int dy), some (.int (nI a)), x3, x4] [] τ') →
    wp (d + 67) pr_233 Q 52 [some (.ref (B + 54)), some (.int dy), some (.int (nI a)), some (.int (nI b)), x4] [] τ := by
  obtain ⟨_, _, wh, wd, wl⟩ := id X
  have h12 := hn_le wh
  have hn2 := hn_eq wh
  intro m
  induction m with
  | zero =>
    intro b τ x4 hb hL hR K
    obtain ⟨hv, hA, _⟩ := LvI_X X hL
    have z : hn A ≤ b := by omega
    have eb : b = hn A := by omega
    simp (disch := omega) only [e_233_52, e_233_53, e_233_54, e_233_57, n10, n01, Nat.lt_irrefl, Nat.not_lt_zero, ne_eq, Nat.add_zero, Nat.one_ne_zero, Nat.zero_ne_one, Nat.reduceEqDiff, bI_T, bI_F, bI_0, bI_1, bI_01, not_and_self, true_and, and_true, not_true_eq_false, not_false_eq_true, false_imp_iff, true_imp_iff, imp_self, gPv_n, gPv_i, gPv_r, gPv_0, Option.toList_some, Option.toList_none, List.singleton_append, List.cons_append, List.nil_append, List.length_nil, List.length_cons, Nat.zero_le, Nat.reduceAdd, Nat.reduceLeDiff, or_true, true_or, false_or, or_false, and_self, and_false, false_and, implies_true, Option.some.injEq, exists_eq_left', nL, nI_add, nI_mul, nI_clamp, nI_ltI, nI_leI, nI_eq, nI_pos, nI_pos', Nat.reduceAdd, Nat.reduceMul, Nat.reducePow, sk_54 hv, sr_54_2 hv, sr_54_3 hv, sr_54_4 hv, sr_54_5 hv, sr_54_7 hv, sr_54_8 hv, sr_54_9 hv, sr_54_12 hv, sr_54_13 hv, sr_54_14 hv, sr_54_22 hv, sr_54_25 hv, sr_54_26 hv, sr_54_27 hv, sr_54_34 hv, sr_54_35 hv, sr_54_36 hv, sr_54_37 hv, sr_54_38 hv, sr_54_40 hv, sr_54_43 hv, sr_54_44 hv, sr_54_45 hv, sr_54_46 hv, sr_54_47 hv, t_houses hv, hA, hn2, z]
    subst eb
    exact K τ _ _ hL hR
  | succ m ih =>
    intro b τ x4 hb hL hR K
    obtain ⟨hv, hA, _⟩ := LvI_X X hL
    have z : ¬ hn A ≤ b := by omega
    have hbn : b < hn A := by omega
    rw [e_233_52]
    by_cases hab : a = b
    · have e0 : opB A dy a b = false := by simp [opB, hab]
      have e8 : mkN (opB A dy a) (b + 1) = mkN (opB A dy a) b := by simp only [mkN, e0, Bool.false_eq_true, if_false, Nat.or_zero]
      simp (disch := omega) only [e_233_53, e_233_54, e_233_57, e_233_60, e_233_61, e_233_62, e_233_65, e_233_210, e_233_213, n10, n01, Nat.lt_irrefl, Nat.not_lt_zero, ne_eq, Nat.add_zero, Nat.one_ne_zero, Nat.zero_ne_one, Nat.reduceEqDiff, bI_T, bI_F, bI_0, bI_1, bI_01, not_and_self, true_and, and_true, not_true_eq_false, not_false_eq_true, false_imp_iff, true_imp_iff, imp_self, gPv_n, gPv_i, gPv_r, gPv_0, Option.toList_some, Option.toList_none, List.singleton_append, List.cons_append, List.nil_append, List.length_nil, List.length_cons, Nat.zero_le, Nat.reduceAdd, Nat.reduceLeDiff, or_true, true_or, false_or, or_false, and_self, and_false, false_and, implies_true, Option.some.injEq, exists_eq_left', nL, nI_add, nI_mul, nI_clamp, nI_ltI, nI_leI, nI_eq, nI_pos, nI_pos', Nat.reduceAdd, Nat.reduceMul, Nat.reducePow, sk_54 hv, sr_54_2 hv, sr_54_3 hv, sr_54_4 hv, sr_54_5 hv, sr_54_7 hv, sr_54_8 hv, sr_54_9 hv, sr_54_12 hv, sr_54_13 hv, sr_54_14 hv, sr_54_22 hv, sr_54_25 hv, sr_54_26 hv, sr_54_27 hv, sr_54_34 hv, sr_54_35 hv, sr_54_36 hv, sr_54_37 hv, sr_54_38 hv, sr_54_40 hv, sr_54_43 hv, sr_54_44 hv, sr_54_45 hv, sr_54_46 hv, sr_54_47 hv, t_houses hv, hA, hn2, z, hab]
      rw [← hab]
      rw [← hab] at e8 hb hR
      refine ih (a + 1) τ x4 (by omega) hL ⟨hR.1, by rw [e8]; exact hR.2.1, ?_⟩ K
      intro a' b' h1 h2
      exact hR.2.2 a' b' (by omega) h2
    · generalize hbo : (St A a && St A b) = bo
      have ew : wdB A dy a b = (bo && !brd A a b (nI 1) dy) := by simp [wdB, ha, hab, hbo]
      have eo : opB A dy a b = (bo && (Dr A a b || decide (tch A a b = 1)) && !brd A a b (A (72 + 12 * a + b)) dy) := by simp [opB, ha, hab, hbo]
      have hab12 : 12 * a + b < 144 := by omega
      have hDr : bI (Dr A a b = true) = A (72 + 12 * a + b) := by
        rw [Dr_v wd (by omega) (by omega)]
        cases Dr A a b <;> rfl
      have tl := tch_le (A := A) (a := a) (b := b)
      have step3 : ∀ τ3, LvI B σ τ3 → R3 B A dy τ3 a b → gI τ3 (B + 68) (12 * a + b) = bI (wdB A dy a b = true) → gI τ3 (B + 54) 23 = tks A a b (A (72 + 12 * a + b)) dy → gI τ3 (B + 54) 24 = bI (brd A a b (A (72 + 12 * a + b)) dy = true) →
          wp (d + 67) pr_233 Q 148 [some (.ref (B + 54)), some (.int dy), some (.int (nI a)), some (.int (nI b)), some (.int (bI (bo = true)))] [] τ3 := by
        intro τ3 hL3 hR3 h68 h23 h24
        obtain ⟨hv3, hA3, _⟩ := LvI_X X hL3
        have wh3 : Wh (gI τ3 (B + 56)) := by rw [hA3]; exact wh
        have wd3 : Wd (gI τ3 (B + 56)) := by rw [hA3]; exact wd
        have e66 := hR3.2.1
        have fin : ∀ v : Nat, mkN (opB A dy a) (b + 1) = v → wp (d + 67) pr_233 Q 52 [some (.ref (B + 54)), some (.int dy), some (.int (nI a)), some (.int (nI (b + 1))), some (.int (bI (bo = true)))] [] (sI (sI τ3 (B + 67) (12 * a + b) (tks A a b (A (72 + 12 * a + b)) dy)) (B + 66) a (nI v)) := by
          intro v hvv
          refine ih (b + 1) _ _ (by omega) (LvI_I (LvI_I hL3 ⟨by omega, by omega⟩) ⟨by omega, by omega⟩) ⟨?_, ?_, ?_⟩ K
          · intro a' ha'
            rw [rI_nk (by omega), rI_ne (by omega)]
            exact hR3.1 a' ha'
          · rw [rI_eq, hvv]
          · intro a' b' h1 h2
            by_cases hx : a' = a ∧ b' = b
            · obtain ⟨rfl, rfl⟩ := hx
              refine ⟨?_, ?_⟩
              · rw [rI_ne (by omega), rI_eq]
              · rw [rI_ne (by omega), rI_ne (by omega)]
                exact h68
            · have hb'12 : b' < 12 := by omega
              have := hR3.2.2 a' b' (by omega) h2
              refine ⟨?_, ?_⟩
              · rw [rI_ne (by omega), rI_nk (by omega)]
                exact this.1
              · rw [rI_ne (by omega), rI_ne (by omega)]
                exact this.2
        have vT : opB A dy a b = true → mkN (opB A dy a) (b + 1) = mkN (opB A dy a) b ||| 2 ^ b := by intro z; simp only [mkN, z, if_true]
        have vF : opB A dy a b = false → mkN (opB A dy a) (b + 1) = mkN (opB A dy a) b ||| 0 := by intro z; simp only [mkN, z, Bool.false_eq_true, if_false]
        have a12 : a < 12 := by omega
        cases bo
        · have fin := fin _ (vF (by rw [eo]; rfl))
          simp only [Bool.false_eq_true, bI_F] at fin
          simp (disch := omega) only [e_233_148, e_233_149, e_233_152, e_233_154, e_233_155, e_233_156, e_233_157, e_233_158, e_233_159, e_233_162, e_233_163, e_233_164, e_233_167, e_233_168, e_233_169, e_233_170, e_233_172, e_233_207, e_233_208, e_233_209, e_233_210, e_233_213, n10, n01, Nat.lt_irrefl, Nat.not_lt_zero, ne_eq, Nat.add_zero, Nat.one_ne_zero, Nat.zero_ne_one, Nat.reduceEqDiff, bI_T, bI_F, bI_0, bI_1, bI_01, not_and_self, true_and, and_true, not_true_eq_false, not_false_eq_true, false_imp_iff, true_imp_iff, imp_self, gPv_n, gPv_i, gPv_r, gPv_0, Option.toList_some, Option.toList_none, List.singleton_append, List.cons_append, List.nil_append, List.length_nil, List.length_cons, Nat.zero_le, Nat.reduceAdd, Nat.reduceLeDiff, or_true, true_or, false_or, or_false, and_self, and_false, false_and, implies_true, Option.some.injEq, exists_eq_left', n_K_I, n_K_J, n_K_R, n_K_r, n_N_I, n_N_J, n_N_R, n_N_r, n_R_I, n_R_J, n_R_r, n_J_I, n_J_R, n_J_r, n_I_J, n_I_R, n_n_I, n_n_J, n_n_R, n_n_r, n_w_I, n_w_J, n_w_R, n_w_r, n_T_I, n_T_J, n_T_R, n_T_r, rI_ne, rI_nk, rI_eq, rr_ne, rr_eq, n_J_J, n_R_R, Nat.add_left_cancel_iff, Nat.add_right_cancel_iff, Nat.add_eq_left, Nat.left_eq_add, Nat.reduceEqDiff, Nat.reduceAdd, Nat.zero_ne_one, Nat.one_ne_zero, false_and, and_false, true_and, and_true, and_self, if_false, if_true, ↓reduceIte, nL, nI_add, nI_mul, nI_clamp, nI_ltI, nI_leI, nI_eq, nI_pos, nI_pos', Nat.reduceAdd, Nat.reduceMul, Nat.reducePow, sk_54 hv3, sr_54_2 hv3, sr_54_3 hv3, sr_54_4 hv3, sr_54_5 hv3, sr_54_7 hv3, sr_54_8 hv3, sr_54_9 hv3, sr_54_12 hv3, sr_54_13 hv3, sr_54_14 hv3, sr_54_22 hv3, sr_54_25 hv3, sr_54_26 hv3, sr_54_27 hv3, sr_54_34 hv3, sr_54_35 hv3, sr_54_36 hv3, sr_54_37 hv3, sr_54_38 hv3, sr_54_40 hv3, sr_54_43 hv3, sr_54_44 hv3, sr_54_45 hv3, sr_54_46 hv3, sr_54_47 hv3, sk_66 hv3, sn_66 hv3, sk_67 hv3, sn_67 hv3, h23, hab12, a12, e66, nI_or, Bool.false_eq_true]
          exact fin
        · cases hbr : brd A a b (A (72 + 12 * a + b)) dy
          · rw [hbr] at h24 eo
            simp only [Bool.false_eq_true, bI_F] at h24
            by_cases dd : Dr A a b = true
            · have fin := fin _ (vT (by rw [eo, dd]; rfl))
              simp only [bI_T] at fin
              simp (disch := first | omega | (simp only [IvS_I]; assumption) | (simp (disch := omega) only [rI_ne]; assumption)) only [e_233_148, e_233_149, e_233_152, e_233_154, e_233_155, e_233_156, e_233_157, e_233_158, e_233_159, e_233_162, e_233_163, e_233_164, e_233_167, e_233_168, e_233_169, e_233_170, e_233_172, e_233_175, e_233_176, e_233_179, e_233_182, e_233_183, e_233_184, e_233_185, e_233_188, e_233_191, e_233_192, e_233_193, e_233_194, e_233_197, e_233_198, e_233_201, e_233_202, e_233_203, e_233_204, e_233_207, e_233_208, e_233_209, e_233_210, e_233_213, n10, n01, Nat.lt_irrefl, Nat.not_lt_zero, ne_eq, Nat.add_zero, Nat.one_ne_zero, Nat.zero_ne_one, Nat.reduceEqDiff, bI_T, bI_F, bI_0, bI_1, bI_01, not_and_self, true_and, and_true, not_true_eq_false, not_false_eq_true, false_imp_iff, true_imp_iff, imp_self, gPv_n, gPv_i, gPv_r, gPv_0, Option.toList_some, Option.toList_none, List.singleton_append, List.cons_append, List.nil_append, List.length_nil, List.length_cons, Nat.zero_le, Nat.reduceAdd, Nat.reduceLeDiff, or_true, true_or, false_or, or_false, and_self, and_false, false_and, implies_true, Option.some.injEq, exists_eq_left', n_K_I, n_K_J, n_K_R, n_K_r, n_N_I, n_N_J, n_N_R, n_N_r, n_R_I, n_R_J, n_R_r, n_J_I, n_J_R, n_J_r, n_I_J, n_I_R, n_n_I, n_n_J, n_n_R, n_n_r, n_w_I, n_w_J, n_w_R, n_w_r, n_T_I, n_T_J, n_T_R, n_T_r, rI_ne, rI_nk, rI_eq, rr_ne, rr_eq, n_J_J, n_R_R, Nat.add_left_cancel_iff, Nat.add_right_cancel_iff, Nat.add_eq_left, Nat.left_eq_add, Nat.reduceEqDiff, Nat.reduceAdd, Nat.zero_ne_one, Nat.one_ne_zero, false_and, and_false, true_and, and_true, and_self, if_false, if_true, ↓reduceIte, nL, nI_add, nI_mul, nI_clamp, nI_ltI, nI_leI, nI_eq, nI_pos, nI_pos', Nat.reduceAdd, Nat.reduceMul, Nat.reducePow, sk_54 hv3, sr_54_2 hv3, sr_54_3 hv3, sr_54_4 hv3, sr_54_5 hv3, sr_54_7 hv3, sr_54_8 hv3, sr_54_9 hv3, sr_54_12 hv3, sr_54_13 hv3, sr_54_14 hv3, sr_54_22 hv3, sr_54_25 hv3, sr_54_26 hv3, sr_54_27 hv3, sr_54_34 hv3, sr_54_35 hv3, sr_54_36 hv3, sr_54_37 hv3, sr_54_38 hv3, sr_54_40 hv3, sr_54_43 hv3, sr_54_44 hv3, sr_54_45 hv3, sr_54_46 hv3, sr_54_47 hv3, sk_66 hv3, sn_66 hv3, sk_67 hv3, sn_67 hv3, h23, h24, hab12, a12, e66, nI_or, nI_shl, Nat.one_mul, t_hasDoor, hA3, dd]
              exact fin
            · have dd' : Dr A a b = false := by simpa using dd
              by_cases tt : tch A a b = 1
              · have fin := fin _ (vT (by rw [eo, dd', tt]; rfl))
                simp only [bI_T] at fin
                have htc : ∀ (d : Nat) (Q : Option Value → gS → Prop), wc (d + 3) 231 [.ref (B + 54), .int (nI a), .int (nI b)] (sI τ3 (B + 67) (12 * a + b) (tks A a b (A (72 + 12 * a + b)) dy)) Q ↔ Q (some (.int (nI (tch A a b)))) (sI τ3 (B + 67) (12 * a + b) (tks A a b (A (72 + 12 * a + b)) dy)) := by
                  intro d Q
                  have e56 : gI (sI τ3 (B + 67) (12 * a + b) (tks A a b (A (72 + 12 * a + b)) dy)) (B + 56) = A := by rw [rI_ne (by omega)]; exact hA3
                  have := t_touching (d := d) (Q := Q) (σ := sI τ3 (B + 67) (12 * a + b) (tks A a b (A (72 + 12 * a + b)) dy)) (a := a) (b := b) (IvS_I.mpr hv3) (by rw [e56]; exact wh) (by rw [e56]; exact ha) (by rw [e56]; exact hbn)
                  rw [e56] at this
                  exact this
                simp (disch := first | omega | (simp only [IvS_I]; assumption) | (simp (disch := omega) only [rI_ne]; assumption)) only [e_233_148, e_233_149, e_233_152, e_233_154, e_233_155, e_233_156, e_233_157, e_233_158, e_233_159, e_233_162, e_233_163, e_233_164, e_233_167, e_233_168, e_233_169, e_233_170, e_233_172, e_233_175, e_233_176, e_233_179, e_233_182, e_233_183, e_233_184, e_233_185, e_233_188, e_233_191, e_233_192, e_233_193, e_233_194, e_233_197, e_233_198, e_233_201, e_233_202, e_233_203, e_233_204, e_233_207, e_233_208, e_233_209, e_233_210, e_233_213, n10, n01, Nat.lt_irrefl, Nat.not_lt_zero, ne_eq, Nat.add_zero, Nat.one_ne_zero, Nat.zero_ne_one, Nat.reduceEqDiff, bI_T, bI_F, bI_0, bI_1, bI_01, not_and_self, true_and, and_true, not_true_eq_false, not_false_eq_true, false_imp_iff, true_imp_iff, imp_self, gPv_n, gPv_i, gPv_r, gPv_0, Option.toList_some, Option.toList_none, List.singleton_append, List.cons_append, List.nil_append, List.length_nil, List.length_cons, Nat.zero_le, Nat.reduceAdd, Nat.reduceLeDiff, or_true, true_or, false_or, or_false, and_self, and_false, false_and, implies_true, Option.some.injEq, exists_eq_left', n_K_I, n_K_J, n_K_R, n_K_r, n_N_I, n_N_J, n_N_R, n_N_r, n_R_I, n_R_J, n_R_r, n_J_I, n_J_R, n_J_r, n_I_J, n_I_R, n_n_I, n_n_J, n_n_R, n_n_r, n_w_I, n_w_J, n_w_R, n_w_r, n_T_I, n_T_J, n_T_R, n_T_r, rI_ne, rI_nk, rI_eq, rr_ne, rr_eq, n_J_J, n_R_R, Nat.add_left_cancel_iff, Nat.add_right_cancel_iff, Nat.add_eq_left, Nat.left_eq_add, Nat.reduceEqDiff, Nat.reduceAdd, Nat.zero_ne_one, Nat.one_ne_zero, false_and, and_false, true_and, and_true, and_self, if_false, if_true, ↓reduceIte, nL, nI_add, nI_mul, nI_clamp, nI_ltI, nI_leI, nI_eq, nI_pos, nI_pos', Nat.reduceAdd, Nat.reduceMul, Nat.reducePow, sk_54 hv3, sr_54_2 hv3, sr_54_3 hv3, sr_54_4 hv3, sr_54_5 hv3, sr_54_7 hv3, sr_54_8 hv3, sr_54_9 hv3, sr_54_12 hv3, sr_54_13 hv3, sr_54_14 hv3, sr_54_22 hv3, sr_54_25 hv3, sr_54_26 hv3, sr_54_27 hv3, sr_54_34 hv3, sr_54_35 hv3, sr_54_36 hv3, sr_54_37 hv3, sr_54_38 hv3, sr_54_40 hv3, sr_54_43 hv3, sr_54_44 hv3, sr_54_45 hv3, sr_54_46 hv3, sr_54_47 hv3, sk_66 hv3, sn_66 hv3, sk_67 hv3, sn_67 hv3, h23, h24, hab12, a12, e66, nI_or, nI_shl, Nat.one_mul, t_hasDoor, hA3, dd', Bool.false_eq_true, htc, tt]
                exact fin
              · have fin := fin _ (vF (by rw [eo, dd']; simp [tt]))
                simp only [bI_T] at fin
                have htc : ∀ (d : Nat) (Q : Option Value → gS → Prop), wc (d + 3) 231 [.ref (B + 54), .int (nI a), .int (nI b)] (sI τ3 (B + 67) (12 * a + b) (tks A a b (A (72 + 12 * a + b)) dy)) Q ↔ Q (some (.int (nI (tch A a b)))) (sI τ3 (B + 67) (12 * a + b) (tks A a b (A (72 + 12 * a + b)) dy)) := by
                  intro d Q
                  have e56 : gI (sI τ3 (B + 67) (12 * a + b) (tks A a b (A (72 + 12 * a + b)) dy)) (B + 56) = A := by rw [rI_ne (by omega)]; exact hA3
                  have := t_touching (d := d) (Q := Q) (σ := sI τ3 (B + 67) (12 * a + b) (tks A a b (A (72 + 12 * a + b)) dy)) (a := a) (b := b) (IvS_I.mpr hv3) (by rw [e56]; exact wh) (by rw [e56]; exact ha) (by rw [e56]; exact hbn)
                  rw [e56] at this
                  exact this
                simp (disch := first | omega | (simp only [IvS_I]; assumption) | (simp (disch := omega) only [rI_ne]; assumption)) only [e_233_148, e_233_149, e_233_152, e_233_154, e_233_155, e_233_156, e_233_157, e_233_158, e_233_159, e_233_162, e_233_163, e_233_164, e_233_167, e_233_168, e_233_169, e_233_170, e_233_172, e_233_175, e_233_176, e_233_179, e_233_182, e_233_183, e_233_184, e_233_185, e_233_188, e_233_191, e_233_192, e_233_193, e_233_194, e_233_197, e_233_198, e_233_201, e_233_202, e_233_203, e_233_204, e_233_207, e_233_208, e_233_209, e_233_210, e_233_213, n10, n01, Nat.lt_irrefl, Nat.not_lt_zero, ne_eq, Nat.add_zero, Nat.one_ne_zero, Nat.zero_ne_one, Nat.reduceEqDiff, bI_T, bI_F, bI_0, bI_1, bI_01, not_and_self, true_and, and_true, not_true_eq_false, not_false_eq_true, false_imp_iff, true_imp_iff, imp_self, gPv_n, gPv_i, gPv_r, gPv_0, Option.toList_some, Option.toList_none, List.singleton_append, List.cons_append, List.nil_append, List.length_nil, List.length_cons, Nat.zero_le, Nat.reduceAdd, Nat.reduceLeDiff, or_true, true_or, false_or, or_false, and_self, and_false, false_and, implies_true, Option.some.injEq, exists_eq_left', n_K_I, n_K_J, n_K_R, n_K_r, n_N_I, n_N_J, n_N_R, n_N_r, n_R_I, n_R_J, n_R_r, n_J_I, n_J_R, n_J_r, n_I_J, n_I_R, n_n_I, n_n_J, n_n_R, n_n_r, n_w_I, n_w_J, n_w_R, n_w_r, n_T_I, n_T_J, n_T_R, n_T_r, rI_ne, rI_nk, rI_eq, rr_ne, rr_eq, n_J_J, n_R_R, Nat.add_left_cancel_iff, Nat.add_right_cancel_iff, Nat.add_eq_left, Nat.left_eq_add, Nat.reduceEqDiff, Nat.reduceAdd, Nat.zero_ne_one, Nat.one_ne_zero, false_and, and_false, true_and, and_true, and_self, if_false, if_true, ↓reduceIte, nL, nI_add, nI_mul, nI_clamp, nI_ltI, nI_leI, nI_eq, nI_pos, nI_pos', Nat.reduceAdd, Nat.reduceMul, Nat.reducePow, sk_54 hv3, sr_54_2 hv3, sr_54_3 hv3, sr_54_4 hv3, sr_54_5 hv3, sr_54_7 hv3, sr_54_8 hv3, sr_54_9 hv3, sr_54_12 hv3, sr_54_13 hv3, sr_54_14 hv3, sr_54_22 hv3, sr_54_25 hv3, sr_54_26 hv3, sr_54_27 hv3, sr_54_34 hv3, sr_54_35 hv3, sr_54_36 hv3, sr_54_37 hv3, sr_54_38 hv3, sr_54_40 hv3, sr_54_43 hv3, sr_54_44 hv3, sr_54_45 hv3, sr_54_46 hv3, sr_54_47 hv3, sk_66 hv3, sn_66 hv3, sk_67 hv3, sn_67 hv3, h23, h24, hab12, a12, e66, nI_or, nI_shl, Nat.one_mul, t_hasDoor, hA3, dd', Bool.false_eq_true, htc, tt]
                exact fin
          · have fin := fin _ (vF (by rw [eo, hbr]; simp))
            rw [hbr] at h24
            simp only [bI_T] at fin h24
            simp (disch := omega) only [e_233_148, e_233_149, e_233_152, e_233_154, e_233_155, e_233_156, e_233_157, e_233_158, e_233_159, e_233_162, e_233_163, e_233_164, e_233_167, e_233_168, e_233_169, e_233_170, e_233_172, e_233_175, e_233_176, e_233_179, e_233_207, e_233_208, e_233_209, e_233_210, e_233_213, n10, n01, Nat.lt_irrefl, Nat.not_lt_zero, ne_eq, Nat.add_zero, Nat.one_ne_zero, Nat.zero_ne_one, Nat.reduceEqDiff, bI_T, bI_F, bI_0, bI_1, bI_01, not_and_self, true_and, and_true, not_true_eq_false, not_false_eq_true, false_imp_iff, true_imp_iff, imp_self, gPv_n, gPv_i, gPv_r, gPv_0, Option.toList_some, Option.toList_none, List.singleton_append, List.cons_append, List.nil_append, List.length_nil, List.length_cons, Nat.zero_le, Nat.reduceAdd, Nat.reduceLeDiff, or_true, true_or, false_or, or_false, and_self, and_false, false_and, implies_true, Option.some.injEq, exists_eq_left', n_K_I, n_K_J, n_K_R, n_K_r, n_N_I, n_N_J, n_N_R, n_N_r, n_R_I, n_R_J, n_R_r, n_J_I, n_J_R, n_J_r, n_I_J, n_I_R, n_n_I, n_n_J, n_n_R, n_n_r, n_w_I, n_w_J, n_w_R, n_w_r, n_T_I, n_T_J, n_T_R, n_T_r, rI_ne, rI_nk, rI_eq, rr_ne, rr_eq, n_J_J, n_R_R, Nat.add_left_cancel_iff, Nat.add_right_cancel_iff, Nat.add_eq_left, Nat.left_eq_add, Nat.reduceEqDiff, Nat.reduceAdd, Nat.zero_ne_one, Nat.one_ne_zero, false_and, and_false, true_and, and_true, and_self, if_false, if_true, ↓reduceIte, nL, nI_add, nI_mul, nI_clamp, nI_ltI, nI_leI, nI_eq, nI_pos, nI_pos', Nat.reduceAdd, Nat.reduceMul, Nat.reducePow, sk_54 hv3, sr_54_2 hv3, sr_54_3 hv3, sr_54_4 hv3, sr_54_5 hv3, sr_54_7 hv3, sr_54_8 hv3, sr_54_9 hv3, sr_54_12 hv3, sr_54_13 hv3, sr_54_14 hv3, sr_54_22 hv3, sr_54_25 hv3, sr_54_26 hv3, sr_54_27 hv3, sr_54_34 hv3, sr_54_35 hv3, sr_54_36 hv3, sr_54_37 hv3, sr_54_38 hv3, sr_54_40 hv3, sr_54_43 hv3, sr_54_44 hv3, sr_54_45 hv3, sr_54_46 hv3, sr_54_47 hv3, sk_66 hv3, sn_66 hv3, sk_67 hv3, sn_67 hv3, h23, h24, hab12, a12, e66, nI_or]
            exact fin
      have step2 : ∀ τ2, LvI B σ τ2 → R3 B A dy τ2 a b → gI τ2 (B + 68) (12 * a + b) = bI (wdB A dy a b = true) →
          wp (d + 67) pr_233 Q 127 [some (.ref (B + 54)), some (.int dy), some (.int (nI a)), some (.int (nI b)), some (.int (bI (bo = true)))] [] τ2 := by
        intro τ2 hL2 hR2 h68
        obtain ⟨hv2, hA2, _⟩ := LvI_X X hL2
        have wd2 : Wd (gI τ2 (B + 56)) := by rw [hA2]; exact wd
        have go : wp (d + 67) pr_233 Q 145 [some (.ref (B + 54)), some (.int dy), some (.int (nI a)), some (.int (nI b)), some (.int (bI (bo = true)))] [.int dy, .int (A (72 + 12 * a + b)), .int (nI b), .int (nI a), .ref (B + 54)] τ2 := by
          simp (disch := omega) only [e_233_145, n10, n01, Nat.lt_irrefl, Nat.not_lt_zero, ne_eq, Nat.add_zero, Nat.one_ne_zero, Nat.zero_ne_one, Nat.reduceEqDiff, bI_T, bI_F, bI_0, bI_1, bI_01, not_and_self, true_and, and_true, not_true_eq_false, not_false_eq_true, false_imp_iff, true_imp_iff, imp_self, gPv_n, gPv_i, gPv_r, gPv_0, Option.toList_some, Option.toList_none, List.singleton_append, List.cons_append, List.nil_append, List.length_nil, List.length_cons, Nat.zero_le, Nat.reduceAdd, Nat.reduceLeDiff, or_true, true_or, false_or, or_false, and_self, and_false, false_and, implies_true, Option.some.injEq, exists_eq_left', sk_54 hv2, sr_54_2 hv2, sr_54_3 hv2, sr_54_4 hv2, sr_54_5 hv2, sr_54_7 hv2, sr_54_8 hv2, sr_54_9 hv2, sr_54_12 hv2, sr_54_13 hv2, sr_54_14 hv2, sr_54_22 hv2, sr_54_25 hv2, sr_54_26 hv2, sr_54_27 hv2, sr_54_34 hv2, sr_54_35 hv2, sr_54_36 hv2, sr_54_37 hv2, sr_54_38 hv2, sr_54_40 hv2, sr_54_43 hv2, sr_54_44 hv2, sr_54_45 hv2, sr_54_46 hv2, sr_54_47 hv2]
          refine t_asks hv2 hA2 wh wl ha hbn ?_
          intro τ3 hS3 hf3 h23 h24
          simp only [n10, n01, Nat.lt_irrefl, Nat.not_lt_zero, ne_eq, Nat.add_zero, Nat.one_ne_zero, Nat.zero_ne_one, Nat.reduceEqDiff, bI_T, bI_F, bI_0, bI_1, bI_01, not_and_self, true_and, and_true, not_true_eq_false, not_false_eq_true, false_imp_iff, true_imp_iff, imp_self, gPv_n, gPv_i, gPv_r, gPv_0, Option.toList_some, Option.toList_none, List.singleton_append, List.cons_append, List.nil_append, List.length_nil, List.length_cons, Nat.zero_le, Nat.reduceAdd, Nat.reduceLeDiff, or_true, true_or, false_or, or_false, and_self, and_false, false_and, implies_true, Option.some.injEq, exists_eq_left']
          refine step3 τ3 (LvI_asks hL2 hS3 hf3) (R3_c hR2 (hS3.2.2.2.2.2.2.1 _ (by omega)) (hS3.2.2.2.2.2.2.1 _ (by omega)) (hS3.2.2.2.2.2.2.1 _ (by omega))) ?_ h23 h24
          rw [hS3.2.2.2.2.2.2.1 _ (by omega)]
          exact h68
        by_cases dd : Dr A a b = true
        · rw [← hDr, bI_t dd] at go
          simp (disch := omega) only [e_233_127, e_233_128, e_233_129, e_233_130, e_233_131, e_233_132, e_233_133, e_233_136, e_233_139, e_233_140, e_233_143, e_233_144, n10, n01, Nat.lt_irrefl, Nat.not_lt_zero, ne_eq, Nat.add_zero, Nat.one_ne_zero, Nat.zero_ne_one, Nat.reduceEqDiff, bI_T, bI_F, bI_0, bI_1, bI_01, not_and_self, true_and, and_true, not_true_eq_false, not_false_eq_true, false_imp_iff, true_imp_iff, imp_self, gPv_n, gPv_i, gPv_r, gPv_0, Option.toList_some, Option.toList_none, List.singleton_append, List.cons_append, List.nil_append, List.length_nil, List.length_cons, Nat.zero_le, Nat.reduceAdd, Nat.reduceLeDiff, or_true, true_or, false_or, or_false, and_self, and_false, false_and, implies_true, Option.some.injEq, exists_eq_left', nL, nI_add, nI_mul, nI_clamp, nI_ltI, nI_leI, nI_eq, nI_pos, nI_pos', Nat.reduceAdd, Nat.reduceMul, Nat.reducePow, sk_54 hv2, sr_54_2 hv2, sr_54_3 hv2, sr_54_4 hv2, sr_54_5 hv2, sr_54_7 hv2, sr_54_8 hv2, sr_54_9 hv2, sr_54_12 hv2, sr_54_13 hv2, sr_54_14 hv2, sr_54_22 hv2, sr_54_25 hv2, sr_54_26 hv2, sr_54_27 hv2, sr_54_34 hv2, sr_54_35 hv2, sr_54_36 hv2, sr_54_37 hv2, sr_54_38 hv2, sr_54_40 hv2, sr_54_43 hv2, sr_54_44 hv2, sr_54_45 hv2, sr_54_46 hv2, sr_54_47 hv2, t_hasDoor hv2 wd2, hA2, dd]
          exact go
        · rw [← hDr, bI_f dd] at go
          simp (disch := omega) only [e_233_127, e_233_128, e_233_129, e_233_130, e_233_131, e_233_132, e_233_133, e_233_136, e_233_139, e_233_140, e_233_143, e_233_144, n10, n01, Nat.lt_irrefl, Nat.not_lt_zero, ne_eq, Nat.add_zero, Nat.one_ne_zero, Nat.zero_ne_one, Nat.reduceEqDiff, bI_T, bI_F, bI_0, bI_1, bI_01, not_and_self, true_and, and_true, not_true_eq_false, not_false_eq_true, false_imp_iff, true_imp_iff, imp_self, gPv_n, gPv_i, gPv_r, gPv_0, Option.toList_some, Option.toList_none, List.singleton_append, List.cons_append, List.nil_append, List.length_nil, List.length_cons, Nat.zero_le, Nat.reduceAdd, Nat.reduceLeDiff, or_true, true_or, false_or, or_false, and_self, and_false, false_and, implies_true, Option.some.injEq, exists_eq_left', nL, nI_add, nI_mul, nI_clamp, nI_ltI, nI_leI, nI_eq, nI_pos, nI_pos', Nat.reduceAdd, Nat.reduceMul, Nat.reducePow, sk_54 hv2, sr_54_2 hv2, sr_54_3 hv2, sr_54_4 hv2, sr_54_5 hv2, sr_54_7 hv2, sr_54_8 hv2, sr_54_9 hv2, sr_54_12 hv2, sr_54_13 hv2, sr_54_14 hv2, sr_54_22 hv2, sr_54_25 hv2, sr_54_26 hv2, sr_54_27 hv2, sr_54_34 hv2, sr_54_35 hv2, sr_54_36 hv2, sr_54_37 hv2, sr_54_38 hv2, sr_54_40 hv2, sr_54_43 hv2, sr_54_44 hv2, sr_54_45 hv2, sr_54_46 hv2, sr_54_47 hv2, t_hasDoor hv2 wd2, hA2, dd, Bool.false_eq_true]
          exact go
      have step1 : wp (d + 67) pr_233 Q 91 [some (.ref (B + 54)), some (.int dy), some (.int (nI a)), some (.int (nI b)), some (.int (bI (bo = true)))] [] τ := by
        simp (disch := omega) only [e_233_91, e_233_92, e_233_93, e_233_94, e_233_95, e_233_96, n10, n01, Nat.lt_irrefl, Nat.not_lt_zero, ne_eq, Nat.add_zero, Nat.one_ne_zero, Nat.zero_ne_one, Nat.reduceEqDiff, bI_T, bI_F, bI_0, bI_1, bI_01, not_and_self, true_and, and_true, not_true_eq_false, not_false_eq_true, false_imp_iff, true_imp_iff, imp_self, gPv_n, gPv_i, gPv_r, gPv_0, Option.toList_some, Option.toList_none, List.singleton_append, List.cons_append, List.nil_append, List.length_nil, List.length_cons, Nat.zero_le, Nat.reduceAdd, Nat.reduceLeDiff, or_true, true_or, false_or, or_false, and_self, and_false, false_and, implies_true, Option.some.injEq, exists_eq_left', nL, sk_54 hv, sr_54_2 hv, sr_54_3 hv, sr_54_4 hv, sr_54_5 hv, sr_54_7 hv, sr_54_8 hv, sr_54_9 hv, sr_54_12 hv, sr_54_13 hv, sr_54_14 hv, sr_54_22 hv, sr_54_25 hv, sr_54_26 hv, sr_54_27 hv, sr_54_34 hv, sr_54_35 hv, sr_54_36 hv, sr_54_37 hv, sr_54_38 hv, sr_54_40 hv, sr_54_43 hv, sr_54_44 hv, sr_54_45 hv, sr_54_46 hv, sr_54_47 hv]
        refine t_asks hv hA wh wl ha hbn ?_
        intro τ1 hS1 hf1 h23 h24
        have hL1 := LvI_asks hL hS1 hf1
        have hR1 := R3_c hR (hS1.2.2.2.2.2.2.1 _ (by omega)) (hS1.2.2.2.2.2.2.1 _ (by omega)) (hS1.2.2.2.2.2.2.1 _ (by omega))
        have hv1 := (LvI_X X hL1).1
        have k68 := sk_68 hv1
        have fin : ∀ v : Int32, v = bI (wdB A dy a b = true) → wp (d + 67) pr_233 Q 127 [some (.ref (B + 54)), some (.int dy), some (.int (nI a)), some (.int (nI b)), some (.int (bI (bo = true)))] [] (sI τ1 (B + 68) (12 * a + b) v) := by
          intro v hvv
          refine step2 _ (LvI_I hL1 ⟨by omega, by omega⟩) ⟨?_, ?_, ?_⟩ (by rw [rI_eq]; exact hvv)
          · intro a' ha'; rw [rI_ne (by omega)]; exact hR1.1 a' ha'
          · rw [rI_ne (by omega)]; exact hR1.2.1
          · intro a' b' h1 h2
            have := hR1.2.2 a' b' h1 h2
            refine ⟨by rw [rI_ne (by omega)]; exact this.1, ?_⟩
            rw [rI_nk (by omega)]
            exact this.2
        cases bo
        · have fin := fin (nI 0) (by rw [ew]; rfl)
          simp only [Bool.false_eq_true, bI_F] at fin
          simp (disch := first | omega | assumption) only [e_233_99, e_233_100, e_233_103, e_233_105, e_233_106, e_233_107, e_233_108, e_233_109, e_233_111, e_233_114, e_233_115, e_233_118, e_233_121, e_233_122, e_233_125, e_233_126, e_233_126n, n10, n01, Nat.lt_irrefl, Nat.not_lt_zero, ne_eq, Nat.add_zero, Nat.one_ne_zero, Nat.zero_ne_one, Nat.reduceEqDiff, bI_T, bI_F, bI_0, bI_1, bI_01, not_and_self, true_and, and_true, not_true_eq_false, not_false_eq_true, false_imp_iff, true_imp_iff, imp_self, gPv_n, gPv_i, gPv_r, gPv_0, Option.toList_some, Option.toList_none, List.singleton_append, List.cons_append, List.nil_append, List.length_nil, List.length_cons, Nat.zero_le, Nat.reduceAdd, Nat.reduceLeDiff, or_true, true_or, false_or, or_false, and_self, and_false, false_and, implies_true, Option.some.injEq, exists_eq_left', nL, nI_add, nI_mul, nI_clamp, nI_ltI, nI_leI, nI_eq, nI_pos, nI_pos', Nat.reduceAdd, Nat.reduceMul, Nat.reducePow, sk_54 hv1, sr_54_2 hv1, sr_54_3 hv1, sr_54_4 hv1, sr_54_5 hv1, sr_54_7 hv1, sr_54_8 hv1, sr_54_9 hv1, sr_54_12 hv1, sr_54_13 hv1, sr_54_14 hv1, sr_54_22 hv1, sr_54_25 hv1, sr_54_26 hv1, sr_54_27 hv1, sr_54_34 hv1, sr_54_35 hv1, sr_54_36 hv1, sr_54_37 hv1, sr_54_38 hv1, sr_54_40 hv1, sr_54_43 hv1, sr_54_44 hv1, sr_54_45 hv1, sr_54_46 hv1, sr_54_47 hv1, sk_68 hv1, sn_68 hv1, hab12, Bool.false_eq_true, nar0]
          exact fin
        · cases hbr : brd A a b (nI 1) dy
          · have fin := fin (nI 1) (by rw [ew, hbr]; rfl)
            rw [hbr] at h24
            simp only [Bool.false_eq_true, bI_F] at h24
            simp only [bI_T] at fin
            simp (disch := first | omega | assumption) only [e_233_99, e_233_100, e_233_103, e_233_105, e_233_106, e_233_107, e_233_108, e_233_109, e_233_111, e_233_114, e_233_115, e_233_118, e_233_121, e_233_122, e_233_125, e_233_126, e_233_126n, n10, n01, Nat.lt_irrefl, Nat.not_lt_zero, ne_eq, Nat.add_zero, Nat.one_ne_zero, Nat.zero_ne_one, Nat.reduceEqDiff, bI_T, bI_F, bI_0, bI_1, bI_01, not_and_self, true_and, and_true, not_true_eq_false, not_false_eq_true, false_imp_iff, true_imp_iff, imp_self, gPv_n, gPv_i, gPv_r, gPv_0, Option.toList_some, Option.toList_none, List.singleton_append, List.cons_append, List.nil_append, List.length_nil, List.length_cons, Nat.zero_le, Nat.reduceAdd, Nat.reduceLeDiff, or_true, true_or, false_or, or_false, and_self, and_false, false_and, implies_true, Option.some.injEq, exists_eq_left', nL, nI_add, nI_mul, nI_clamp, nI_ltI, nI_leI, nI_eq, nI_pos, nI_pos', Nat.reduceAdd, Nat.reduceMul, Nat.reducePow, sk_54 hv1, sr_54_2 hv1, sr_54_3 hv1, sr_54_4 hv1, sr_54_5 hv1, sr_54_7 hv1, sr_54_8 hv1, sr_54_9 hv1, sr_54_12 hv1, sr_54_13 hv1, sr_54_14 hv1, sr_54_22 hv1, sr_54_25 hv1, sr_54_26 hv1, sr_54_27 hv1, sr_54_34 hv1, sr_54_35 hv1, sr_54_36 hv1, sr_54_37 hv1, sr_54_38 hv1, sr_54_40 hv1, sr_54_43 hv1, sr_54_44 hv1, sr_54_45 hv1, sr_54_46 hv1, sr_54_47 hv1, sk_68 hv1, sn_68 hv1, hab12, h24, nar1]
            exact fin
          · have fin := fin (nI 0) (by rw [ew, hbr]; rfl)
            rw [hbr] at h24
            simp only [bI_T] at h24 fin
            simp (disch := first | omega | assumption) only [e_233_99, e_233_100, e_233_103, e_233_105, e_233_106, e_233_107, e_233_108, e_233_109, e_233_111, e_233_114, e_233_115, e_233_118, e_233_121, e_233_122, e_233_125, e_233_126, e_233_126n, n10, n01, Nat.lt_irrefl, Nat.not_lt_zero, ne_eq, Nat.add_zero, Nat.one_ne_zero, Nat.zero_ne_one, Nat.reduceEqDiff, bI_T, bI_F, bI_0, bI_1, bI_01, not_and_self, true_and, and_true, not_true_eq_false, not_false_eq_true, false_imp_iff, true_imp_iff, imp_self, gPv_n, gPv_i, gPv_r, gPv_0, Option.toList_some, Option.toList_none, List.singleton_append, List.cons_append, List.nil_append, List.length_nil, List.length_cons, Nat.zero_le, Nat.reduceAdd, Nat.reduceLeDiff, or_true, true_or, false_or, or_false, and_self, and_false, false_and, implies_true, Option.some.injEq, exists_eq_left', nL, nI_add, nI_mul, nI_clamp, nI_ltI, nI_leI, nI_eq, nI_pos, nI_pos', Nat.reduceAdd, Nat.reduceMul, Nat.reducePow, sk_54 hv1, sr_54_2 hv1, sr_54_3 hv1, sr_54_4 hv1, sr_54_5 hv1, sr_54_7 hv1, sr_54_8 hv1, sr_54_9 hv1, sr_54_12 hv1, sr_54_13 hv1, sr_54_14 hv1, sr_54_22 hv1, sr_54_25 hv1, sr_54_26 hv1, sr_54_27 hv1, sr_54_34 hv1, sr_54_35 hv1, sr_54_36 hv1, sr_54_37 hv1, sr_54_38 hv1, sr_54_40 hv1, sr_54_43 hv1, sr_54_44 hv1, sr_54_45 hv1, sr_54_46 hv1, sr_54_47 hv1, sk_68 hv1, sn_68 hv1, hab12, h24, nar0]
            exact fin
      cases hsa : St A a
      · rw [← hbo, hsa] at step1
        simp only [Bool.false_and, Bool.false_eq_true, bI_F] at step1
        simp (disch := omega) only [e_233_53, e_233_54, e_233_57, e_233_60, e_233_61, e_233_62, e_233_65, e_233_68, e_233_69, e_233_70, e_233_73, e_233_76, e_233_77, e_233_78, e_233_81, e_233_84, e_233_85, e_233_88, e_233_89, n10, n01, Nat.lt_irrefl, Nat.not_lt_zero, ne_eq, Nat.add_zero, Nat.one_ne_zero, Nat.zero_ne_one, Nat.reduceEqDiff, bI_T, bI_F, bI_0, bI_1, bI_01, not_and_self, true_and, and_true, not_true_eq_false, not_false_eq_true, false_imp_iff, true_imp_iff, imp_self, gPv_n, gPv_i, gPv_r, gPv_0, Option.toList_some, Option.toList_none, List.singleton_append, List.cons_append, List.nil_append, List.length_nil, List.length_cons, Nat.zero_le, Nat.reduceAdd, Nat.reduceLeDiff, or_true, true_or, false_or, or_false, and_self, and_false, false_and, implies_true, Option.some.injEq, exists_eq_left', nL, nI_add, nI_mul, nI_clamp, nI_ltI, nI_leI, nI_eq, nI_pos, nI_pos', Nat.reduceAdd, Nat.reduceMul, Nat.reducePow, sk_54 hv, sr_54_2 hv, sr_54_3 hv, sr_54_4 hv, sr_54_5 hv, sr_54_7 hv, sr_54_8 hv, sr_54_9 hv, sr_54_12 hv, sr_54_13 hv, sr_54_14 hv, sr_54_22 hv, sr_54_25 hv, sr_54_26 hv, sr_54_27 hv, sr_54_34 hv, sr_54_35 hv, sr_54_36 hv, sr_54_37 hv, sr_54_38 hv, sr_54_40 hv, sr_54_43 hv, sr_54_44 hv, sr_54_45 hv, sr_54_46 hv, sr_54_47 hv, t_houses hv, t_stands hv, hA, hn2, z, hab, hsa, Bool.false_eq_true]
        exact step1
      · cases hsb : St A b
        · rw [← hbo, hsa, hsb] at step1
          simp only [Bool.true_and, Bool.false_eq_true, bI_F] at step1
          simp (disch := omega) only [e_233_53, e_233_54, e_233_57, e_233_60, e_233_61, e_233_62, e_233_65, e_233_68, e_233_69, e_233_70, e_233_73, e_233_76, e_233_77, e_233_78, e_233_81, e_233_84, e_233_85, e_233_88, e_233_89, n10, n01, Nat.lt_irrefl, Nat.not_lt_zero, ne_eq, Nat.add_zero, Nat.one_ne_zero, Nat.zero_ne_one, Nat.reduceEqDiff, bI_T, bI_F, bI_0, bI_1, bI_01, not_and_self, true_and, and_true, not_true_eq_false, not_false_eq_true, false_imp_iff, true_imp_iff, imp_self, gPv_n, gPv_i, gPv_r, gPv_0, Option.toList_some, Option.toList_none, List.singleton_append, List.cons_append, List.nil_append, List.length_nil, List.length_cons, Nat.zero_le, Nat.reduceAdd, Nat.reduceLeDiff, or_true, true_or, false_or, or_false, and_self, and_false, false_and, implies_true, Option.some.injEq, exists_eq_left', nL, nI_add, nI_mul, nI_clamp, nI_ltI, nI_leI, nI_eq, nI_pos, nI_pos', Nat.reduceAdd, Nat.reduceMul, Nat.reducePow, sk_54 hv, sr_54_2 hv, sr_54_3 hv, sr_54_4 hv, sr_54_5 hv, sr_54_7 hv, sr_54_8 hv, sr_54_9 hv, sr_54_12 hv, sr_54_13 hv, sr_54_14 hv, sr_54_22 hv, sr_54_25 hv, sr_54_26 hv, sr_54_27 hv, sr_54_34 hv, sr_54_35 hv, sr_54_36 hv, sr_54_37 hv, sr_54_38 hv, sr_54_40 hv, sr_54_43 hv, sr_54_44 hv, sr_54_45 hv, sr_54_46 hv, sr_54_47 hv, t_houses hv, t_stands hv, hA, hn2, z, hab, hsa, hsb, Bool.false_eq_true]
          exact step1
        · rw [← hbo, hsa, hsb] at step1
          simp only [Bool.true_and, bI_T] at step1
          simp (disch := omega) only [e_233_53, e_233_54, e_233_57, e_233_60, e_233_61, e_233_62, e_233_65, e_233_68, e_233_69, e_233_70, e_233_73, e_233_76, e_233_77, e_233_78, e_233_81, e_233_84, e_233_85, e_233_88, e_233_89, n10, n01, Nat.lt_irrefl, Nat.not_lt_zero, ne_eq, Nat.add_zero, Nat.one_ne_zero, Nat.zero_ne_one, Nat.reduceEqDiff, bI_T, bI_F, bI_0, bI_1, bI_01, not_and_self, true_and, and_true, not_true_eq_false, not_false_eq_true, false_imp_iff, true_imp_iff, imp_self, gPv_n, gPv_i, gPv_r, gPv_0, Option.toList_some, Option.toList_none, List.singleton_append, List.cons_append, List.nil_append, List.length_nil, List.length_cons, Nat.zero_le, Nat.reduceAdd, Nat.reduceLeDiff, or_true, true_or, false_or, or_false, and_self, and_false, false_and, implies_true, Option.some.injEq, exists_eq_left', nL, nI_add, nI_mul, nI_clamp, nI_ltI, nI_leI, nI_eq, nI_pos, nI_pos', Nat.reduceAdd, Nat.reduceMul, Nat.reducePow, sk_54 hv, sr_54_2 hv, sr_54_3 hv, sr_54_4 hv, sr_54_5 hv, sr_54_7 hv, sr_54_8 hv, sr_54_9 hv, sr_54_12 hv, sr_54_13 hv, sr_54_14 hv, sr_54_22 hv, sr_54_25 hv, sr_54_26 hv, sr_54_27 hv, sr_54_34 hv, sr_54_35 hv, sr_54_36 hv, sr_54_37 hv, sr_54_38 hv, sr_54_40 hv, sr_54_43 hv, sr_54_44 hv, sr_54_45 hv, sr_54_46 hv, sr_54_47 hv, t_houses hv, t_stands hv, hA, hn2, z, hab, hsa, hsb]
          exact step1
end
