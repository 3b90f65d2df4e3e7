/-! the class asks a law: a clause -/
def zDec (kv : Int64) (pl m : Nat) (st : List Int64) : Option (Nat × List Int64) := match st with
  | [] => some (m, [])
  | a :: t => if a = kv then some (m, a :: t) else some (pl + 1, t)
def zJn (k pl : Nat) (st : List Int64) : Option (Nat × List Int64) := match st with
  | b :: a :: t => (match zJoin k a b with
    | none => none
    | some v => some (pl + 1, v :: t))
  | st => some (pl + 1, st)
def xS (X : Nat → Nat) (W : Nat → Int32) (pl : Nat) (st : List Int64) : Option (Nat × List Int64) :=
  if X pl / 4096 = 0 then some (pl + 1, zPush st (nI (X pl % 4096)).toInt64)
  else if X pl / 4096 = 1 then some (pl + 1, zPush st (if X pl % 4096 < 9 then (W (X pl % 4096)).toInt64 else 0))
  else if X pl / 4096 = 9 then some (pl + 1, zTurn st)
  else if X pl / 4096 = 10 then zDec 0 pl (X pl % 4096) st
  else if X pl / 4096 = 11 then zDec 1 pl (X pl % 4096) st
  else zJn (X pl / 4096) pl st
def xr (X : Nat → Nat) (W : Nat → Int32) (e : Nat) : Nat → Nat → List Int64 → Option (List Int64)
  | 0, _, st => some st
  | m + 1, pl, st => if pl < e then (match xS X W pl st with
    | none => none
    | some (pl', st') => xr X W e m pl' st') else some st
/-- a law's steps lie at p + 1 -/
def LwX (B p ns : Nat) (X : Nat → Nat) (σ : gS) : Prop := gK σ p = 4 ∧ gR σ p 0 = some (p + 1) ∧ gK σ (p + 1) = 21 ∧ gN σ (p + 1) = ns ∧ (∀ j, j < ns → gI σ (p + 1) j = nI (X j) ∧ X j < 49152) ∧ B + 80 ≤ p ∧ ns ≤ 400
theorem lg_len {n : Nat} : Int32.ofNat n = nI n := rfl
section
variable {B p ns e : Nat} {X : Nat → Nat} {W : Nat → Int32} {σ : gS}
theorem LwX_S {τ : gS} (h : LwX B p ns X σ) (hS : Sm (fun a => a = B + 26 ∨ a = B + 28) σ τ) : LwX B p ns X τ := by
  obtain ⟨h1, h2, h3, h4, h5, h6, h7⟩ := h
  refine ⟨by rw [hS.1]; exact h1, by rw [hS.2.2.1]; exact h2, by rw [hS.1]; exact h3, by rw [hS.2.1]; exact h4, ?_, h6, h7⟩
  intro j hj
  rw [hS.2.2.2.2.2.2.1 (p + 1) (by omega)]
  exact h5 j hj
theorem s_stepAt {d j : Nat} {Q : Option Value → gS → Prop} (h : LwX B p ns X σ) (hj : j < ns) : wc (d + 1) 25 [.ref p, .int (nI j)] σ Q ↔ Q (some (.int (nI (X j)))) σ := by
  obtain ⟨h1, h2, h3, h4, h5, h6, h7⟩ := h
  have z : ¬ ns ≤ j := by omega
  have hk : 20 ≤ gK σ (p + 1) ∧ gK σ (p + 1) < 27 := by omega
  have e1 := (h5 j hj).1
  simp (disch := first | omega | assumption) only [c_25, e_25_0, e_25_1, e_25_4, e_25_5, e_25_6, e_25_9, e_25_10, e_25_13, e_25_14, e_25_17, e_25_18, e_25_19, e_25_22, e_25_23, n10, n01, Nat.lt_irrefl, Nat.not_lt_zero, ne_eq, Nat.add_zero, Nat.one_ne_zero, Nat.zero_ne_one, Nat.reduceEqDiff, bI_T, bI_F, bI_0, bI_1, bI_01, not_and_self, true_and, and_true, not_true_eq_false, not_false_eq_true, false_imp_iff, true_imp_iff, imp_self, gPv_n, gPv_i, gPv_r, gPv_0, Option.toList_some, Option.toList_none, List.singleton_append, List.cons_append, List.nil_append, List.length_nil, List.length_cons, Nat.zero_le, Nat.reduceAdd, Nat.reduceLeDiff, or_true, true_or, false_or, or_false, and_self, and_false, false_and, implies_true, Option.some.injEq, exists_eq_left', nL, nI_add, nI_mul, nI_clamp, nI_ltI, nI_leI, nI_eq, nI_pos, nI_pos', Nat.reduceAdd, Nat.reduceMul, Nat.reducePow, h1, h2, h3, h4, lg_len, z, hj, e1]
/-- the words asked -/
def WdI (B : Nat) (W : Nat → Int32) (σ : gS) : Prop := ∀ j, j < 9 → gI σ (B + 27) j = W j
set_option maxHeartbeats 4000000 in
theorem rk_loop {d cl : Nat} {Q : Option Value → gS → Prop} (hv : IvS B σ) (hL : LwX B p ns X σ) (hW : WdI B W σ) (he : e ≤ ns) : ∀ m n pl st τ (x6 x7 : Option Value), n + m = 400 → pl < 5000 → RkI B σ τ st →
    (∀ τ' pl' n' (x6 x7 : Option Value), (match xr X W e m pl st with
      | none => RkB B σ τ'
      | some st' => RkI B σ τ' st') → wp (d + 1) pr_66 Q 238 [some (.ref (B + 26)), some (.ref p), some (.int (nI cl)), some (.int (nI e)), some (.int (nI pl')), some (.int (nI n')), x6, x7] [] τ') →
    wp (d + 1) pr_66 Q 26 [some (.ref (B + 26)), some (.ref p), some (.int (nI cl)), some (.int (nI e)), some (.int (nI pl)), some (.int (nI n)), x6, x7] [] τ := by
  have h400 : ns ≤ 400 := hL.2.2.2.2.2.2
  intro m
  induction m with
  | zero =>
    intro n pl st τ x6 x7 hn hpl hR K
    have z : 400 ≤ n := by omega
    simp (disch := omega) only [e_66_26, e_66_28, e_66_31, n10, n01, Nat.lt_irrefl, Nat.not_lt_zero, ne_eq, Nat.add_zero, Nat.one_ne_zero, Nat.zero_ne_one, Nat.reduceEqDiff, bI_T, bI_F, bI_0, bI_1, bI_01, not_and_self, true_and, and_true, not_true_eq_false, not_false_eq_true, false_imp_iff, true_imp_iff, imp_self, gPv_n, gPv_i, gPv_r, gPv_0, Option.toList_some, Option.toList_none, List.singleton_append, List.cons_append, List.nil_append, List.length_nil, List.length_cons, Nat.zero_le, Nat.reduceAdd, Nat.reduceLeDiff, or_true, true_or, false_or, or_false, and_self, and_false, false_and, implies_true, Option.some.injEq, exists_eq_left', nL, nI_add, nI_mul, nI_clamp, nI_ltI, nI_leI, nI_eq, nI_pos, nI_pos', Nat.reduceAdd, Nat.reduceMul, Nat.reducePow, z]
    exact K τ pl n x6 x7 hR
  | succ m ih =>
    intro n pl st τ x6 x7 hn hpl hR K
    have z : ¬ 400 ≤ n := by omega
    by_cases hpe : pl < e
    · have z2 : ¬ e ≤ pl := by omega
      have hvt := RkI_v hv hR
      have hLt := LwX_S hL hR.1
      have hps : pl < ns := by omega
      have hX := (hL.2.2.2.2.1 pl hps).2
      have hk := hLt.1
      have hb0 := hR.2.2.1
      have xe : xr X W e (m + 1) pl st = (match xS X W pl st with
        | none => none
        | some (pl', st') => xr X W e m pl' st') := if_pos hpe
      rw [xe] at K
      have ih := fun pl' st' τ' x6 x7 h1 h2 h3 => ih (n + 1) pl' st' τ' x6 x7 (by omega) h1 h2 h3
      have z40 : ¬ 4096 = 0 := by omega
      have hd : X pl / 4096 < 12 := by omega
      have hm : X pl % 4096 < 4096 := Nat.mod_lt _ (by omega)
      have kk : X pl / 4096 = 0 ∨ X pl / 4096 = 1 ∨ X pl / 4096 = 2 ∨ X pl / 4096 = 3 ∨ X pl / 4096 = 4 ∨ X pl / 4096 = 5 ∨ X pl / 4096 = 6 ∨ X pl / 4096 = 7 ∨ X pl / 4096 = 8 ∨ X pl / 4096 = 9 ∨ X pl / 4096 = 10 ∨ X pl / 4096 = 11 := by omega
      rw [e_66_26]
      simp (disch := omega) only [e_66_28, e_66_31, e_66_34, e_66_36, e_66_37, e_66_40, e_66_41, e_66_44, e_66_47, e_66_47n, e_66_48, e_66_50, e_66_53, e_66_55, e_66_57, e_66_60, e_66_61, e_66_63, e_66_65, e_66_68, n10, n01, Nat.lt_irrefl, Nat.not_lt_zero, ne_eq, Nat.add_zero, Nat.one_ne_zero, Nat.zero_ne_one, Nat.reduceEqDiff, bI_T, bI_F, bI_0, bI_1, bI_01, not_and_self, true_and, and_true, not_true_eq_false, not_false_eq_true, false_imp_iff, true_imp_iff, imp_self, gPv_n, gPv_i, gPv_r, gPv_0, Option.toList_some, Option.toList_none, List.singleton_append, List.cons_append, List.nil_append, List.length_nil, List.length_cons, Nat.zero_le, Nat.reduceAdd, Nat.reduceLeDiff, or_true, true_or, false_or, or_false, and_self, and_false, false_and, implies_true, Option.some.injEq, exists_eq_left', nL, nI_add, nI_mul, nI_clamp, nI_ltI, nI_leI, nI_eq, nI_pos, nI_pos', Nat.reduceAdd, Nat.reduceMul, Nat.reducePow, sk_26 hvt, sr_26_0 hvt, sr_26_1 hvt, z, z2, hk, hb0, s_stepAt hLt hps, nI_div, nI_rem, z40]
      rcases kk with k0 | k0 | k0 | k0 | k0 | k0 | k0 | k0 | k0 | k0 | k0 | k0
      · have xs : xS X W pl st = some (pl + 1, zPush st (nI (X pl % 4096)).toInt64) := by simp only [xS, k0, if_true]
        rw [xs] at K
        simp (disch := omega) only [e_66_69, e_66_132, e_66_133, e_66_135, e_66_136, n10, n01, Nat.lt_irrefl, Nat.not_lt_zero, ne_eq, Nat.add_zero, Nat.one_ne_zero, Nat.zero_ne_one, Nat.reduceEqDiff, bI_T, bI_F, bI_0, bI_1, bI_01, not_and_self, true_and, and_true, not_true_eq_false, not_false_eq_true, false_imp_iff, true_imp_iff, imp_self, gPv_n, gPv_i, gPv_r, gPv_0, Option.toList_some, Option.toList_none, List.singleton_append, List.cons_append, List.nil_append, List.length_nil, List.length_cons, Nat.zero_le, Nat.reduceAdd, Nat.reduceLeDiff, or_true, true_or, false_or, or_false, and_self, and_false, false_and, implies_true, Option.some.injEq, exists_eq_left', nL, nI_add, nI_mul, nI_clamp, nI_ltI, nI_leI, nI_eq, nI_pos, nI_pos', Nat.reduceAdd, Nat.reduceMul, Nat.reducePow, ti_0, ti_1, ti_2, ti_3, ti_4, ti_5, ti_6, ti_7, ti_8, ti_9, ti_10, ti_11, ti_12, ti_13, ti_14, ti_15, Int.reduceLT, Int.reduceSub, Int.reduceToNat, Int.sub_zero, Int.toNat_zero, Int.toNat_one, List.getElem?_cons_succ, List.getElem?_cons_zero, Int.lt_irrefl, sk_26 hvt, sr_26_0 hvt, sr_26_1 hvt, nI_div, z40, k0]
        refine rk_push hv hR ?_
        intro τ' hR'
        simp (disch := omega) only [e_66_139, e_66_229, e_66_232, e_66_235, n10, n01, Nat.lt_irrefl, Nat.not_lt_zero, ne_eq, Nat.add_zero, Nat.one_ne_zero, Nat.zero_ne_one, Nat.reduceEqDiff, bI_T, bI_F, bI_0, bI_1, bI_01, not_and_self, true_and, and_true, not_true_eq_false, not_false_eq_true, false_imp_iff, true_imp_iff, imp_self, gPv_n, gPv_i, gPv_r, gPv_0, Option.toList_some, Option.toList_none, List.singleton_append, List.cons_append, List.nil_append, List.length_nil, List.length_cons, Nat.zero_le, Nat.reduceAdd, Nat.reduceLeDiff, or_true, true_or, false_or, or_false, and_self, and_false, false_and, implies_true, Option.some.injEq, exists_eq_left', nL, nI_add, nI_mul, nI_clamp, nI_ltI, nI_leI, nI_eq, nI_pos, nI_pos', Nat.reduceAdd, Nat.reduceMul, Nat.reducePow]
        exact ih _ _ _ _ _ (by omega) hR' K
      · have xs : xS X W pl st = some (pl + 1, zPush st (if X pl % 4096 < 9 then (W (X pl % 4096)).toInt64 else 0)) := by simp only [xS, k0, Nat.one_ne_zero, if_false, if_true]
        rw [xs] at K
        by_cases h9 : X pl % 4096 < 9
        · have h9' : ¬ 9 ≤ X pl % 4096 := by omega
          have hWt : gI τ (B + 27) (X pl % 4096) = W (X pl % 4096) := by
            rw [hR.1.2.2.2.2.2.2.1 (B + 27) (by omega)]
            exact hW _ h9
          rw [if_pos h9] at K
          simp (disch := omega) only [e_66_69, e_66_142, e_66_143, e_66_145, e_66_147, e_66_150, e_66_151, e_66_154, e_66_156, e_66_157, e_66_158, e_66_161, e_66_162, n10, n01, Nat.lt_irrefl, Nat.not_lt_zero, ne_eq, Nat.add_zero, Nat.one_ne_zero, Nat.zero_ne_one, Nat.reduceEqDiff, bI_T, bI_F, bI_0, bI_1, bI_01, not_and_self, true_and, and_true, not_true_eq_false, not_false_eq_true, false_imp_iff, true_imp_iff, imp_self, gPv_n, gPv_i, gPv_r, gPv_0, Option.toList_some, Option.toList_none, List.singleton_append, List.cons_append, List.nil_append, List.length_nil, List.length_cons, Nat.zero_le, Nat.reduceAdd, Nat.reduceLeDiff, or_true, true_or, false_or, or_false, and_self, and_false, false_and, implies_true, Option.some.injEq, exists_eq_left', nL, nI_add, nI_mul, nI_clamp, nI_ltI, nI_leI, nI_eq, nI_pos, nI_pos', Nat.reduceAdd, Nat.reduceMul, Nat.reducePow, ti_0, ti_1, ti_2, ti_3, ti_4, ti_5, ti_6, ti_7, ti_8, ti_9, ti_10, ti_11, ti_12, ti_13, ti_14, ti_15, Int.reduceLT, Int.reduceSub, Int.reduceToNat, Int.sub_zero, Int.toNat_zero, Int.toNat_one, List.getElem?_cons_succ, List.getElem?_cons_zero, Int.lt_irrefl, sk_26 hvt, sr_26_0 hvt, sr_26_1 hvt, sk_27 hvt, sn_27 hvt, nI_div, z40, k0, h9, h9', hWt]
          refine rk_push hv hR ?_
          intro τ' hR'
          simp (disch := omega) only [e_66_165, e_66_229, e_66_232, e_66_235, n10, n01, Nat.lt_irrefl, Nat.not_lt_zero, ne_eq, Nat.add_zero, Nat.one_ne_zero, Nat.zero_ne_one, Nat.reduceEqDiff, bI_T, bI_F, bI_0, bI_1, bI_01, not_and_self, true_and, and_true, not_true_eq_false, not_false_eq_true, false_imp_iff, true_imp_iff, imp_self, gPv_n, gPv_i, gPv_r, gPv_0, Option.toList_some, Option.toList_none, List.singleton_append, List.cons_append, List.nil_append, List.length_nil, List.length_cons, Nat.zero_le, Nat.reduceAdd, Nat.reduceLeDiff, or_true, true_or, false_or, or_false, and_self, and_false, false_and, implies_true, Option.some.injEq, exists_eq_left', nL, nI_add, nI_mul, nI_clamp, nI_ltI, nI_leI, nI_eq, nI_pos, nI_pos', Nat.reduceAdd, Nat.reduceMul, Nat.reducePow]
          exact ih _ _ _ _ _ (by omega) hR' K
        · have h9' : 9 ≤ X pl % 4096 := by omega
          rw [if_neg h9] at K
          simp (disch := omega) only [e_66_69, e_66_142, e_66_143, e_66_145, e_66_147, e_66_150, e_66_151, e_66_154, e_66_156, e_66_157, e_66_158, e_66_161, e_66_162, n10, n01, Nat.lt_irrefl, Nat.not_lt_zero, ne_eq, Nat.add_zero, Nat.one_ne_zero, Nat.zero_ne_one, Nat.reduceEqDiff, bI_T, bI_F, bI_0, bI_1, bI_01, not_and_self, true_and, and_true, not_true_eq_false, not_false_eq_true, false_imp_iff, true_imp_iff, imp_self, gPv_n, gPv_i, gPv_r, gPv_0, Option.toList_some, Option.toList_none, List.singleton_append, List.cons_append, List.nil_append, List.length_nil, List.length_cons, Nat.zero_le, Nat.reduceAdd, Nat.reduceLeDiff, or_true, true_or, false_or, or_false, and_self, and_false, false_and, implies_true, Option.some.injEq, exists_eq_left', nL, nI_add, nI_mul, nI_clamp, nI_ltI, nI_leI, nI_eq, nI_pos, nI_pos', Nat.reduceAdd, Nat.reduceMul, Nat.reducePow, ti_0, ti_1, ti_2, ti_3, ti_4, ti_5, ti_6, ti_7, ti_8, ti_9, ti_10, ti_11, ti_12, ti_13, ti_14, ti_15, Int.reduceLT, Int.reduceSub, Int.reduceToNat, Int.sub_zero, Int.toNat_zero, Int.toNat_one, List.getElem?_cons_succ, List.getElem?_cons_zero, Int.lt_irrefl, sk_26 hvt, sr_26_0 hvt, sr_26_1 hvt, sk_27 hvt, sn_27 hvt, nI_div, z40, k0, h9']
          refine rk_push hv hR ?_
          intro τ' hR'
          simp (disch := omega) only [e_66_165, e_66_229, e_66_232, e_66_235, n10, n01, Nat.lt_irrefl, Nat.not_lt_zero, ne_eq, Nat.add_zero, Nat.one_ne_zero, Nat.zero_ne_one, Nat.reduceEqDiff, bI_T, bI_F, bI_0, bI_1, bI_01, not_and_self, true_and, and_true, not_true_eq_false, not_false_eq_true, false_imp_iff, true_imp_iff, imp_self, gPv_n, gPv_i, gPv_r, gPv_0, Option.toList_some, Option.toList_none, List.singleton_append, List.cons_append, List.nil_append, List.length_nil, List.length_cons, Nat.zero_le, Nat.reduceAdd, Nat.reduceLeDiff, or_true, true_or, false_or, or_false, and_self, and_false, false_and, implies_true, Option.some.injEq, exists_eq_left', nL, nI_add, nI_mul, nI_clamp, nI_ltI, nI_leI, nI_eq, nI_pos, nI_pos', Nat.reduceAdd, Nat.reduceMul, Nat.reducePow]
          exact ih _ _ _ _ _ (by omega) hR' K
      · have xs : xS X W pl st = zJn 2 pl st := by simp only [xS, k0, Nat.reduceEqDiff, if_false]
        rw [xs] at K
        simp (disch := omega) only [e_66_69, e_66_219, e_66_220, e_66_222, e_66_225, e_66_226, n10, n01, Nat.lt_irrefl, Nat.not_lt_zero, ne_eq, Nat.add_zero, Nat.one_ne_zero, Nat.zero_ne_one, Nat.reduceEqDiff, bI_T, bI_F, bI_0, bI_1, bI_01, not_and_self, true_and, and_true, not_true_eq_false, not_false_eq_true, false_imp_iff, true_imp_iff, imp_self, gPv_n, gPv_i, gPv_r, gPv_0, Option.toList_some, Option.toList_none, List.singleton_append, List.cons_append, List.nil_append, List.length_nil, List.length_cons, Nat.zero_le, Nat.reduceAdd, Nat.reduceLeDiff, or_true, true_or, false_or, or_false, and_self, and_false, false_and, implies_true, Option.some.injEq, exists_eq_left', nL, nI_add, nI_mul, nI_clamp, nI_ltI, nI_leI, nI_eq, nI_pos, nI_pos', Nat.reduceAdd, Nat.reduceMul, Nat.reducePow, ti_0, ti_1, ti_2, ti_3, ti_4, ti_5, ti_6, ti_7, ti_8, ti_9, ti_10, ti_11, ti_12, ti_13, ti_14, ti_15, Int.reduceLT, Int.reduceSub, Int.reduceToNat, Int.sub_zero, Int.toNat_zero, Int.toNat_one, List.getElem?_cons_succ, List.getElem?_cons_zero, Int.lt_irrefl, sk_26 hvt, sr_26_0 hvt, sr_26_1 hvt, nI_div, z40, k0]
        refine rk_join (by omega) (by omega) hv hR ?_
        intro τ' hR'
        simp (disch := omega) only [e_66_229, e_66_232, e_66_235, n10, n01, Nat.lt_irrefl, Nat.not_lt_zero, ne_eq, Nat.add_zero, Nat.one_ne_zero, Nat.zero_ne_one, Nat.reduceEqDiff, bI_T, bI_F, bI_0, bI_1, bI_01, not_and_self, true_and, and_true, not_true_eq_false, not_false_eq_true, false_imp_iff, true_imp_iff, imp_self, gPv_n, gPv_i, gPv_r, gPv_0, Option.toList_some, Option.toList_none, List.singleton_append, List.cons_append, List.nil_append, List.length_nil, List.length_cons, Nat.zero_le, Nat.reduceAdd, Nat.reduceLeDiff, or_true, true_or, false_or, or_false, and_self, and_false, false_and, implies_true, Option.some.injEq, exists_eq_left', nL, nI_add, nI_mul, nI_clamp, nI_ltI, nI_leI, nI_eq, nI_pos, nI_pos', Nat.reduceAdd, Nat.reduceMul, Nat.reducePow]
        match st, K, hR' with
        | [], K, hR' => exact ih _ _ _ _ _ (by omega) hR' K
        | [a], K, hR' => exact ih _ _ _ _ _ (by omega) hR' K
        | b :: a :: t, K, hR' =>
          simp only [zJn] at K hR'
          cases hz : zJoin 2 a b with
          | some v =>
            simp only [hz] at K hR'
            exact ih _ _ _ _ _ (by omega) hR' K
          | none =>
            simp only [hz] at K hR'
            have hvt' : IvS B τ' := fr_IvS hR'.1.1 hR'.1.2.1 hR'.1.2.2.1 hv
            have hb1 := hR'.2
            by_cases y1 : 400 ≤ n + 1
            · simp (disch := omega) only [e_66_26, e_66_28, e_66_31, e_66_34, e_66_36, e_66_37, e_66_40, e_66_41, e_66_44, n10, n01, Nat.lt_irrefl, Nat.not_lt_zero, ne_eq, Nat.add_zero, Nat.one_ne_zero, Nat.zero_ne_one, Nat.reduceEqDiff, bI_T, bI_F, bI_0, bI_1, bI_01, not_and_self, true_and, and_true, not_true_eq_false, not_false_eq_true, false_imp_iff, true_imp_iff, imp_self, gPv_n, gPv_i, gPv_r, gPv_0, Option.toList_some, Option.toList_none, List.singleton_append, List.cons_append, List.nil_append, List.length_nil, List.length_cons, Nat.zero_le, Nat.reduceAdd, Nat.reduceLeDiff, or_true, true_or, false_or, or_false, and_self, and_false, false_and, implies_true, Option.some.injEq, exists_eq_left', nL, nI_add, nI_mul, nI_clamp, nI_ltI, nI_leI, nI_eq, nI_pos, nI_pos', Nat.reduceAdd, Nat.reduceMul, Nat.reducePow, y1]
              exact K _ _ _ _ _ hR'
            · by_cases y2 : e ≤ pl + 1
              · simp (disch := omega) only [e_66_26, e_66_28, e_66_31, e_66_34, e_66_36, e_66_37, e_66_40, e_66_41, e_66_44, n10, n01, Nat.lt_irrefl, Nat.not_lt_zero, ne_eq, Nat.add_zero, Nat.one_ne_zero, Nat.zero_ne_one, Nat.reduceEqDiff, bI_T, bI_F, bI_0, bI_1, bI_01, not_and_self, true_and, and_true, not_true_eq_false, not_false_eq_true, false_imp_iff, true_imp_iff, imp_self, gPv_n, gPv_i, gPv_r, gPv_0, Option.toList_some, Option.toList_none, List.singleton_append, List.cons_append, List.nil_append, List.length_nil, List.length_cons, Nat.zero_le, Nat.reduceAdd, Nat.reduceLeDiff, or_true, true_or, false_or, or_false, and_self, and_false, false_and, implies_true, Option.some.injEq, exists_eq_left', nL, nI_add, nI_mul, nI_clamp, nI_ltI, nI_leI, nI_eq, nI_pos, nI_pos', Nat.reduceAdd, Nat.reduceMul, Nat.reducePow, y1, y2]
                exact K _ _ _ _ _ hR'
              · simp (disch := omega) only [e_66_26, e_66_28, e_66_31, e_66_34, e_66_36, e_66_37, e_66_40, e_66_41, e_66_44, n10, n01, Nat.lt_irrefl, Nat.not_lt_zero, ne_eq, Nat.add_zero, Nat.one_ne_zero, Nat.zero_ne_one, Nat.reduceEqDiff, bI_T, bI_F, bI_0, bI_1, bI_01, not_and_self, true_and, and_true, not_true_eq_false, not_false_eq_true, false_imp_iff, true_imp_iff, imp_self, gPv_n, gPv_i, gPv_r, gPv_0, Option.toList_some, Option.toList_none, List.singleton_append, List.cons_append, List.nil_append, List.length_nil, List.length_cons, Nat.zero_le, Nat.reduceAdd, Nat.reduceLeDiff, or_true, true_or, false_or, or_false, and_self, and_false, false_and, implies_true, Option.some.injEq, exists_eq_left', nL, nI_add, nI_mul, nI_clamp, nI_ltI, nI_leI, nI_eq, nI_pos, nI_pos', Nat.reduceAdd, Nat.reduceMul, Nat.reducePow, sk_26 hvt', sr_26_0 hvt', sr_26_1 hvt', y1, y2, hb1]
                exact K _ _ _ _ _ hR'
      · have xs : xS X W pl st = zJn 3 pl st := by simp only [xS, k0, Nat.reduceEqDiff, if_false]
        rw [xs] at K
        simp (disch := omega) only [e_66_69, e_66_219, e_66_220, e_66_222, e_66_225, e_66_226, n10, n01, Nat.lt_irrefl, Nat.not_lt_zero, ne_eq, Nat.add_zero, Nat.one_ne_zero, Nat.zero_ne_one, Nat.reduceEqDiff, bI_T, bI_F, bI_0, bI_1, bI_01, not_and_self, true_and, and_true, not_true_eq_false, not_false_eq_true, false_imp_iff, true_imp_iff, imp_self, gPv_n, gPv_i, gPv_r, gPv_0, Option.toList_some, Option.toList_none, List.singleton_append, List.cons_append, List.nil_append, List.length_nil, List.length_cons, Nat.zero_le, Nat.reduceAdd, Nat.reduceLeDiff, or_true, true_or, false_or, or_false, and_self, and_false, false_and, implies_true, Option.some.injEq, exists_eq_left', nL, nI_add, nI_mul, nI_clamp, nI_ltI, nI_leI, nI_eq, nI_pos, nI_pos', Nat.reduceAdd, Nat.reduceMul, Nat.reducePow, ti_0, ti_1, ti_2, ti_3, ti_4, ti_5, ti_6, ti_7, ti_8, ti_9, ti_10, ti_11, ti_12, ti_13, ti_14, ti_15, Int.reduceLT, Int.reduceSub, Int.reduceToNat, Int.sub_zero, Int.toNat_zero, Int.toNat_one, List.getElem?_cons_succ, List.getElem?_cons_zero, Int.lt_irrefl, sk_26 hvt, sr_26_0 hvt, sr_26_1 hvt, nI_div, z40, k0]
        refine rk_join (by omega) (by omega) hv hR ?_
        intro τ' hR'
        simp (disch := omega) only [e_66_229, e_66_232, e_66_235, n10, n01, Nat.lt_irrefl, Nat.not_lt_zero, ne_eq, Nat.add_zero, Nat.one_ne_zero, Nat.zero_ne_one, Nat.reduceEqDiff, bI_T, bI_F, bI_0, bI_1, bI_01, not_and_self, true_and, and_true, not_true_eq_false, not_false_eq_true, false_imp_iff, true_imp_iff, imp_self, gPv_n, gPv_i, gPv_r, gPv_0, Option.toList_some, Option.toList_none, List.singleton_append, List.cons_append, List.nil_append, List.length_nil, List.length_cons, Nat.zero_le, Nat.reduceAdd, Nat.reduceLeDiff, or_true, true_or, false_or, or_false, and_self, and_false, false_and, implies_true, Option.some.injEq, exists_eq_left', nL, nI_add, nI_mul, nI_clamp, nI_ltI, nI_leI, nI_eq, nI_pos, nI_pos', Nat.reduceAdd, Nat.reduceMul, Nat.reducePow]
        match st, K, hR' with
        | [], K, hR' => exact ih _ _ _ _ _ (by omega) hR' K
        | [a], K, hR' => exact ih _ _ _ _ _ (by omega) hR' K
        | b :: a :: t, K, hR' =>
          simp only [zJn] at K hR'
          cases hz : zJoin 3 a b with
          | some v =>
            simp only [hz] at K hR'
            exact ih _ _ _ _ _ (by omega) hR' K
          | none =>
            simp only [hz] at K hR'
            have hvt' : IvS B τ' := fr_IvS hR'.1.1 hR'.1.2.1 hR'.1.2.2.1 hv
            have hb1 := hR'.2
            by_cases y1 : 400 ≤ n + 1
            · simp (disch := omega) only [e_66_26, e_66_28, e_66_31, e_66_34, e_66_36, e_66_37, e_66_40, e_66_41, e_66_44, n10, n01, Nat.lt_irrefl, Nat.not_lt_zero, ne_eq, Nat.add_zero, Nat.one_ne_zero, Nat.zero_ne_one, Nat.reduceEqDiff, bI_T, bI_F, bI_0, bI_1, bI_01, not_and_self, true_and, and_true, not_true_eq_false, not_false_eq_true, false_imp_iff, true_imp_iff, imp_self, gPv_n, gPv_i, gPv_r, gPv_0, Option.toList_some, Option.toList_none, List.singleton_append, List.cons_append, List.nil_append, List.length_nil, List.length_cons, Nat.zero_le, Nat.reduceAdd, Nat.reduceLeDiff, or_true, true_or, false_or, or_false, and_self, and_false, false_and, implies_true, Option.some.injEq, exists_eq_left', nL, nI_add, nI_mul, nI_clamp, nI_ltI, nI_leI, nI_eq, nI_pos, nI_pos', Nat.reduceAdd, Nat.reduceMul, Nat.reducePow, y1]
              exact K _ _ _ _ _ hR'
            · by_cases y2 : e ≤ pl + 1
              · simp (disch := omega) only [e_66_26, e_66_28, e_66_31, e_66_34, e_66_36, e_66_37, e_66_40, e_66_41, e_66_44, n10, n01, Nat.lt_irrefl, Nat.not_lt_zero, ne_eq, Nat.add_zero, Nat.one_ne_zero, Nat.zero_ne_one, Nat.reduceEqDiff, bI_T, bI_F, bI_0, bI_1, bI_01, not_and_self, true_and, and_true, not_true_eq_false, not_false_eq_true, false_imp_iff, true_imp_iff, imp_self, gPv_n, gPv_i, gPv_r, gPv_0, Option.toList_some, Option.toList_none, List.singleton_append, List.cons_append, List.nil_append, List.length_nil, List.length_cons, Nat.zero_le, Nat.reduceAdd, Nat.reduceLeDiff, or_true, true_or, false_or, or_false, and_self, and_false, false_and, implies_true, Option.some.injEq, exists_eq_left', nL, nI_add, nI_mul, nI_clamp, nI_ltI, nI_leI, nI_eq, nI_pos, nI_pos', Nat.reduceAdd, Nat.reduceMul, Nat.reducePow, y1, y2]
                exact K _ _ _ _ _ hR'
              · simp (disch := omega) only [e_66_26, e_66_28, e_66_31, e_66_34, e_66_36, e_66_37, e_66_40, e_66_41, e_66_44, n10, n01, Nat.lt_irrefl, Nat.not_lt_zero, ne_eq, Nat.add_zero, Nat.one_ne_zero, Nat.zero_ne_one, Nat.reduceEqDiff, bI_T, bI_F, bI_0, bI_1, bI_01, not_and_self, true_and, and_true, not_true_eq_false, not_false_eq_true, false_imp_iff, true_imp_iff, imp_self, gPv_n, gPv_i, gPv_r, gPv_0, Option.toList_some, Option.toList_none, List.singleton_append, List.cons_append, List.nil_append, List.length_nil, List.length_cons, Nat.zero_le, Nat.reduceAdd, Nat.reduceLeDiff, or_true, true_or, false_or, or_false, and_self, and_false, false_and, implies_true, Option.some.injEq, exists_eq_left', nL, nI_add, nI_mul, nI_clamp, nI_ltI, nI_leI, nI_eq, nI_pos, nI_pos', Nat.reduceAdd, Nat.reduceMul, Nat.reducePow, sk_26 hvt', sr_26_0 hvt', sr_26_1 hvt', y1, y2, hb1]
                exact K _ _ _ _ _ hR'
      · have xs : xS X W pl st = zJn 4 pl st := by simp only [xS, k0, Nat.reduceEqDiff, if_false]
        rw [xs] at K
        simp (disch := omega) only [e_66_69, e_66_219, e_66_220, e_66_222, e_66_225, e_66_226, n10, n01, Nat.lt_irrefl, Nat.not_lt_zero, ne_eq, Nat.add_zero, Nat.one_ne_zero, Nat.zero_ne_one, Nat.reduceEqDiff, bI_T, bI_F, bI_0, bI_1, bI_01, not_and_self, true_and, and_true, not_true_eq_false, not_false_eq_true, false_imp_iff, true_imp_iff, imp_self, gPv_n, gPv_i, gPv_r, gPv_0, Option.toList_some, Option.toList_none, List.singleton_append, List.cons_append, List.nil_append, List.length_nil, List.length_cons, Nat.zero_le, Nat.reduceAdd, Nat.reduceLeDiff, or_true, true_or, false_or, or_false, and_self, and_false, false_and, implies_true, Option.some.injEq, exists_eq_left', nL, nI_add, nI_mul, nI_clamp, nI_ltI, nI_leI, nI_eq, nI_pos, nI_pos', Nat.reduceAdd, Nat.reduceMul, Nat.reducePow, ti_0, ti_1, ti_2, ti_3, ti_4, ti_5, ti_6, ti_7, ti_8, ti_9, ti_10, ti_11, ti_12, ti_13, ti_14, ti_15, Int.reduceLT, Int.reduceSub, Int.reduceToNat, Int.sub_zero, Int.toNat_zero, Int.toNat_one, List.getElem?_cons_succ, List.getElem?_cons_zero, Int.lt_irrefl, sk_26 hvt, sr_26_0 hvt, sr_26_1 hvt, nI_div, z40, k0]
        refine rk_join (by omega) (by omega) hv hR ?_
        intro τ' hR'
        simp (disch := omega) only [e_66_229, e_66_232, e_66_235, n10, n01, Nat.lt_irrefl, Nat.not_lt_zero, ne_eq, Nat.add_zero, Nat.one_ne_zero, Nat.zero_ne_one, Nat.reduceEqDiff, bI_T, bI_F, bI_0, bI_1, bI_01, not_and_self, true_and, and_true, not_true_eq_false, not_false_eq_true, false_imp_iff, true_imp_iff, imp_self, gPv_n, gPv_i, gPv_r, gPv_0, Option.toList_some, Option.toList_none, List.singleton_append, List.cons_append, List.nil_append, List.length_nil, List.length_cons, Nat.zero_le, Nat.reduceAdd, Nat.reduceLeDiff, or_true, true_or, false_or, or_false, and_self, and_false, false_and, implies_true, Option.some.injEq, exists_eq_left', nL, nI_add, nI_mul, nI_clamp, nI_ltI, nI_leI, nI_eq, nI_pos, nI_pos', Nat.reduceAdd, Nat.reduceMul, Nat.reducePow]
        match st, K, hR' with
        | [], K, hR' => exact ih _ _ _ _ _ (by omega) hR' K
        | [a], K, hR' => exact ih _ _ _ _ _ (by omega) hR' K
        | b :: a :: t, K, hR' =>
          simp only [zJn] at K hR'
          cases hz : zJoin 4 a b with
          | some v =>
            simp only [hz] at K hR'
            exact ih _ _ _ _ _ (by omega) hR' K
          | none =>
            simp only [hz] at K hR'
            have hvt' : IvS B τ' := fr_IvS hR'.1.1 hR'.1.2.1 hR'.1.2.2.1 hv
            have hb1 := hR'.2
            by_cases y1 : 400 ≤ n + 1
            · simp (disch := omega) only [e_66_26, e_66_28, e_66_31, e_66_34, e_66_36, e_66_37, e_66_40, e_66_41, e_66_44, n10, n01, Nat.lt_irrefl, Nat.not_lt_zero, ne_eq, Nat.add_zero, Nat.one_ne_zero, Nat.zero_ne_one, Nat.reduceEqDiff, bI_T, bI_F, bI_0, bI_1, bI_01, not_and_self, true_and, and_true, not_true_eq_false, not_false_eq_true, false_imp_iff, true_imp_iff, imp_self, gPv_n, gPv_i, gPv_r, gPv_0, Option.toList_some, Option.toList_none, List.singleton_append, List.cons_append, List.nil_append, List.length_nil, List.length_cons, Nat.zero_le, Nat.reduceAdd, Nat.reduceLeDiff, or_true, true_or, false_or, or_false, and_self, and_false, false_and, implies_true, Option.some.injEq, exists_eq_left', nL, nI_add, nI_mul, nI_clamp, nI_ltI, nI_leI, nI_eq, nI_pos, nI_pos', Nat.reduceAdd, Nat.reduceMul, Nat.reducePow, y1]
              exact K _ _ _ _ _ hR'
            · by_cases y2 : e ≤ pl + 1
              · simp (disch := omega) only [e_66_26, e_66_28, e_66_31, e_66_34, e_66_36, e_66_37, e_66_40, e_66_41, e_66_44, n10, n01, Nat.lt_irrefl, Nat.not_lt_zero, ne_eq, Nat.add_zero, Nat.one_ne_zero, Nat.zero_ne_one, Nat.reduceEqDiff, bI_T, bI_F, bI_0, bI_1, bI_01, not_and_self, true_and, and_true, not_true_eq_false, not_false_eq_true, false_imp_iff, true_imp_iff, imp_self, gPv_n, gPv_i, gPv_r, gPv_0, Option.toList_some, Option.toList_none, List.singleton_append, List.cons_append, List.nil_append, List.length_nil, List.length_cons, Nat.zero_le, Nat.reduceAdd, Nat.reduceLeDiff, or_true, true_or, false_or, or_false, and_self, and_false, false_and, implies_true, Option.some.injEq, exists_eq_left', nL, nI_add, nI_mul, nI_clamp, nI_ltI, nI_leI, nI_eq, nI_pos, nI_pos', Nat.reduceAdd, Nat.reduceMul, Nat.reducePow, y1, y2]
                exact K _ _ _ _ _ hR'
              · simp (disch := omega) only [e_66_26, e_66_28, e_66_31, e_66_34, e_66_36, e_66_37, e_66_40, e_66_41, e_66_44, n10, n01, Nat.lt_irrefl, Nat.not_lt_zero, ne_eq, Nat.add_zero, Nat.one_ne_zero, Nat.zero_ne_one, Nat.reduceEqDiff, bI_T, bI_F, bI_0, bI_1, bI_01, not_and_self, true_and, and_true, not_true_eq_false, not_false_eq_true, false_imp_iff, true_imp_iff, imp_self, gPv_n, gPv_i, gPv_r, gPv_0, Option.toList_some, Option.toList_none, List.singleton_append, List.cons_append, List.nil_append, List.length_nil, List.length_cons, Nat.zero_le, Nat.reduceAdd, Nat.reduceLeDiff, or_true, true_or, false_or, or_false, and_self, and_false, false_and, implies_true, Option.some.injEq, exists_eq_left', nL, nI_add, nI_mul, nI_clamp, nI_ltI, nI_leI, nI_eq, nI_pos, nI_pos', Nat.reduceAdd, Nat.reduceMul, Nat.reducePow, sk_26 hvt', sr_26_0 hvt', sr_26_1 hvt', y1, y2, hb1]
                exact K _ _ _ _ _ hR'
      · have xs : xS X W pl st = zJn 5 pl st := by simp only [xS, k0, Nat.reduceEqDiff, if_false]
        rw [xs] at K
        simp (disch := omega) only [e_66_69, e_66_219, e_66_220, e_66_222, e_66_225, e_66_226, n10, n01, Nat.lt_irrefl, Nat.not_lt_zero, ne_eq, Nat.add_zero, Nat.one_ne_zero, Nat.zero_ne_one, Nat.reduceEqDiff, bI_T, bI_F, bI_0, bI_1, bI_01, not_and_self, true_and, and_true, not_true_eq_false, not_false_eq_true, false_imp_iff, true_imp_iff, imp_self, gPv_n, gPv_i, gPv_r, gPv_0, Option.toList_some, Option.toList_none, List.singleton_append, List.cons_append, List.nil_append, List.length_nil, List.length_cons, Nat.zero_le, Nat.reduceAdd, Nat.reduceLeDiff, or_true, true_or, false_or, or_false, and_self, and_false, false_and, implies_true, Option.some.injEq, exists_eq_left', nL, nI_add, nI_mul, nI_clamp, nI_ltI, nI_leI, nI_eq, nI_pos, nI_pos', Nat.reduceAdd, Nat.reduceMul, Nat.reducePow, ti_0, ti_1, ti_2, ti_3, ti_4, ti_5, ti_6, ti_7, ti_8, ti_9, ti_10, ti_11, ti_12, ti_13, ti_14, ti_15, Int.reduceLT, Int.reduceSub, Int.reduceToNat, Int.sub_zero, Int.toNat_zero, Int.toNat_one, List.getElem?_cons_succ, List.getElem?_cons_zero, Int.lt_irrefl, sk_26 hvt, sr_26_0 hvt, sr_26_1 hvt, nI_div, z40, k0]
        refine rk_join (by omega) (by omega) hv hR ?_
        intro τ' hR'
        simp (disch := omega) only [e_66_229, e_66_232, e_66_235, n10, n01, Nat.lt_irrefl, Nat.not_lt_zero, ne_eq, Nat.add_zero, Nat.one_ne_zero, Nat.zero_ne_one, Nat.reduceEqDiff, bI_T, bI_F, bI_0, bI_1, bI_01, not_and_self, true_and, and_true, not_true_eq_false, not_false_eq_true, false_imp_iff, true_imp_iff, imp_self, gPv_n, gPv_i, gPv_r, gPv_0, Option.toList_some, Option.toList_none, List.singleton_append, List.cons_append, List.nil_append, List.length_nil, List.length_cons, Nat.zero_le, Nat.reduceAdd, Nat.reduceLeDiff, or_true, true_or, false_or, or_false, and_self, and_false, false_and, implies_true, Option.some.injEq, exists_eq_left', nL, nI_add, nI_mul, nI_clamp, nI_ltI, nI_leI, nI_eq, nI_pos, nI_pos', Nat.reduceAdd, Nat.reduceMul, Nat.reducePow]
        match st, K, hR' with
        | [], K, hR' => exact ih _ _ _ _ _ (by omega) hR' K
        | [a], K, hR' => exact ih _ _ _ _ _ (by omega) hR' K
        | b :: a :: t, K, hR' =>
          simp only [zJn] at K hR'
          cases hz : zJoin 5 a b with
          | some v =>
            simp only [hz] at K hR'
            exact ih _ _ _ _ _ (by omega) hR' K
          | none =>
            simp only [hz] at K hR'
            have hvt' : IvS B τ' := fr_IvS hR'.1.1 hR'.1.2.1 hR'.1.2.2.1 hv
            have hb1 := hR'.2
            by_cases y1 : 400 ≤ n + 1
            · simp (disch := omega) only [e_66_26, e_66_28, e_66_31, e_66_34, e_66_36, e_66_37, e_66_40, e_66_41, e_66_44, n10, n01, Nat.lt_irrefl, Nat.not_lt_zero, ne_eq, Nat.add_zero, Nat.one_ne_zero, Nat.zero_ne_one, Nat.reduceEqDiff, bI_T, bI_F, bI_0, bI_1, bI_01, not_and_self, true_and, and_true, not_true_eq_false, not_false_eq_true, false_imp_iff, true_imp_iff, imp_self, gPv_n, gPv_i, gPv_r, gPv_0, Option.toList_some, Option.toList_none, List.singleton_append, List.cons_append, List.nil_append, List.length_nil, List.length_cons, Nat.zero_le, Nat.reduceAdd, Nat.reduceLeDiff, or_true, true_or, false_or, or_false, and_self, and_false, false_and, implies_true, Option.some.injEq, exists_eq_left', nL, nI_add, nI_mul, nI_clamp, nI_ltI, nI_leI, nI_eq, nI_pos, nI_pos', Nat.reduceAdd, Nat.reduceMul, Nat.reducePow, y1]
              exact K _ _ _ _ _ hR'
            · by_cases y2 : e ≤ pl + 1
              · simp (disch := omega) only [e_66_26, e_66_28, e_66_31, e_66_34, e_66_36, e_66_37, e_66_40, e_66_41, e_66_44, n10, n01, Nat.lt_irrefl, Nat.not_lt_zero, ne_eq, Nat.add_zero, Nat.one_ne_zero, Nat.zero_ne_one, Nat.reduceEqDiff, bI_T, bI_F, bI_0, bI_1, bI_01, not_and_self, true_and, and_true, not_true_eq_false, not_false_eq_true, false_imp_iff, true_imp_iff, imp_self, gPv_n, gPv_i, gPv_r, gPv_0, Option.toList_some, Option.toList_none, List.singleton_append, List.cons_append, List.nil_append, List.length_nil, List.length_cons, Nat.zero_le, Nat.reduceAdd, Nat.reduceLeDiff, or_true, true_or, false_or, or_false, and_self, and_false, false_and, implies_true, Option.some.injEq, exists_eq_left', nL, nI_add, nI_mul, nI_clamp, nI_ltI, nI_leI, nI_eq, nI_pos, nI_pos', Nat.reduceAdd, Nat.reduceMul, Nat.reducePow, y1, y2]
                exact K _ _ _ _ _ hR'
              · simp (disch := omega) only [e_66_26, e_66_28, e_66_31, e_66_34, e_66_36, e_66_37, e_66_40, e_66_41, e_66_44, n10, n01, Nat.lt_irrefl, Nat.not_lt_zero, ne_eq, Nat.add_zero, Nat.one_ne_zero, Nat.zero_ne_one, Nat.reduceEqDiff, bI_T, bI_F, bI_0, bI_1, bI_01, not_and_self, true_and, and_true, not_true_eq_false, not_false_eq_true, false_imp_iff, true_imp_iff, imp_self, gPv_n, gPv_i, gPv_r, gPv_0, Option.toList_some, Option.toList_none, List.singleton_append, List.cons_append, List.nil_append, List.length_nil, List.length_cons, Nat.zero_le, Nat.reduceAdd, Nat.reduceLeDiff, or_true, true_or, false_or, or_false, and_self, and_false, false_and, implies_true, Option.some.injEq, exists_eq_left', nL, nI_add, nI_mul, nI_clamp, nI_ltI, nI_leI, nI_eq, nI_pos, nI_pos', Nat.reduceAdd, Nat.reduceMul, Nat.reducePow, sk_26 hvt', sr_26_0 hvt', sr_26_1 hvt', y1, y2, hb1]
                exact K _ _ _ _ _ hR'
      · have xs : xS X W pl st = zJn 6 pl st := by simp only [xS, k0, Nat.reduceEqDiff, if_false]
        rw [xs] at K
        simp (disch := omega) only [e_66_69, e_66_219, e_66_220, e_66_222, e_66_225, e_66_226, n10, n01, Nat.lt_irrefl, Nat.not_lt_zero, ne_eq, Nat.add_zero, Nat.one_ne_zero, Nat.zero_ne_one, Nat.reduceEqDiff, bI_T, bI_F, bI_0, bI_1, bI_01, not_and_self, true_and, and_true, not_true_eq_false, not_false_eq_true, false_imp_iff, true_imp_iff, imp_self, gPv_n, gPv_i, gPv_r, gPv_0, Option.toList_some, Option.toList_none, List.singleton_append, List.cons_append, List.nil_append, List.length_nil, List.length_cons, Nat.zero_le, Nat.reduceAdd, Nat.reduceLeDiff, or_true, true_or, false_or, or_false, and_self, and_false, false_and, implies_true, Option.some.injEq, exists_eq_left', nL, nI_add, nI_mul, nI_clamp, nI_ltI, nI_leI, nI_eq, nI_pos, nI_pos', Nat.reduceAdd, Nat.reduceMul, Nat.reducePow, ti_0, ti_1, ti_2, ti_3, ti_4, ti_5, ti_6, ti_7, ti_8, ti_9, ti_10, ti_11, ti_12, ti_13, ti_14, ti_15, Int.reduceLT, Int.reduceSub, Int.reduceToNat, Int.sub_zero, Int.toNat_zero, Int.toNat_one, List.getElem?_cons_succ, List.getElem?_cons_zero, Int.lt_irrefl, sk_26 hvt, sr_26_0 hvt, sr_26_1 hvt, nI_div, z40, k0]
        refine rk_join (by omega) (by omega) hv hR ?_
        intro τ' hR'
        simp (disch := omega) only [e_66_229, e_66_232, e_66_235, n10, n01, Nat.lt_irrefl, Nat.not_lt_zero, ne_eq, Nat.add_zero, Nat.one_ne_zero, Nat.zero_ne_one, Nat.reduceEqDiff, bI_T, bI_F, bI_0, bI_1, bI_01, not_and_self, true_and, and_true, not_true_eq_false, not_false_eq_true, false_imp_iff, true_imp_iff, imp_self, gPv_n, gPv_i, gPv_r, gPv_0, Option.toList_some, Option.toList_none, List.singleton_append, List.cons_append, List.nil_append, List.length_nil, List.length_cons, Nat.zero_le, Nat.reduceAdd, Nat.reduceLeDiff, or_true, true_or, false_or, or_false, and_self, and_false, false_and, implies_true, Option.some.injEq, exists_eq_left', nL, nI_add, nI_mul, nI_clamp, nI_ltI, nI_leI, nI_eq, nI_pos, nI_pos', Nat.reduceAdd, Nat.reduceMul, Nat.reducePow]
        match st, K, hR' with
        | [], K, hR' => exact ih _ _ _ _ _ (by omega) hR' K
        | [a], K, hR' => exact ih _ _ _ _ _ (by omega) hR' K
        | b :: a :: t, K, hR' =>
          simp only [zJn] at K hR'
          cases hz : zJoin 6 a b with
          | some v =>
            simp only [hz] at K hR'
            exact ih _ _ _ _ _ (by omega) hR' K
          | none =>
            simp only [hz] at K hR'
            have hvt' : IvS B τ' := fr_IvS hR'.1.1 hR'.1.2.1 hR'.1.2.2.1 hv
            have hb1 := hR'.2
            by_cases y1 : 400 ≤ n + 1
            · simp (disch := omega) only [e_66_26, e_66_28, e_66_31, e_66_34, e_66_36, e_66_37, e_66_40, e_66_41, e_66_44, n10, n01, Nat.lt_irrefl, Nat.not_lt_zero, ne_eq, Nat.add_zero, Nat.one_ne_zero, Nat.zero_ne_one, Nat.reduceEqDiff, bI_T, bI_F, bI_0, bI_1, bI_01, not_and_self, true_and, and_true, not_true_eq_false, not_false_eq_true, false_imp_iff, true_imp_iff, imp_self, gPv_n, gPv_i, gPv_r, gPv_0, Option.toList_some, Option.toList_none, List.singleton_append, List.cons_append, List.nil_append, List.length_nil, List.length_cons, Nat.zero_le, Nat.reduceAdd, Nat.reduceLeDiff, or_true, true_or, false_or, or_false, and_self, and_false, false_and, implies_true, Option.some.injEq, exists_eq_left', nL, nI_add, nI_mul, nI_clamp, nI_ltI, nI_leI, nI_eq, nI_pos, nI_pos', Nat.reduceAdd, Nat.reduceMul, Nat.reducePow, y1]
              exact K _ _ _ _ _ hR'
            · by_cases y2 : e ≤ pl + 1
              · simp (disch := omega) only [e_66_26, e_66_28, e_66_31, e_66_34, e_66_36, e_66_37, e_66_40, e_66_41, e_66_44, n10, n01, Nat.lt_irrefl, Nat.not_lt_zero, ne_eq, Nat.add_zero, Nat.one_ne_zero, Nat.zero_ne_one, Nat.reduceEqDiff, bI_T, bI_F, bI_0, bI_1, bI_01, not_and_self, true_and, and_true, not_true_eq_false, not_false_eq_true, false_imp_iff, true_imp_iff, imp_self, gPv_n, gPv_i, gPv_r, gPv_0, Option.toList_some, Option.toList_none, List.singleton_append, List.cons_append, List.nil_append, List.length_nil, List.length_cons, Nat.zero_le, Nat.reduceAdd, Nat.reduceLeDiff, or_true, true_or, false_or, or_false, and_self, and_false, false_and, implies_true, Option.some.injEq, exists_eq_left', nL, nI_add, nI_mul, nI_clamp, nI_ltI, nI_leI, nI_eq, nI_pos, nI_pos', Nat.reduceAdd, Nat.reduceMul, Nat.reducePow, y1, y2]
                exact K _ _ _ _ _ hR'
              · simp (disch := omega) only [e_66_26, e_66_28, e_66_31, e_66_34, e_66_36, e_66_37, e_66_40, e_66_41, e_66_44, n10, n01, Nat.lt_irrefl, Nat.not_lt_zero, ne_eq, Nat.add_zero, Nat.one_ne_zero, Nat.zero_ne_one, Nat.reduceEqDiff, bI_T, bI_F, bI_0, bI_1, bI_01, not_and_self, true_and, and_true, not_true_eq_false, not_false_eq_true, false_imp_iff, true_imp_iff, imp_self, gPv_n, gPv_i, gPv_r, gPv_0, Option.toList_some, Option.toList_none, List.singleton_append, List.cons_append, List.nil_append, List.length_nil, List.length_cons, Nat.zero_le, Nat.reduceAdd, Nat.reduceLeDiff, or_true, true_or, false_or, or_false, and_self, and_false, false_and, implies_true, Option.some.injEq, exists_eq_left', nL, nI_add, nI_mul, nI_clamp, nI_ltI, nI_leI, nI_eq, nI_pos, nI_pos', Nat.reduceAdd, Nat.reduceMul, Nat.reducePow, sk_26 hvt', sr_26_0 hvt', sr_26_1 hvt', y1, y2, hb1]
                exact K _ _ _ _ _ hR'
      · have xs : xS X W pl st = zJn 7 pl st := by simp only [xS, k0, Nat.reduceEqDiff, if_false]
        rw [xs] at K
        simp (disch := omega) only [e_66_69, e_66_219, e_66_220, e_66_222, e_66_225, e_66_226, n10, n01, Nat.lt_irrefl, Nat.not_lt_zero, ne_eq, Nat.add_zero, Nat.one_ne_zero, Nat.zero_ne_one, Nat.reduceEqDiff, bI_T, bI_F, bI_0, bI_1, bI_01, not_and_self, true_and, and_true, not_true_eq_false, not_false_eq_true, false_imp_iff, true_imp_iff, imp_self, gPv_n, gPv_i, gPv_r, gPv_0, Option.toList_some, Option.toList_none, List.singleton_append, List.cons_append, List.nil_append, List.length_nil, List.length_cons, Nat.zero_le, Nat.reduceAdd, Nat.reduceLeDiff, or_true, true_or, false_or, or_false, and_self, and_false, false_and, implies_true, Option.some.injEq, exists_eq_left', nL, nI_add, nI_mul, nI_clamp, nI_ltI, nI_leI, nI_eq, nI_pos, nI_pos', Nat.reduceAdd, Nat.reduceMul, Nat.reducePow, ti_0, ti_1, ti_2, ti_3, ti_4, ti_5, ti_6, ti_7, ti_8, ti_9, ti_10, ti_11, ti_12, ti_13, ti_14, ti_15, Int.reduceLT, Int.reduceSub, Int.reduceToNat, Int.sub_zero, Int.toNat_zero, Int.toNat_one, List.getElem?_cons_succ, List.getElem?_cons_zero, Int.lt_irrefl, sk_26 hvt, sr_26_0 hvt, sr_26_1 hvt, nI_div, z40, k0]
        refine rk_join (by omega) (by omega) hv hR ?_
        intro τ' hR'
        simp (disch := omega) only [e_66_229, e_66_232, e_66_235, n10, n01, Nat.lt_irrefl, Nat.not_lt_zero, ne_eq, Nat.add_zero, Nat.one_ne_zero, Nat.zero_ne_one, Nat.reduceEqDiff, bI_T, bI_F, bI_0, bI_1, bI_01, not_and_self, true_and, and_true, not_true_eq_false, not_false_eq_true, false_imp_iff, true_imp_iff, imp_self, gPv_n, gPv_i, gPv_r, gPv_0, Option.toList_some, Option.toList_none, List.singleton_append, List.cons_append, List.nil_append, List.length_nil, List.length_cons, Nat.zero_le, Nat.reduceAdd, Nat.reduceLeDiff, or_true, true_or, false_or, or_false, and_self, and_false, false_and, implies_true, Option.some.injEq, exists_eq_left', nL, nI_add, nI_mul, nI_clamp, nI_ltI, nI_leI, nI_eq, nI_pos, nI_pos', Nat.reduceAdd, Nat.reduceMul, Nat.reducePow]
        match st, K, hR' with
        | [], K, hR' => exact ih _ _ _ _ _ (by omega) hR' K
        | [a], K, hR' => exact ih _ _ _ _ _ (by omega) hR' K
        | b :: a :: t, K, hR' =>
          simp only [zJn] at K hR'
          cases hz : zJoin 7 a b with
          | some v =>
            simp only [hz] at K hR'
            exact ih _ _ _ _ _ (by omega) hR' K
          | none =>
            simp only [hz] at K hR'
            have hvt' : IvS B τ' := fr_IvS hR'.1.1 hR'.1.2.1 hR'.1.2.2.1 hv
            have hb1 := hR'.2
            by_cases y1 : 400 ≤ n + 1
            · simp (disch := omega) only [e_66_26, e_66_28, e_66_31, e_66_34, e_66_36, e_66_37, e_66_40, e_66_41, e_66_44, n10, n01, Nat.lt_irrefl, Nat.not_lt_zero, ne_eq, Nat.add_zero, Nat.one_ne_zero, Nat.zero_ne_one, Nat.reduceEqDiff, bI_T, bI_F, bI_0, bI_1, bI_01, not_and_self, true_and, and_true, not_true_eq_false, not_false_eq_true, false_imp_iff, true_imp_iff, imp_self, gPv_n, gPv_i, gPv_r, gPv_0, Option.toList_some, Option.toList_none, List.singleton_append, List.cons_append, List.nil_append, List.length_nil, List.length_cons, Nat.zero_le, Nat.reduceAdd, Nat.reduceLeDiff, or_true, true_or, false_or, or_false, and_self, and_false, false_and, implies_true, Option.some.injEq, exists_eq_left', nL, nI_add, nI_mul, nI_clamp, nI_ltI, nI_leI, nI_eq, nI_pos, nI_pos', Nat.reduceAdd, Nat.reduceMul, Nat.reducePow, y1]
              exact K _ _ _ _ _ hR'
            · by_cases y2 : e ≤ pl + 1
              · simp (disch := omega) only [e_66_26, e_66_28, e_66_31, e_66_34, e_66_36, e_66_37, e_66_40, e_66_41, e_66_44, n10, n01, Nat.lt_irrefl, Nat.not_lt_zero, ne_eq, Nat.add_zero, Nat.one_ne_zero, Nat.zero_ne_one, Nat.reduceEqDiff, bI_T, bI_F, bI_0, bI_1, bI_01, not_and_self, true_and, and_true, not_true_eq_false, not_false_eq_true, false_imp_iff, true_imp_iff, imp_self, gPv_n, gPv_i, gPv_r, gPv_0, Option.toList_some, Option.toList_none, List.singleton_append, List.cons_append, List.nil_append, List.length_nil, List.length_cons, Nat.zero_le, Nat.reduceAdd, Nat.reduceLeDiff, or_true, true_or, false_or, or_false, and_self, and_false, false_and, implies_true, Option.some.injEq, exists_eq_left', nL, nI_add, nI_mul, nI_clamp, nI_ltI, nI_leI, nI_eq, nI_pos, nI_pos', Nat.reduceAdd, Nat.reduceMul, Nat.reducePow, y1, y2]
                exact K _ _ _ _ _ hR'
              · simp (disch := omega) only [e_66_26, e_66_28, e_66_31, e_66_34, e_66_36, e_66_37, e_66_40, e_66_41, e_66_44, n10, n01, Nat.lt_irrefl, Nat.not_lt_zero, ne_eq, Nat.add_zero, Nat.one_ne_zero, Nat.zero_ne_one, Nat.reduceEqDiff, bI_T, bI_F, bI_0, bI_1, bI_01, not_and_self, true_and, and_true, not_true_eq_false, not_false_eq_true, false_imp_iff, true_imp_iff, imp_self, gPv_n, gPv_i, gPv_r, gPv_0, Option.toList_some, Option.toList_none, List.singleton_append, List.cons_append, List.nil_append, List.length_nil, List.length_cons, Nat.zero_le, Nat.reduceAdd, Nat.reduceLeDiff, or_true, true_or, false_or, or_false, and_self, and_false, false_and, implies_true, Option.some.injEq, exists_eq_left', nL, nI_add, nI_mul, nI_clamp, nI_ltI, nI_leI, nI_eq, nI_pos, nI_pos', Nat.reduceAdd, Nat.reduceMul, Nat.reducePow, sk_26 hvt', sr_26_0 hvt', sr_26_1 hvt', y1, y2, hb1]
                exact K _ _ _ _ _ hR'
      · have xs : xS X W pl st = zJn 8 pl st := by simp only [xS, k0, Nat.reduceEqDiff, if_false]
        rw [xs] at K
        simp (disch := omega) only [e_66_69, e_66_219, e_66_220, e_66_222, e_66_225, e_66_226, n10, n01, Nat.lt_irrefl, Nat.not_lt_zero, ne_eq, Nat.add_zero, Nat.one_ne_zero, Nat.zero_ne_one, Nat.reduceEqDiff, bI_T, bI_F, bI_0, bI_1, bI_01, not_and_self, true_and, and_true, not_true_eq_false, not_false_eq_true, false_imp_iff, true_imp_iff, imp_self, gPv_n, gPv_i, gPv_r, gPv_0, Option.toList_some, Option.toList_none, List.singleton_append, List.cons_append, List.nil_append, List.length_nil, List.length_cons, Nat.zero_le, Nat.reduceAdd, Nat.reduceLeDiff, or_true, true_or, false_or, or_false, and_self, and_false, false_and, implies_true, Option.some.injEq, exists_eq_left', nL, nI_add, nI_mul, nI_clamp, nI_ltI, nI_leI, nI_eq, nI_pos, nI_pos', Nat.reduceAdd, Nat.reduceMul, Nat.reducePow, ti_0, ti_1, ti_2, ti_3, ti_4, ti_5, ti_6, ti_7, ti_8, ti_9, ti_10, ti_11, ti_12, ti_13, ti_14, ti_15, Int.reduceLT, Int.reduceSub, Int.reduceToNat, Int.sub_zero, Int.toNat_zero, Int.toNat_one, List.getElem?_cons_succ, List.getElem?_cons_zero, Int.lt_irrefl, sk_26 hvt, sr_26_0 hvt, sr_26_1 hvt, nI_div, z40, k0]
        refine rk_join (by omega) (by omega) hv hR ?_
        intro τ' hR'
        simp (disch := omega) only [e_66_229, e_66_232, e_66_235, n10, n01, Nat.lt_irrefl, Nat.not_lt_zero, ne_eq, Nat.add_zero, Nat.one_ne_zero, Nat.zero_ne_one, Nat.reduceEqDiff, bI_T, bI_F, bI_0, bI_1, bI_01, not_and_self, true_and, and_true, not_true_eq_false, not_false_eq_true, false_imp_iff, true_imp_iff, imp_self, gPv_n, gPv_i, gPv_r, gPv_0, Option.toList_some, Option.toList_none, List.singleton_append, List.cons_append, List.nil_append, List.length_nil, List.length_cons, Nat.zero_le, Nat.reduceAdd, Nat.reduceLeDiff, or_true, true_or, false_or, or_false, and_self, and_false, false_and, implies_true, Option.some.injEq, exists_eq_left', nL, nI_add, nI_mul, nI_clamp, nI_ltI, nI_leI, nI_eq, nI_pos, nI_pos', Nat.reduceAdd, Nat.reduceMul, Nat.reducePow]
        match st, K, hR' with
        | [], K, hR' => exact ih _ _ _ _ _ (by omega) hR' K
        | [a], K, hR' => exact ih _ _ _ _ _ (by omega) hR' K
        | b :: a :: t, K, hR' =>
          simp only [zJn] at K hR'
          cases hz : zJoin 8 a b with
          | some v =>
            simp only [hz] at K hR'
            exact ih _ _ _ _ _ (by omega) hR' K
          | none =>
            simp only [hz] at K hR'
            have hvt' : IvS B τ' := fr_IvS hR'.1.1 hR'.1.2.1 hR'.1.2.2.1 hv
            have hb1 := hR'.2
            by_cases y1 : 400 ≤ n + 1
            · simp (disch := omega) only [e_66_26, e_66_28, e_66_31, e_66_34, e_66_36, e_66_37, e_66_40, e_66_41, e_66_44, n10, n01, Nat.lt_irrefl, Nat.not_lt_zero, ne_eq, Nat.add_zero, Nat.one_ne_zero, Nat.zero_ne_one, Nat.reduceEqDiff, bI_T, bI_F, bI_0, bI_1, bI_01, not_and_self, true_and, and_true, not_true_eq_false, not_false_eq_true, false_imp_iff, true_imp_iff, imp_self, gPv_n, gPv_i, gPv_r, gPv_0, Option.toList_some, Option.toList_none, List.singleton_append, List.cons_append, List.nil_append, List.length_nil, List.length_cons, Nat.zero_le, Nat.reduceAdd, Nat.reduceLeDiff, or_true, true_or, false_or, or_false, and_self, and_false, false_and, implies_true, Option.some.injEq, exists_eq_left', nL, nI_add, nI_mul, nI_clamp, nI_ltI, nI_leI, nI_eq, nI_pos, nI_pos', Nat.reduceAdd, Nat.reduceMul, Nat.reducePow, y1]
              exact K _ _ _ _ _ hR'
            · by_cases y2 : e ≤ pl + 1
              · simp (disch := omega) only [e_66_26, e_66_28, e_66_31, e_66_34, e_66_36, e_66_37, e_66_40, e_66_41, e_66_44, n10, n01, Nat.lt_irrefl, Nat.not_lt_zero, ne_eq, Nat.add_zero, Nat.one_ne_zero, Nat.zero_ne_one, Nat.reduceEqDiff, bI_T, bI_F, bI_0, bI_1, bI_01, not_and_self, true_and, and_true, not_true_eq_false, not_false_eq_true, false_imp_iff, true_imp_iff, imp_self, gPv_n, gPv_i, gPv_r, gPv_0, Option.toList_some, Option.toList_none, List.singleton_append, List.cons_append, List.nil_append, List.length_nil, List.length_cons, Nat.zero_le, Nat.reduceAdd, Nat.reduceLeDiff, or_true, true_or, false_or, or_false, and_self, and_false, false_and, implies_true, Option.some.injEq, exists_eq_left', nL, nI_add, nI_mul, nI_clamp, nI_ltI, nI_leI, nI_eq, nI_pos, nI_pos', Nat.reduceAdd, Nat.reduceMul, Nat.reducePow, y1, y2]
                exact K _ _ _ _ _ hR'
              · simp (disch := omega) only [e_66_26, e_66_28, e_66_31, e_66_34, e_66_36, e_66_37, e_66_40, e_66_41, e_66_44, n10, n01, Nat.lt_irrefl, Nat.not_lt_zero, ne_eq, Nat.add_zero, Nat.one_ne_zero, Nat.zero_ne_one, Nat.reduceEqDiff, bI_T, bI_F, bI_0, bI_1, bI_01, not_and_self, true_and, and_true, not_true_eq_false, not_false_eq_true, false_imp_iff, true_imp_iff, imp_self, gPv_n, gPv_i, gPv_r, gPv_0, Option.toList_some, Option.toList_none, List.singleton_append, List.cons_append, List.nil_append, List.length_nil, List.length_cons, Nat.zero_le, Nat.reduceAdd, Nat.reduceLeDiff, or_true, true_or, false_or, or_false, and_self, and_false, false_and, implies_true, Option.some.injEq, exists_eq_left', nL, nI_add, nI_mul, nI_clamp, nI_ltI, nI_leI, nI_eq, nI_pos, nI_pos', Nat.reduceAdd, Nat.reduceMul, Nat.reducePow, sk_26 hvt', sr_26_0 hvt', sr_26_1 hvt', y1, y2, hb1]
                exact K _ _ _ _ _ hR'
      · have xs : xS X W pl st = some (pl + 1, zTurn st) := by simp only [xS, k0, Nat.reduceEqDiff, if_false, if_true]
        rw [xs] at K
        simp (disch := omega) only [e_66_69, e_66_168, e_66_169, n10, n01, Nat.lt_irrefl, Nat.not_lt_zero, ne_eq, Nat.add_zero, Nat.one_ne_zero, Nat.zero_ne_one, Nat.reduceEqDiff, bI_T, bI_F, bI_0, bI_1, bI_01, not_and_self, true_and, and_true, not_true_eq_false, not_false_eq_true, false_imp_iff, true_imp_iff, imp_self, gPv_n, gPv_i, gPv_r, gPv_0, Option.toList_some, Option.toList_none, List.singleton_append, List.cons_append, List.nil_append, List.length_nil, List.length_cons, Nat.zero_le, Nat.reduceAdd, Nat.reduceLeDiff, or_true, true_or, false_or, or_false, and_self, and_false, false_and, implies_true, Option.some.injEq, exists_eq_left', nL, nI_add, nI_mul, nI_clamp, nI_ltI, nI_leI, nI_eq, nI_pos, nI_pos', Nat.reduceAdd, Nat.reduceMul, Nat.reducePow, ti_0, ti_1, ti_2, ti_3, ti_4, ti_5, ti_6, ti_7, ti_8, ti_9, ti_10, ti_11, ti_12, ti_13, ti_14, ti_15, Int.reduceLT, Int.reduceSub, Int.reduceToNat, Int.sub_zero, Int.toNat_zero, Int.toNat_one, List.getElem?_cons_succ, List.getElem?_cons_zero, Int.lt_irrefl, sk_26 hvt, sr_26_0 hvt, sr_26_1 hvt, nI_div, z40, k0]
        refine rk_turn hv hR ?_
        intro τ' hR'
        simp (disch := omega) only [e_66_172, e_66_229, e_66_232, e_66_235, n10, n01, Nat.lt_irrefl, Nat.not_lt_zero, ne_eq, Nat.add_zero, Nat.one_ne_zero, Nat.zero_ne_one, Nat.reduceEqDiff, bI_T, bI_F, bI_0, bI_1, bI_01, not_and_self, true_and, and_true, not_true_eq_false, not_false_eq_true, false_imp_iff, true_imp_iff, imp_self, gPv_n, gPv_i, gPv_r, gPv_0, Option.toList_some, Option.toList_none, List.singleton_append, List.cons_append, List.nil_append, List.length_nil, List.length_cons, Nat.zero_le, Nat.reduceAdd, Nat.reduceLeDiff, or_true, true_or, false_or, or_false, and_self, and_false, false_and, implies_true, Option.some.injEq, exists_eq_left', nL, nI_add, nI_mul, nI_clamp, nI_ltI, nI_leI, nI_eq, nI_pos, nI_pos', Nat.reduceAdd, Nat.reduceMul, Nat.reducePow]
        exact ih _ _ _ _ _ (by omega) hR' K
      · have xs : xS X W pl st = zDec 0 pl (X pl % 4096) st := by simp only [xS, k0, Nat.reduceEqDiff, if_false, if_true]
        rw [xs] at K
        simp (disch := omega) only [e_66_69, e_66_175, e_66_176, e_66_177, n10, n01, Nat.lt_irrefl, Nat.not_lt_zero, ne_eq, Nat.add_zero, Nat.one_ne_zero, Nat.zero_ne_one, Nat.reduceEqDiff, bI_T, bI_F, bI_0, bI_1, bI_01, not_and_self, true_and, and_true, not_true_eq_false, not_false_eq_true, false_imp_iff, true_imp_iff, imp_self, gPv_n, gPv_i, gPv_r, gPv_0, Option.toList_some, Option.toList_none, List.singleton_append, List.cons_append, List.nil_append, List.length_nil, List.length_cons, Nat.zero_le, Nat.reduceAdd, Nat.reduceLeDiff, or_true, true_or, false_or, or_false, and_self, and_false, false_and, implies_true, Option.some.injEq, exists_eq_left', nL, nI_add, nI_mul, nI_clamp, nI_ltI, nI_leI, nI_eq, nI_pos, nI_pos', Nat.reduceAdd, Nat.reduceMul, Nat.reducePow, ti_0, ti_1, ti_2, ti_3, ti_4, ti_5, ti_6, ti_7, ti_8, ti_9, ti_10, ti_11, ti_12, ti_13, ti_14, ti_15, Int.reduceLT, Int.reduceSub, Int.reduceToNat, Int.sub_zero, Int.toNat_zero, Int.toNat_one, List.getElem?_cons_succ, List.getElem?_cons_zero, Int.lt_irrefl, sk_26 hvt, sr_26_0 hvt, sr_26_1 hvt, nI_div, z40, k0]
        refine rk_dec (kv := 0) (by decide) hv hR ?_ ?_
        · intro ha
          have z5 : nI (X pl % 4096) - nI 1 + nI 1 = nI (X pl % 4096) := Int32.sub_add_cancel _ _
          simp (disch := omega) only [e_66_180, e_66_183, e_66_185, e_66_186, e_66_187, e_66_190, e_66_192, e_66_194, e_66_229, e_66_232, e_66_235, n10, n01, Nat.lt_irrefl, Nat.not_lt_zero, ne_eq, Nat.add_zero, Nat.one_ne_zero, Nat.zero_ne_one, Nat.reduceEqDiff, bI_T, bI_F, bI_0, bI_1, bI_01, not_and_self, true_and, and_true, not_true_eq_false, not_false_eq_true, false_imp_iff, true_imp_iff, imp_self, gPv_n, gPv_i, gPv_r, gPv_0, Option.toList_some, Option.toList_none, List.singleton_append, List.cons_append, List.nil_append, List.length_nil, List.length_cons, Nat.zero_le, Nat.reduceAdd, Nat.reduceLeDiff, or_true, true_or, false_or, or_false, and_self, and_false, false_and, implies_true, Option.some.injEq, exists_eq_left', nL, z5, nI_add, Nat.reduceAdd]
          cases st with
          | nil => exact ih _ _ _ _ _ (by omega) hR K
          | cons a t =>
            have := ha a t rfl
            simp only [zDec, if_pos this] at K
            exact ih _ _ _ _ _ (by omega) hR K
        · intro a t hst ha τ' hR'
          subst hst
          simp only [zDec, if_neg ha] at K
          simp (disch := omega) only [e_66_180, e_66_183, e_66_185, e_66_186, e_66_187, e_66_190, e_66_192, e_66_194, e_66_229, e_66_232, e_66_235, n10, n01, Nat.lt_irrefl, Nat.not_lt_zero, ne_eq, Nat.add_zero, Nat.one_ne_zero, Nat.zero_ne_one, Nat.reduceEqDiff, bI_T, bI_F, bI_0, bI_1, bI_01, not_and_self, true_and, and_true, not_true_eq_false, not_false_eq_true, false_imp_iff, true_imp_iff, imp_self, gPv_n, gPv_i, gPv_r, gPv_0, Option.toList_some, Option.toList_none, List.singleton_append, List.cons_append, List.nil_append, List.length_nil, List.length_cons, Nat.zero_le, Nat.reduceAdd, Nat.reduceLeDiff, or_true, true_or, false_or, or_false, and_self, and_false, false_and, implies_true, Option.some.injEq, exists_eq_left', nL, nI_add, nI_mul, nI_clamp, nI_ltI, nI_leI, nI_eq, nI_pos, nI_pos', Nat.reduceAdd, Nat.reduceMul, Nat.reducePow]
          exact ih _ _ _ _ _ (by omega) hR' K
      · have xs : xS X W pl st = zDec 1 pl (X pl % 4096) st := by simp only [xS, k0, Nat.reduceEqDiff, if_false, if_true]
        rw [xs] at K
        simp (disch := omega) only [e_66_69, e_66_197, e_66_198, e_66_199, n10, n01, Nat.lt_irrefl, Nat.not_lt_zero, ne_eq, Nat.add_zero, Nat.one_ne_zero, Nat.zero_ne_one, Nat.reduceEqDiff, bI_T, bI_F, bI_0, bI_1, bI_01, not_and_self, true_and, and_true, not_true_eq_false, not_false_eq_true, false_imp_iff, true_imp_iff, imp_self, gPv_n, gPv_i, gPv_r, gPv_0, Option.toList_some, Option.toList_none, List.singleton_append, List.cons_append, List.nil_append, List.length_nil, List.length_cons, Nat.zero_le, Nat.reduceAdd, Nat.reduceLeDiff, or_true, true_or, false_or, or_false, and_self, and_false, false_and, implies_true, Option.some.injEq, exists_eq_left', nL, nI_add, nI_mul, nI_clamp, nI_ltI, nI_leI, nI_eq, nI_pos, nI_pos', Nat.reduceAdd, Nat.reduceMul, Nat.reducePow, ti_0, ti_1, ti_2, ti_3, ti_4, ti_5, ti_6, ti_7, ti_8, ti_9, ti_10, ti_11, ti_12, ti_13, ti_14, ti_15, Int.reduceLT, Int.reduceSub, Int.reduceToNat, Int.sub_zero, Int.toNat_zero, Int.toNat_one, List.getElem?_cons_succ, List.getElem?_cons_zero, Int.lt_irrefl, sk_26 hvt, sr_26_0 hvt, sr_26_1 hvt, nI_div, z40, k0]
        refine rk_dec (kv := 1) (by decide) hv hR ?_ ?_
        · intro ha
          have z5 : nI (X pl % 4096) - nI 1 + nI 1 = nI (X pl % 4096) := Int32.sub_add_cancel _ _
          simp (disch := omega) only [e_66_202, e_66_205, e_66_207, e_66_208, e_66_209, e_66_212, e_66_214, e_66_216, e_66_229, e_66_232, e_66_235, n10, n01, Nat.lt_irrefl, Nat.not_lt_zero, ne_eq, Nat.add_zero, Nat.one_ne_zero, Nat.zero_ne_one, Nat.reduceEqDiff, bI_T, bI_F, bI_0, bI_1, bI_01, not_and_self, true_and, and_true, not_true_eq_false, not_false_eq_true, false_imp_iff, true_imp_iff, imp_self, gPv_n, gPv_i, gPv_r, gPv_0, Option.toList_some, Option.toList_none, List.singleton_append, List.cons_append, List.nil_append, List.length_nil, List.length_cons, Nat.zero_le, Nat.reduceAdd, Nat.reduceLeDiff, or_true, true_or, false_or, or_false, and_self, and_false, false_and, implies_true, Option.some.injEq, exists_eq_left', nL, z5, nI_add, Nat.reduceAdd]
          cases st with
          | nil => exact ih _ _ _ _ _ (by omega) hR K
          | cons a t =>
            have := ha a t rfl
            simp only [zDec, if_pos this] at K
            exact ih _ _ _ _ _ (by omega) hR K
        · intro a t hst ha τ' hR'
          subst hst
          simp only [zDec, if_neg ha] at K
          simp (disch := omega) only [e_66_202, e_66_205, e_66_207, e_66_208, e_66_209, e_66_212, e_66_214, e_66_216, e_66_229, e_66_232, e_66_235, n10, n01, Nat.lt_irrefl, Nat.not_lt_zero, ne_eq, Nat.add_zero, Nat.one_ne_zero, Nat.zero_ne_one, Nat.reduceEqDiff, bI_T, bI_F, bI_0, bI_1, bI_01, not_and_self, true_and, and_true, not_true_eq_false, not_false_eq_true, false_imp_iff, true_imp_iff, imp_self, gPv_n, gPv_i, gPv_r, gPv_0, Option.toList_some, Option.toList_none, List.singleton_append, List.cons_append, List.nil_append, List.length_nil, List.length_cons, Nat.zero_le, Nat.reduceAdd, Nat.reduceLeDiff, or_true, true_or, false_or, or_false, and_self, and_false, false_and, implies_true, Option.some.injEq, exists_eq_left', nL, nI_add, nI_mul, nI_clamp, nI_ltI, nI_leI, nI_eq, nI_pos, nI_pos', Nat.reduceAdd, Nat.reduceMul, Nat.reducePow]
          exact ih _ _ _ _ _ (by omega) hR' K
    · have z2 : e ≤ pl := by omega
      have xe : xr X W e (m + 1) pl st = some st := if_neg hpe
      rw [xe] at K
      simp (disch := omega) only [e_66_26, e_66_28, e_66_31, e_66_34, e_66_36, e_66_37, n10, n01, Nat.lt_irrefl, Nat.not_lt_zero, ne_eq, Nat.add_zero, Nat.one_ne_zero, Nat.zero_ne_one, Nat.reduceEqDiff, bI_T, bI_F, bI_0, bI_1, bI_01, not_and_self, true_and, and_true, not_true_eq_false, not_false_eq_true, false_imp_iff, true_imp_iff, imp_self, gPv_n, gPv_i, gPv_r, gPv_0, Option.toList_some, Option.toList_none, List.singleton_append, List.cons_append, List.nil_append, List.length_nil, List.length_cons, Nat.zero_le, Nat.reduceAdd, Nat.reduceLeDiff, or_true, true_or, false_or, or_false, and_self, and_false, false_and, implies_true, Option.some.injEq, exists_eq_left', nL, nI_add, nI_mul, nI_clamp, nI_ltI, nI_leI, nI_eq, nI_pos, nI_pos', Nat.reduceAdd, Nat.reduceMul, Nat.reducePow, z, z2]
      exact K τ pl n x6 x7 hR
end
