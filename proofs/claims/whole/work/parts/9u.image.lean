/-! image -/
section
variable {CV : Nat → (Nat → Int32) → (Nat → Nat → Int32) → Prop} {G : gG} {σ τ : gS} {k : Nat}
theorem Inv_im {own own' : Nat → Nat} {T i : Nat} (hk : k < 512) (hi : i < 2) (i1 : I1 G σ k) (i2 : I2 (gB G) own σ k) (i3 : I3 (gB G) σ k) (i4 : I4 LSx own (gB G + 1) σ (gI σ (gB G + 56))) (i5 : I5 LSx (gB G) own σ) (i6 : I6 (gB G) σ) (i7 : I7 (gB G) σ) (i8 : I8 (gB G) σ) (i9 : I9 CV (gB G) σ) (i11 : I11 (gB G) σ)
    (ho : ∀ a, own a ≠ 0 → own' a = own a) (hoT : ∀ o, o < 17 → own' (T + o) = 2 + i) (ho2 : ∀ a, own' a ≠ 0 → own a ≠ 0 ∨ T ≤ a ∧ a < T + 17) (hTl : gB G + 80 ≤ T) (hTn : T + 17 ≤ gn τ) (hd : ∀ a, own a ≠ 0 → own a ≠ 2 + i → ¬ (T ≤ a ∧ a < T + 17))
    (hK : ∀ a, a < gn σ → gK τ a = gK σ a) (hN : ∀ a, a < gn σ → gN τ a = gN σ a) (hR : ∀ a, a < gn σ → a ≠ gB G + 18 → ¬ (T ≤ a ∧ a < T + 17) → gR τ a = gR σ a) (hR18 : ∀ j, j ≠ i → gR τ (gB G + 18) j = gR σ (gB G + 18) j) (hR18i : gR τ (gB G + 18) i = some T)
    (hn : gn σ ≤ gn τ) (hn2 : gn τ ≤ gn σ + 17) (hw : gw τ ≤ gw σ + 137) (hT : gT τ = gT σ)
    (hI : ∀ a, a < gn σ → ¬ (T ≤ a ∧ a < T + 17) → a ≠ gB G → a ≠ gB G + 54 → a ≠ gB G + 57 → a ≠ gB G + 58 → gI τ a = gI σ a) (h0 : ∀ j, j ≠ 8 → gI τ (gB G) j = gI σ (gB G) j) (h08 : gI τ (gB G) 8 = nI 0) (h54 : ∀ j, j ≠ 0 → j ≠ 1 → gI τ (gB G + 54) j = gI σ (gB G + 54) j) (h540 : gI τ (gB G + 54) 0 = nI 0) (h541 : gI τ (gB G + 54) 1 = gI σ (gB G + 54) 1 + nI 1)
    (h57 : ∀ x, (x < 5062 * i ∨ 5062 * i + 5062 ≤ x) → gI τ (gB G + 57) x = gI σ (gB G + 57) x) (h58 : ∀ j, j ≠ i → gI τ (gB G + 58) j = gI σ (gB G + 58) j) (h58i : gI τ (gB G + 58) i = nI 1)
    (hv : IvS (gB G) τ) (hTS : TwS T τ) (hTF : TwF T τ) (h4 : I4 LSx own' T τ (fun j => gI τ (gB G + 57) (5062 * i + j))) : Inv LSx CV MVx G τ (k + 1) := by
  have hb : gb G < gB G := i1.2.2.2.2.2.1
  have n80 : gB G + 80 ≤ gn σ := i1.2.2.2.2.2.2.1
  have ol : ∀ a, own a ≠ 0 → gB G + 80 ≤ a ∧ a < gn σ := fun a ha => i2.1 a ha
  have hl : ∀ a, own a ≠ 0 → own a ≠ 2 + i → gI τ a = gI σ a := fun a ha h2 => by
    have := ol a ha
    exact hI a (by omega) (hd a ha h2) (by omega) (by omega) (by omega) (by omega)
  have hlR : ∀ a, own a ≠ 0 → own a ≠ 2 + i → gR τ a = gR σ a := fun a ha h2 => by
    have := ol a ha
    exact hR a (by omega) (by omega) (hd a ha h2)
  have rw' : ∀ o, 1 ≤ o → o < 80 → o ≠ 54 → o ≠ 57 → o ≠ 58 → gI τ (gB G + o) = gI σ (gB G + o) := fun o h1 h2 h3 h4 h5 => hI _ (by omega) (by omega) (by omega) (by omega) (by omega) (by omega)
  refine ⟨own', ?_, ?_, ?_, ?_, ?_, ?_, ?_, ?_, ?_, ?_, ?_⟩
  · obtain ⟨w1, w2, w3, w4, w5, w6, w7, w8⟩ := i1
    exact ⟨hv, hT.trans w2, by rw [hK _ (by omega)]; exact w3, by rw [hN _ (by omega)]; exact w4, (hI _ (by omega) (by omega) (by omega) (by omega) (by omega) (by omega)).trans w5, w6, by omega, by omega⟩
  · obtain ⟨w1, l, s, w2, w3, w4, w5, w6, w7⟩ := i2
    have ln : l < gn σ := by
      rcases w6 with w6 | w6
      · omega
      · exact (w1 l (by omega)).2
    refine ⟨?_, l, s, by rw [hR _ (by omega) (by omega) (by omega)]; exact w2, by rw [hK l ln]; exact w3, by rw [hN l ln]; exact w4, w5, ?_, by omega⟩
    · intro a ha
      rcases ho2 a ha with z | z
      · have := w1 a z; omega
      · omega
    · rcases w6 with w6 | w6
      · exact Or.inl w6
      · exact Or.inr (by rw [ho l (by omega)]; exact w6)
  · obtain ⟨⟨c, c1, c2, c3⟩, v, v1, v2, v3⟩ := i3
    refine ⟨⟨c, by rw [rw' 1 (by omega) (by omega) (by omega) (by omega) (by omega)]; exact c1, by omega, ?_⟩, v + 1, by rw [h541, v1, nI_add], by omega, ?_⟩
    · intro j hj
      have := cO_in j hj
      rw [rw' _ (by omega) (by omega) (by omega) (by omega) (by omega)]
      exact c3 j hj
    · rw [h54 28 (by omega) (by omega)]
      rcases v3 with v3 | ⟨a, v3, v4⟩
      · exact Or.inl v3
      · exact Or.inr ⟨a, v3, by omega⟩
  · rw [rw' 56 (by omega) (by omega) (by omega) (by omega) (by omega)]
    refine fr_I4x (fun a ha => by rw [ho a (by omega)]; exact ha) (fun a ha => hK a (ol a (by omega)).2) (fun a ha => hN a (ol a (by omega)).2) (fun a ha => hlR a (by omega) (by omega)) (hR _ (by omega) (by omega) (by omega)) (fun o ho => ?_) (fun a ha => hl a (by omega) (by omega)) i4
    rw [Nat.add_assoc]
    exact rw' _ (by omega) (by omega) (by omega) (by omega) (by omega)
  · intro j hj
    by_cases c : j = i
    · rw [c]
      exact Or.inr ⟨h58i, T, hR18i, hTS, hTF, hoT, h4⟩
    · rcases i5 j hj with ⟨u1, u2⟩ | ⟨u1, t, u2, u3, u4, u5, u6⟩
      · exact Or.inl ⟨by rw [h58 j c]; exact u1, by rw [hR18 j c]; exact u2⟩
      · have o5 : ∀ o, o < 17 → own (t + o) ≠ 0 ∧ own (t + o) ≠ 2 + i := fun o ho => by have := u5 o ho; omega
        have t0 : own t ≠ 0 ∧ own t ≠ 2 + i := o5 0 (by omega)
        refine Or.inr ⟨by rw [h58 j c]; exact u1, t, by rw [hR18 j c]; exact u2, ?_, ?_, ?_, ?_⟩
        · intro o ho'
          have := (ol _ (o5 o ho').1).2
          rw [hK _ this, hN _ this]
          exact u3 o ho'
        · simp only [TwF, hlR t t0.1 t0.2, hlR _ (o5 8 (by omega)).1 (o5 8 (by omega)).2, hlR _ (o5 11 (by omega)).1 (o5 11 (by omega)).2, hlR _ (o5 14 (by omega)).1 (o5 14 (by omega)).2]
          exact u4
        · intro o ho'
          rw [ho _ (o5 o ho').1]
          exact u5 o ho'
        · refine I4_c (A := fun x => gI σ (gB G + 57) (5062 * j + x)) (fun x hx => h57 _ (by omega)) ?_
          exact fr_I4x (fun a ha => by rw [ho a (by omega)]; exact ha) (fun a ha => hK a (ol a (by omega)).2) (fun a ha => hN a (ol a (by omega)).2) (fun a ha => hlR a (by omega) (by omega)) (hlR _ (o5 7 (by omega)).1 (o5 7 (by omega)).2) (fun o ho' => hl _ (o5 o ho').1 (o5 o ho').2) (fun a ha => hl a (by omega) (by omega)) u6
  · obtain ⟨q, q1, q2, q3, q4⟩ := i6
    exact ⟨q, q1, by rw [h0 3 (by omega)]; exact q2, by rw [h54 10 (by omega) (by omega)]; exact q3, by rw [rw' 19 (by omega) (by omega) (by omega) (by omega) (by omega), rw' 60 (by omega) (by omega) (by omega) (by omega) (by omega)]; exact q4⟩
  · simp only [I7] at i7 ⊢
    rw [h0 5 (by omega), h0 6 (by omega), h08, h540, h54 11 (by omega) (by omega), h54 6 (by omega) (by omega), rw' 24 (by omega) (by omega) (by omega) (by omega) (by omega), rw' 55 (by omega) (by omega) (by omega) (by omega) (by omega)]
    exact ⟨i7.1, i7.2.1, rfl, i7.2.2.2⟩
  · obtain ⟨q, q1, q2, q3, q4⟩ := i8
    exact ⟨q, q1, by rw [rw' 50 (by omega) (by omega) (by omega) (by omega) (by omega)]; exact q2, by rw [h54 48 (by omega) (by omega)]; exact q3, by rw [rw' 52 (by omega) (by omega) (by omega) (by omega) (by omega), rw' 53 (by omega) (by omega) (by omega) (by omega) (by omega), rw' 78 (by omega) (by omega) (by omega) (by omega) (by omega), rw' 79 (by omega) (by omega) (by omega) (by omega) (by omega)]; exact q4⟩
  · intro c hc z
    have := cO_in c hc
    rw [rw' _ (by omega) (by omega) (by omega) (by omega) (by omega), rw' 1 (by omega) (by omega) (by omega) (by omega) (by omega)] at z
    rw [rw' 56 (by omega) (by omega) (by omega) (by omega) (by omega), cw_c (fun o h1 h2 => rw' o (by omega) (by omega) (by omega) (by omega) (by omega))]
    exact i9 c hc z
  · intro z
    exfalso
    obtain ⟨_, v, v1, v2, v3⟩ := i3
    rw [h54 28 (by omega) (by omega), h541, v1, nI_add] at z
    rcases v3 with v3 | ⟨a, v3, v4⟩
    · rw [v3] at z
      exact ng_ne 1 (v + 1) (by omega) (by omega) (by omega) z
    · rw [v3, nI_eq (by omega) (by omega)] at z
      omega
  · obtain ⟨z1, z2, z3, z4⟩ := i11
    refine ⟨by rw [h54 30 (by omega) (by omega)]; exact z1, by rw [h54 32 (by omega) (by omega)]; exact z2, by rw [rw' 59 (by omega) (by omega) (by omega) (by omega) (by omega)]; exact z3, ?_⟩
    obtain ⟨y1, y2, y3⟩ := z4
    refine ⟨by rw [hT]; exact y1, by rw [hT]; exact y2, ?_⟩
    rw [hT]
    intro j hj
    have := y3 j hj
    exact ⟨this.1, by rw [hK _ (by omega)]; exact this.2⟩
set_option maxHeartbeats 2000000 in
theorem im_go {own own' : Nat → Nat} {T i : Nat} {σN : gS} (hk : k < 512) (hi : i < 2) (i1 : I1 G σ k) (i2 : I2 (gB G) own σ k) (i3 : I3 (gB G) σ k) (i4 : I4 LSx own (gB G + 1) σ (gI σ (gB G + 56))) (i5 : I5 LSx (gB G) own σ) (i6 : I6 (gB G) σ) (i7 : I7 (gB G) σ) (i8 : I8 (gB G) σ) (i9 : I9 CV (gB G) σ) (i11 : I11 (gB G) σ)
    (ho : ∀ a, own a ≠ 0 → own' a = own a) (hoT : ∀ o, o < 17 → own' (T + o) = 2 + i) (ho2 : ∀ a, own' a ≠ 0 → own a ≠ 0 ∨ T ≤ a ∧ a < T + 17) (hTl : gB G + 80 ≤ T) (hTn : T + 17 ≤ gn σN) (hd : ∀ a, own a ≠ 0 → own a ≠ 2 + i → ¬ (T ≤ a ∧ a < T + 17))
    (hK : ∀ a, a < gn σ → gK σN a = gK σ a) (hN : ∀ a, a < gn σ → gN σN a = gN σ a) (hR : ∀ a, a < gn σ → a ≠ gB G + 18 → gR σN a = gR σ a) (hR18 : ∀ j, j ≠ i → gR σN (gB G + 18) j = gR σ (gB G + 18) j) (hR18i : gR σN (gB G + 18) i = some T)
    (hn : gn σ ≤ gn σN) (hn2 : gn σN ≤ gn σ + 17) (hw : gw σN ≤ gw σ + 137) (hT : gT σN = gT σ) (hI : ∀ a, a < gn σ → gI σN a = gI σ a) (hTS : TwS T σN) (hTF : TwF T σN) : wp 999 pr_151 (fun r1 σ1 => (gSc (gb G) σ σ1 ∧ gK σ1 (gB G + 54) = 13) ∧ ∃ v, r1 = some (Value.int v) ∧ wc 1000 169 [.ref (gB G + 54), .int (nI i)] σ1 (fun r2 σ2 => r2 = some (Value.int v) ∧ Inv LSx CV MVx G σ2 (k + 1))) 37 [some (.ref (gB G)), some (.int (nI i))] [] σN := by
  have hb : gb G < gB G := i1.2.2.2.2.2.1
  have n80 : gB G + 80 ≤ gn σ := i1.2.2.2.2.2.2.1
  have hv : IvS (gB G) σ := i1.1
  have hvN : IvS (gB G) σN := by
    obtain ⟨v1, v2⟩ := hv
    refine ⟨fun o ho => by rw [hK _ (by omega), hN _ (by omega)]; exact v1 o ho, fun e he => ?_⟩
    have := rT_8 e he
    rw [hR _ (by omega) (by omega)]
    exact v2 e he
  obtain ⟨tw, twf⟩ := tw_1 hvN
  have ol : ∀ a, own a ≠ 0 → gB G + 80 ≤ a ∧ a < gn σ := fun a ha => i2.1 a ha
  have i4N : I4 LSx own' (gB G + 1) σN (gI σ (gB G + 56)) := fr_I4x (fun a ha => by rw [ho a (by omega)]; exact ha) (fun a ha => hK a (ol a (by omega)).2) (fun a ha => hN a (ol a (by omega)).2) (fun a ha => hR a (ol a (by omega)).2 (by have := ol a (by omega); omega)) (hR _ (by omega) (by omega)) (fun o ho => hI _ (by omega)) (fun a ha => hI a (ol a (by omega)).2) i4
  have a1 := i4N.1.2.2.2.1
  have q1 := an_le a1.1 (by omega)
  have q2 := an_le a1.2.1 (by omega)
  have q3 := an_le a1.2.2.1 (by omega)
  have tp := i4N.2.1.2.2.2.1
  have kT := twk_0 hTS
  simp (disch := first | omega | assumption) only [n10, n01, Nat.lt_irrefl, Nat.not_lt_zero, ne_eq, Nat.add_zero, Nat.one_ne_zero, Nat.zero_ne_one, Nat.reduceEqDiff, bI_T, bI_F, bI_0, bI_1, bI_01, not_and_self, true_and, and_true, not_true_eq_false, not_false_eq_true, false_imp_iff, true_imp_iff, imp_self, gPv_n, gPv_i, gPv_r, gPv_0, Option.toList_some, Option.toList_none, List.singleton_append, List.cons_append, List.nil_append, List.length_nil, List.length_cons, Nat.zero_le, Nat.reduceAdd, Nat.reduceLeDiff, or_true, true_or, false_or, or_false, and_self, and_false, false_and, implies_true, Option.some.injEq, exists_eq_left', nL, nI_add, nI_mul, nI_clamp, nI_ltI, nI_leI, nI_eq, nI_pos, nI_pos', Nat.reduceAdd, Nat.reduceMul, Nat.reducePow, e_151_37, e_151_38, e_151_41, e_151_42, e_151_43, e_151_44, e_151_47, sk_0 hvN, sr_0_0 hvN, sr_0_1 hvN, sr_0_2 hvN, sr_0_4 hvN, sr_0_7 hvN, sr_0_9 hvN, sr_0_10 hvN, sr_0_11 hvN, sr_0_12 hvN, sr_0_13 hvN, sr_0_14 hvN, sk_1 hvN, sr_1_0 hvN, sr_1_1 hvN, sr_1_2 hvN, sr_1_3 hvN, sr_1_4 hvN, sr_1_7 hvN, sr_1_9 hvN, sr_1_14 hvN, sr_1_15 hvN, sr_1_16 hvN, sk_18 hvN, sn_18 hvN, hi, hR18i, Option.some.injEq, forall_eq', reduceCtorEq, false_imp_iff, kT]
  refine s_bl (d := 996) (t := T) (m := gB G + 1) hTS hTF tw twf (by omega) (tp.1.1.trans q1.2) q1.1 (tp.2.1.1.trans q2.2) q2.1 (tp.2.2.1.trans q3.2) q3.1 (law_K i4N) ?_
  intro τ1 R1 b1 b2 b3 b4 b5 b6 b7
  have eK : gK τ1 = gK σN := R1.1
  have eN : gN τ1 = gN σN := R1.2.1
  have hv1 : IvS (gB G) τ1 := by
    obtain ⟨v1, v2⟩ := hvN
    refine ⟨fun o ho => by rw [eK, eN]; exact v1 o ho, fun e he => ?_⟩
    have := rT_8 e he
    rw [R1.2.2.1 _ (by omega)]
    exact v2 e he
  have I41 : I4 LSx own' T τ1 (gI σ (gB G + 56)) := I4_bl i4N R1 (fun a ha z => by
    have := hoT (a - T) (by omega)
    rw [show T + (a - T) = a by omega] at this
    omega) b1 b2 b4 b5 b6 b7
  simp (disch := first | omega | (simp only [IvS_I, IvS_J, IvS_r]; assumption)) only [e_151_50, e_151_51, e_151_52, e_151_55, n10, n01, Nat.lt_irrefl, Nat.not_lt_zero, ne_eq, Nat.add_zero, Nat.one_ne_zero, Nat.zero_ne_one, Nat.reduceEqDiff, bI_T, bI_F, bI_0, bI_1, bI_01, not_and_self, true_and, and_true, not_true_eq_false, not_false_eq_true, false_imp_iff, true_imp_iff, imp_self, gPv_n, gPv_i, gPv_r, gPv_0, Option.toList_some, Option.toList_none, List.singleton_append, List.cons_append, List.nil_append, List.length_nil, List.length_cons, Nat.zero_le, Nat.reduceAdd, Nat.reduceLeDiff, or_true, true_or, false_or, or_false, and_self, and_false, false_and, implies_true, Option.some.injEq, exists_eq_left', nL, nI_add, nI_mul, nI_clamp, nI_ltI, nI_leI, nI_eq, nI_pos, nI_pos', Nat.reduceAdd, Nat.reduceMul, Nat.reducePow, s_accept, sk_0 hv1, sr_0_0 hv1, sr_0_1 hv1, sr_0_2 hv1, sr_0_4 hv1, sr_0_7 hv1, sr_0_9 hv1, sr_0_10 hv1, sr_0_11 hv1, sr_0_12 hv1, sr_0_13 hv1, sr_0_14 hv1]
  generalize hτ2 : sI τ1 (gB G) 8 (nI 0) = τ2
  have S2 : Sm (fun a => a = gB G) τ1 τ2 := by rw [← hτ2]; exact Sm_I (Sm_refl _ _) rfl
  have hv2 : IvS (gB G) τ2 := fr_IvS S2.1 S2.2.1 S2.2.2.1 hv1
  have f08 : gI τ2 (gB G) 8 = nI 0 := by rw [← hτ2, rI_eq]
  have f0 : ∀ j, j ≠ 8 → gI τ2 (gB G) j = gI σ (gB G) j := fun j hj => by
    rw [← hτ2, rI_nk hj, R1.2.2.2.2.2.2.1 _ (by omega), hI _ (by omega)]
  have g2 : ∀ a, a < gn σ → ¬ (T ≤ a ∧ a < T + 17) → a ≠ gB G → gI τ2 a = gI σ a := fun a h1 h2 h3 => by
    rw [S2.2.2.2.2.2.2.1 a h3, R1.2.2.2.2.2.2.1 a h2, hI a h1]
  refine ⟨⟨⟨by rw [S2.1, eK, hK _ (by omega)], by rw [S2.2.1, eN, hN _ (by omega)], g2 _ (by omega) (by omega) (by omega)⟩, sk_54 hv2⟩, _, rfl, ?_⟩
  have hi1 : i ≤ 1 := by omega
  simp (disch := first | omega | assumption) only [List.map_cons, List.map_nil, Value.int.injEq, gSc_r, gSc_I, c_169, e_169_0, e_169_1, e_169_2, e_169_3, e_169_6, e_169_15, e_169_16, n10, n01, Nat.lt_irrefl, Nat.not_lt_zero, ne_eq, Nat.add_zero, Nat.one_ne_zero, Nat.zero_ne_one, Nat.reduceEqDiff, bI_T, bI_F, bI_0, bI_1, bI_01, not_and_self, true_and, and_true, not_true_eq_false, not_false_eq_true, false_imp_iff, true_imp_iff, imp_self, gPv_n, gPv_i, gPv_r, gPv_0, Option.toList_some, Option.toList_none, List.singleton_append, List.cons_append, List.nil_append, List.length_nil, List.length_cons, Nat.zero_le, Nat.reduceAdd, Nat.reduceLeDiff, or_true, true_or, false_or, or_false, and_self, and_false, false_and, implies_true, Option.some.injEq, exists_eq_left', nL, nI_add, nI_mul, nI_clamp, nI_ltI, nI_leI, nI_eq, nI_pos, nI_pos', Nat.reduceAdd, Nat.reduceMul, Nat.reducePow, sk_54 hv2, sr_54_2 hv2, sr_54_3 hv2, sr_54_4 hv2, sr_54_5 hv2, sr_54_7 hv2, sr_54_8 hv2, sr_54_9 hv2, sr_54_12 hv2, sr_54_13 hv2, sr_54_14 hv2, sr_54_22 hv2, sr_54_25 hv2, sr_54_26 hv2, sr_54_27 hv2, sr_54_34 hv2, sr_54_35 hv2, sr_54_36 hv2, sr_54_37 hv2, sr_54_38 hv2, sr_54_40 hv2, sr_54_43 hv2, sr_54_44 hv2, sr_54_45 hv2, sr_54_46 hv2, sr_54_47 hv2, t_lies, hi1]
  refine t_im1 (k := i) hv2 hi ?_ 5062 0 τ2 (by omega) (Sm_refl _ _) (fun j hj => absurd hj (by omega)) (fun _ _ => rfl)
  intro τ3 x2 S3 c1 c2
  have hv3 : IvS (gB G) τ3 := fr_IvS S3.1 S3.2.1 S3.2.2.1 hv2
  have k58 := sk_58 hv3
  have nb : vp_nar .boolean (nI 1) = nI 1 := rfl
  have e54 : ∀ {d : Nat} {Q : Option Value → gS → Prop} {x0 x1 x2 : Option Value} {x j : Int32} {st : List Value} {ρ : gS} (_ : gK ρ (gB G + 58) = 23), wp d pr_169 Q 54 [x0, x1, x2] (.int x :: .int j :: .ref (gB G + 58) :: st) ρ ↔ (¬ j < 0 ∧ j.toNatClampNeg < gN ρ (gB G + 58)) ∧ wp d pr_169 Q 55 [x0, x1, x2] st (sI ρ (gB G + 58) j.toNatClampNeg (vp_nar .boolean x)) := fun h => e_169_54n h
  simp (disch := first | omega | assumption | (simp only [IvS_I]; assumption)) only [e_169_48, e_169_49, e_169_52, e_169_53, e_169_55, e_169_56, e_169_57, e_169_60, e54, n10, n01, Nat.lt_irrefl, Nat.not_lt_zero, ne_eq, Nat.add_zero, Nat.one_ne_zero, Nat.zero_ne_one, Nat.reduceEqDiff, bI_T, bI_F, bI_0, bI_1, bI_01, not_and_self, true_and, and_true, not_true_eq_false, not_false_eq_true, false_imp_iff, true_imp_iff, imp_self, gPv_n, gPv_i, gPv_r, gPv_0, Option.toList_some, Option.toList_none, List.singleton_append, List.cons_append, List.nil_append, List.length_nil, List.length_cons, Nat.zero_le, Nat.reduceAdd, Nat.reduceLeDiff, or_true, true_or, false_or, or_false, and_self, and_false, false_and, implies_true, Option.some.injEq, exists_eq_left', nL, nI_add, nI_mul, nI_clamp, nI_ltI, nI_leI, nI_eq, nI_pos, nI_pos', Nat.reduceAdd, Nat.reduceMul, Nat.reducePow, n_K_I, n_K_J, n_K_R, n_K_r, n_N_I, n_N_J, n_N_R, n_N_r, n_R_I, n_R_J, n_R_r, n_J_I, n_J_R, n_J_r, n_I_J, n_I_R, n_n_I, n_n_J, n_n_R, n_n_r, n_w_I, n_w_J, n_w_R, n_w_r, n_T_I, n_T_J, n_T_R, n_T_r, rI_ne, rI_nk, rI_eq, rr_ne, rr_eq, n_J_J, n_R_R, Nat.add_left_cancel_iff, Nat.add_right_cancel_iff, Nat.add_eq_left, Nat.left_eq_add, Nat.reduceEqDiff, Nat.reduceAdd, Nat.zero_ne_one, Nat.one_ne_zero, false_and, and_false, true_and, and_true, and_self, if_false, if_true, ↓reduceIte, sk_54 hv3, sr_54_2 hv3, sr_54_3 hv3, sr_54_4 hv3, sr_54_5 hv3, sr_54_7 hv3, sr_54_8 hv3, sr_54_9 hv3, sr_54_12 hv3, sr_54_13 hv3, sr_54_14 hv3, sr_54_22 hv3, sr_54_25 hv3, sr_54_26 hv3, sr_54_27 hv3, sr_54_34 hv3, sr_54_35 hv3, sr_54_36 hv3, sr_54_37 hv3, sr_54_38 hv3, sr_54_40 hv3, sr_54_43 hv3, sr_54_44 hv3, sr_54_45 hv3, sr_54_46 hv3, sr_54_47 hv3, sk_58 hv3, sn_58 hv3, hi, nb, t_good]
  generalize hτ4 : sI (sI (sI τ3 (gB G + 58) i (nI 1)) (gB G + 54) 0 (nI 0)) (gB G + 54) 1 _ = τ4
  have S4 : Sm (fun a => a = gB G + 58 ∨ a = gB G + 54) τ3 τ4 := by rw [← hτ4]; exact Sm_I (Sm_I (Sm_I (Sm_refl _ _) (Or.inl rfl)) (Or.inr rfl)) (Or.inr rfl)
  have f540 : gI τ4 (gB G + 54) 0 = nI 0 := by rw [← hτ4, rI_nk (by omega), rI_eq]
  have r54 : gI τ3 (gB G + 54) = gI σ (gB G + 54) := by rw [S3.2.2.2.2.2.2.1 _ (by omega)]; exact g2 _ (by omega) (by omega) (by omega)
  have f541 : gI τ4 (gB G + 54) 1 = gI σ (gB G + 54) 1 + nI 1 := by rw [← hτ4, rI_eq, r54]
  have f54 : ∀ j, j ≠ 0 → j ≠ 1 → gI τ4 (gB G + 54) j = gI σ (gB G + 54) j := fun j h1 h2 => by rw [← hτ4, rI_nk h2, rI_nk h1, rI_ne (by omega), r54]
  have r58 : gI τ3 (gB G + 58) = gI σ (gB G + 58) := by rw [S3.2.2.2.2.2.2.1 _ (by omega)]; exact g2 _ (by omega) (by omega) (by omega)
  have f58 : ∀ j, j ≠ i → gI τ4 (gB G + 58) j = gI σ (gB G + 58) j := fun j h1 => by rw [← hτ4, rI_ne (by omega), rI_ne (by omega), rI_nk h1, r58]
  have f58i : gI τ4 (gB G + 58) i = nI 1 := by rw [← hτ4, rI_ne (by omega), rI_ne (by omega), rI_eq]
  have g4 : ∀ a, a ≠ gB G + 54 → a ≠ gB G + 57 → a ≠ gB G + 58 → gI τ4 a = gI τ2 a := fun a h1 h2 h3 => by
    rw [S4.2.2.2.2.2.2.1 a (by omega), S3.2.2.2.2.2.2.1 a h2]
  have f57 : gI τ4 (gB G + 57) = gI τ3 (gB G + 57) := S4.2.2.2.2.2.2.1 _ (by omega)
  have tK : gK τ4 = gK σN := by rw [S4.1, S3.1, S2.1]; exact eK
  have tN : gN τ4 = gN σN := by rw [S4.2.1, S3.2.1, S2.2.1]; exact eN
  have tR : gR τ4 = gR τ1 := by rw [S4.2.2.1, S3.2.2.1, S2.2.2.1]
  have tn : gn τ4 = gn σN := by rw [S4.2.2.2.1, S3.2.2.2.1, S2.2.2.2.1]; exact R1.2.2.2.1
  have tw' : gw τ4 = gw σN := by rw [S4.2.2.2.2.1, S3.2.2.2.2.1, S2.2.2.2.2.1]; exact R1.2.2.2.2.1
  have tT : gT τ4 = gT σN := by rw [S4.2.2.2.2.2.1, S3.2.2.2.2.2.1, S2.2.2.2.2.2.1]; exact R1.2.2.2.2.2.1
  have hv4 : IvS (gB G) τ4 := fr_IvS S4.1 S4.2.1 S4.2.2.1 hv3
  have hR1 : ∀ a, a ≠ T + 7 → gR τ1 a = gR σN a := R1.2.2.1
  refine Inv_im (own := own) (own' := own') (T := T) (i := i) hk hi i1 i2 i3 i4 i5 i6 i7 i8 i9 i11 ho hoT ho2 hTl (by omega) hd (fun a ha => by rw [tK]; exact hK a ha) (fun a ha => by rw [tN]; exact hN a ha) (fun a h1 h2 h3 => by rw [tR, hR1 a (by omega)]; exact hR a h1 h2) (fun j hj => by rw [tR, hR1 _ (by omega)]; exact hR18 j hj) (by rw [tR, hR1 _ (by omega)]; exact hR18i) (by omega) (by omega) (by omega) (tT.trans hT) (fun a h1 h2 h3 h4 h5 h6 => by rw [g4 a h4 h5 h6]; exact g2 a h1 h2 h3) (fun j hj => by rw [g4 _ (by omega) (by omega) (by omega)]; exact f0 j hj) (by rw [g4 _ (by omega) (by omega) (by omega)]; exact f08) f54 f540 f541 (fun x hx => by rw [f57, c2 x hx, g2 _ (by omega) (by omega) (by omega)]) f58 f58i hv4 ?_ ?_ ?_
  · simp only [TwS, tK, tN]; exact hTS
  · have := TwF_r hTF R1 (Or.inl rfl)
    simp only [TwF, tR]
    exact this
  · refine I4_c (A := gI σ (gB G + 56)) (fun j hj => ?_) (fr_I4 (by rw [tK, eK]) (by rw [tN, eN]) tR (fun o ho => ?_) (fun a ha => ?_) I41)
    · rw [f57, c1 j hj, g2 _ (by omega) (by omega) (by omega)]
    · rw [g4 _ (by omega) (by omega) (by omega), S2.2.2.2.2.2.2.1 _ (by omega)]
    · have : gB G + 80 ≤ a := by
        rcases ho2 a (by omega) with z | z
        · exact (ol a z).1
        · omega
      rw [g4 _ (by omega) (by omega) (by omega), S2.2.2.2.2.2.2.1 _ (by omega)]
set_option maxHeartbeats 2000000 in
theorem ob_image : gOb (Inv LSx CV MVx G) (gb G) (gB G) (gB G + 54) 151 169 1 := by
  intro σ k as hl hk hI
  obtain ⟨p0, rfl⟩ := len1 hl
  have hv := Inv_Sh hI
  have hb := Inv_b hI
  by_cases h0 : nI 0 ≤ p0 ∧ p0 ≤ nI 1
  · obtain ⟨i, hi, rfl⟩ := in_nI (by omega) h0
    have i2' : i < 2 := by omega
    obtain ⟨own, i1, i2, i3, i4, i5, i6, i7, i8, i9, i10, i11⟩ := id hI
    have n80 : gB G + 80 ≤ gn σ := i1.2.2.2.2.2.2.1
    rcases i5 i i2' with ⟨u1, u2⟩ | ⟨u1, t, u2, u3, u4, u5, u6⟩
    · have kT0 := ntk_0 (σ := σ)
      have k18 : gK (NT σ) (gB G + 18) = 25 := by rw [(nt_o (by omega)).1]; exact sk_18 hv
      have n18 : gN (NT σ) (gB G + 18) = 2 := by rw [(nt_o (by omega)).2.1]; exact sn_18 hv
      have sN : ∀ {d : Nat} {Q : Option Value → gS → Prop}, wc (d + 2) 99 [.ref (gn σ)] (sNw σ 11 0 18) Q ↔ Q none (NT σ) := fun {d Q} => s_i_99 (by rw [n_K_N, if_pos rfl]) (by rw [n_n_N]; omega)
      have kN : gK (sNw σ 11 0 18) (gn σ) = 11 := by rw [n_K_N, if_pos rfl]
      simp (disch := first | omega | assumption) only [List.map_cons, List.map_nil, Value.int.injEq, gSc_r, gSc_I, n10, n01, Nat.lt_irrefl, Nat.not_lt_zero, ne_eq, Nat.add_zero, Nat.one_ne_zero, Nat.zero_ne_one, Nat.reduceEqDiff, bI_T, bI_F, bI_0, bI_1, bI_01, not_and_self, true_and, and_true, not_true_eq_false, not_false_eq_true, false_imp_iff, true_imp_iff, imp_self, gPv_n, gPv_i, gPv_r, gPv_0, Option.toList_some, Option.toList_none, List.singleton_append, List.cons_append, List.nil_append, List.length_nil, List.length_cons, Nat.zero_le, Nat.reduceAdd, Nat.reduceLeDiff, or_true, true_or, false_or, or_false, and_self, and_false, false_and, implies_true, Option.some.injEq, exists_eq_left', nL, nI_add, nI_mul, nI_clamp, nI_ltI, nI_leI, nI_eq, nI_pos, nI_pos', Nat.reduceAdd, Nat.reduceMul, Nat.reducePow, c_151, e_151_0, e_151_1, e_151_2, e_151_3, e_151_6, e_151_9, e_151_10, e_151_11, e_151_14, e_151_15, e_151_16, e_151_19, e_151_20, e_151_21, e_151_21n, e_151_24, e_151_25, e_151_28, e_151_29, e_151_32, e_151_32n, e_151_33, e_151_36, e_151_36n, sk_0 hv, sr_0_0 hv, sr_0_1 hv, sr_0_2 hv, sr_0_4 hv, sr_0_7 hv, sr_0_9 hv, sr_0_10 hv, sr_0_11 hv, sr_0_12 hv, sr_0_13 hv, sr_0_14 hv, sk_18 hv, sn_18 hv, s_within, hi, i2', u2, reduceCtorEq, forall_const, false_imp_iff, sN, kN, kT0, k18, n18]
      refine im_go (own := own) (own' := fun a => if gn σ ≤ a ∧ a < gn σ + 17 then 2 + i else own a) (T := gn σ) hk i2' i1 i2 i3 i4 i5 i6 i7 i8 i9 i11 ?_ ?_ ?_ n80 ?_ ?_ ?_ ?_ ?_ ?_ ?_ ?_ ?_ ?_ ?_ ?_ ?_ ?_
      · intro a ha
        have := i2.1 a ha
        exact if_neg (by omega)
      · intro o ho
        exact if_pos (by omega)
      · intro a ha
        by_cases c : gn σ ≤ a ∧ a < gn σ + 17
        · exact Or.inr c
        · simp only [if_neg c] at ha
          exact Or.inl ha
      · simp only [n_n_R]; rw [nt_n.1]; exact Nat.le_refl _
      · intro a ha _
        have := i2.1 a ha
        omega
      · intro a ha; simp only [n_K_R]; exact (nt_o ha).1
      · intro a ha; simp only [n_N_R]; exact (nt_o ha).2.1
      · intro a ha h18
        funext j
        rw [n_R_R, if_neg (fun z => h18 z.1), (nt_o ha).2.2.2.2]
      · intro j hj
        rw [n_R_R, if_neg (fun z => hj z.2), (nt_o (by omega)).2.2.2.2]
      · rw [n_R_R, if_pos ⟨rfl, rfl⟩]
      · simp only [n_n_R]; rw [nt_n.1]; omega
      · simp only [n_n_R]; rw [nt_n.1]; omega
      · simp only [n_w_R]; rw [nt_n.2.1]; omega
      · simp only [n_T_R]; exact nt_n.2.2
      · intro a ha; funext j; simp only [n_I_R]; rw [(nt_o ha).2.2.1]
      · intro o ho; simp only [n_K_R, n_N_R]; exact nt_S o ho
      · have := nt_F (σ := σ)
        have e : ∀ a, a ≠ gB G + 18 → gR (sR (NT σ) (gB G + 18) i (some (gn σ))) a = gR (NT σ) a := fun a ha => by
          funext j
          rw [n_R_R, if_neg (fun z => ha z.1)]
        simp only [TwF, e (gn σ) (by omega), e (gn σ + 8) (by omega), e (gn σ + 11) (by omega), e (gn σ + 14) (by omega)]
        exact this
    · have t80 := i2.1 t (by have := u5 0 (by omega); rw [Nat.add_zero] at this; omega)
      have t16 := i2.1 (t + 16) (by have := u5 16 (by omega); omega)
      simp (disch := first | omega | assumption) only [List.map_cons, List.map_nil, Value.int.injEq, gSc_r, gSc_I, n10, n01, Nat.lt_irrefl, Nat.not_lt_zero, ne_eq, Nat.add_zero, Nat.one_ne_zero, Nat.zero_ne_one, Nat.reduceEqDiff, bI_T, bI_F, bI_0, bI_1, bI_01, not_and_self, true_and, and_true, not_true_eq_false, not_false_eq_true, false_imp_iff, true_imp_iff, imp_self, gPv_n, gPv_i, gPv_r, gPv_0, Option.toList_some, Option.toList_none, List.singleton_append, List.cons_append, List.nil_append, List.length_nil, List.length_cons, Nat.zero_le, Nat.reduceAdd, Nat.reduceLeDiff, or_true, true_or, false_or, or_false, and_self, and_false, false_and, implies_true, Option.some.injEq, exists_eq_left', nL, nI_add, nI_mul, nI_clamp, nI_ltI, nI_leI, nI_eq, nI_pos, nI_pos', Nat.reduceAdd, Nat.reduceMul, Nat.reducePow, c_151, e_151_0, e_151_1, e_151_2, e_151_3, e_151_6, e_151_9, e_151_10, e_151_11, e_151_14, e_151_15, e_151_16, e_151_19, e_151_20, e_151_21, e_151_21n, sk_0 hv, sr_0_0 hv, sr_0_1 hv, sr_0_2 hv, sr_0_4 hv, sr_0_7 hv, sr_0_9 hv, sr_0_10 hv, sr_0_11 hv, sr_0_12 hv, sr_0_13 hv, sr_0_14 hv, sk_18 hv, sn_18 hv, s_within, hi, i2', u2, Option.some.injEq, forall_eq', reduceCtorEq, false_imp_iff]
      refine im_go (own := own) (own' := own) (T := t) hk i2' i1 i2 i3 i4 i5 i6 i7 i8 i9 i11 (fun _ _ => rfl) u5 (fun a ha => Or.inl ha) t80.1 (by omega) ?_ (fun _ _ => rfl) (fun _ _ => rfl) (fun _ _ _ => rfl) (fun _ _ => rfl) u2 (Nat.le_refl _) (by omega) (by omega) rfl (fun _ _ => rfl) u3 u4
      intro a _ h2 z
      have := u5 (a - t) (by omega)
      rw [show t + (a - t) = a by omega] at this
      exact h2 this
  · simp (disch := first | omega | (simp only [IvS_I, IvS_J, IvS_r]; assumption)) only [List.map_cons, List.map_nil, Value.int.injEq, gSc_r, gSc_I, n10, n01, Nat.lt_irrefl, Nat.not_lt_zero, ne_eq, Nat.add_zero, Nat.one_ne_zero, Nat.zero_ne_one, Nat.reduceEqDiff, bI_T, bI_F, bI_0, bI_1, bI_01, not_and_self, true_and, and_true, not_true_eq_false, not_false_eq_true, false_imp_iff, true_imp_iff, imp_self, gPv_n, gPv_i, gPv_r, gPv_0, Option.toList_some, Option.toList_none, List.singleton_append, List.cons_append, List.nil_append, List.length_nil, List.length_cons, Nat.zero_le, Nat.reduceAdd, Nat.reduceLeDiff, or_true, true_or, false_or, or_false, and_self, and_false, false_and, implies_true, Option.some.injEq, exists_eq_left', nL, c_151, e_151_0, e_151_1, e_151_2, e_151_3, e_151_6, e_151_9, e_151_10, e_151_11, e_151_14, c_169, e_169_0, e_169_1, e_169_2, e_169_3, e_169_6, e_169_9, e_169_10, e_169_11, e_169_14, sk_0 hv, sr_0_0 hv, sr_0_1 hv, sr_0_2 hv, sr_0_4 hv, sr_0_7 hv, sr_0_9 hv, sr_0_10 hv, sr_0_11 hv, sr_0_12 hv, sr_0_13 hv, sr_0_14 hv, sk_54 hv, sr_54_2 hv, sr_54_3 hv, sr_54_4 hv, sr_54_5 hv, sr_54_7 hv, sr_54_8 hv, sr_54_9 hv, sr_54_12 hv, sr_54_13 hv, sr_54_14 hv, sr_54_22 hv, sr_54_25 hv, sr_54_26 hv, sr_54_27 hv, sr_54_34 hv, sr_54_35 hv, sr_54_36 hv, sr_54_37 hv, sr_54_38 hv, sr_54_40 hv, sr_54_43 hv, sr_54_44 hv, sr_54_45 hv, sr_54_46 hv, sr_54_47 hv, n_K_I, n_K_J, n_K_R, n_K_r, n_N_I, n_N_J, n_N_R, n_N_r, n_R_I, n_R_J, n_R_r, n_J_I, n_J_R, n_J_r, n_I_J, n_I_R, n_n_I, n_n_J, n_n_R, n_n_r, n_w_I, n_w_J, n_w_R, n_w_r, n_T_I, n_T_J, n_T_R, n_T_r, rI_ne, rI_nk, rI_eq, rr_ne, rr_eq, n_J_J, n_R_R, Nat.add_left_cancel_iff, Nat.add_right_cancel_iff, Nat.add_eq_left, Nat.left_eq_add, Nat.reduceEqDiff, Nat.reduceAdd, Nat.zero_ne_one, Nat.one_ne_zero, false_and, and_false, true_and, and_true, and_self, if_false, if_true, ↓reduceIte, s_within, t_lies, h0, s_refuse_1, t_refuses_1]
    exact Inv_ref_1 hk hI
end
