/-- class and model, one call of each, from a store that the invariant holds of: they answer alike, and it holds again -/
def gSc (b : Nat) (σ τ : gS) : Prop := gK τ b = gK σ b ∧ gN τ b = gN σ b ∧ gI τ b = gI σ b
def gOb (Inv : gS → Nat → Prop) (b x m ix im n : Nat) : Prop := ∀ (σ : gS) (k : Nat) (as : List Int32), as.length = n → k < 512 → Inv σ k →
  wc 1000 ix (.ref x :: as.map Value.int) σ (fun r1 σ1 => (gSc b σ σ1 ∧ gK σ1 m = 13) ∧ ∃ v : Int32, r1 = some (.int v) ∧ wc 1000 im (.ref m :: as.map Value.int) σ1 (fun r2 σ2 => r2 = some (.int v) ∧ Inv σ2 (k + 1)))
theorem ll_in {i L : Nat} (c : Nat) (h : i + 6 ≤ L) (hL : L ≤ 3072) (hc : c < 6) : ¬ nI i + nI c < 0 ∧ (nI i + nI c).toNatClampNeg < L := by
  rw [nI_add]
  exact ⟨nI_pos (by omega), by rw [nI_clamp (by omega)]; omega⟩
theorem ll_le {i L : Nat} (hi : i ≤ 3100) (hL : L ≤ 3072) (h : ¬ (Int32.ofNat L - 6 < nI i)) : i + 6 ≤ L := by
  have e : (Int32.ofNat L - 6).toInt = (L : Int) - 6 := pk_sub_toInt (a := L) (b := 6) (by omega) (by omega)
  rw [Int32.lt_iff_toInt_lt, e, nI_toInt (by omega)] at h
  omega
set_option maxHeartbeats 1000000 in
theorem lc_0 {Inv : gS → Nat → Prop} {Q : Option Value → gS → Prop} {b x m i k : Nat} {σ : gS} (hb : gK σ b = 26) (hx : gK σ x = 12) (h1 : ¬ nI i + 1 < 0) (g1 : (nI i + 1).toNatClampNeg < gN σ b) (h2 : ¬ nI i + 2 < 0) (g2 : (nI i + 2).toNatClampNeg < gN σ b) (h3 : ¬ nI i + 3 < 0) (g3 : (nI i + 3).toNatClampNeg < gN σ b) (h4 : ¬ nI i + 4 < 0) (g4 : (nI i + 4).toNatClampNeg < gN σ b) (h5 : ¬ nI i + 5 < 0) (g5 : (nI i + 5).toNatClampNeg < gN σ b) (hk : k < 512) (hI : Inv σ k) (ob : gOb Inv b x m 114 181 5)
    (kk : ∀ τ : gS, Inv τ (k + 1) → wp 1000 pr_L Q 1495 [some (.ref b), some (.ref x), some (.ref m), some (.int (nI i))] [] τ) : wp 1000 pr_L Q 212 [some (.ref b), some (.ref x), some (.ref m), some (.int (nI i))] [] σ := by
  simp only [e_L_212, e_L_213, e_L_214, e_L_215, e_L_216, e_L_217, e_L_218, e_L_219, e_L_220, e_L_221, e_L_222, e_L_223, e_L_224, e_L_225, e_L_226, e_L_227, e_L_228, e_L_229, e_L_230, e_L_231, e_L_232, e_L_233, e_L_234, e_L_235, e_L_236, e_L_237, e_L_238, hx, hb, h1, g1, h2, g2, h3, g3, h4, g4, h5, g5, or_true, not_false_eq_true, true_and, and_self, List.length_nil, List.length_cons, Nat.zero_le]
  refine wc_imp (ob σ k [gI σ b (nI i + 1).toNatClampNeg, gI σ b (nI i + 2).toNatClampNeg, gI σ b (nI i + 3).toNatClampNeg, gI σ b (nI i + 4).toNatClampNeg, gI σ b (nI i + 5).toNatClampNeg] rfl hk hI) ?_
  rintro r1 σ1 ⟨⟨⟨s1, s2, s3⟩, hm⟩, v, rfl, hw2⟩
  have hb1 : gK σ1 b = 26 := s1.trans hb
  have g11 : (nI i + 1).toNatClampNeg < gN σ1 b := by rw [s2]; exact g1
  have g21 : (nI i + 2).toNatClampNeg < gN σ1 b := by rw [s2]; exact g2
  have g31 : (nI i + 3).toNatClampNeg < gN σ1 b := by rw [s2]; exact g3
  have g41 : (nI i + 4).toNatClampNeg < gN σ1 b := by rw [s2]; exact g4
  have g51 : (nI i + 5).toNatClampNeg < gN σ1 b := by rw [s2]; exact g5
  simp only [Option.toList_some, List.singleton_append, e_L_241, e_L_242, e_L_243, e_L_244, e_L_245, e_L_246, e_L_247, e_L_248, e_L_249, e_L_250, e_L_251, e_L_252, e_L_253, e_L_254, e_L_255, e_L_256, e_L_257, e_L_258, e_L_259, e_L_260, e_L_261, e_L_262, e_L_263, e_L_264, e_L_265, e_L_266, e_L_267, hm, hb1, s3, h1, g11, h2, g21, h3, g31, h4, g41, h5, g51, or_true, not_false_eq_true, true_and, and_self, List.length_nil, List.length_cons, Nat.zero_le, Nat.reduceAdd, Nat.reduceLeDiff]
  refine wc_imp hw2 ?_
  rintro r2 σ2 ⟨rfl, hI2⟩
  simp only [Option.toList_some, List.singleton_append, e_L_270, not_true_eq_false, false_imp_iff, true_imp_iff, and_true]
  exact kk σ2 hI2
set_option maxHeartbeats 1000000 in
theorem lc_1 {Inv : gS → Nat → Prop} {Q : Option Value → gS → Prop} {b x m i k : Nat} {σ : gS} (hb : gK σ b = 26) (hx : gK σ x = 12) (h1 : ¬ nI i + 1 < 0) (g1 : (nI i + 1).toNatClampNeg < gN σ b) (h2 : ¬ nI i + 2 < 0) (g2 : (nI i + 2).toNatClampNeg < gN σ b) (hk : k < 512) (hI : Inv σ k) (ob : gOb Inv b x m 115 182 2)
    (kk : ∀ τ : gS, Inv τ (k + 1) → wp 1000 pr_L Q 1495 [some (.ref b), some (.ref x), some (.ref m), some (.int (nI i))] [] τ) : wp 1000 pr_L Q 275 [some (.ref b), some (.ref x), some (.ref m), some (.int (nI i))] [] σ := by
  simp only [e_L_275, e_L_276, e_L_277, e_L_278, e_L_279, e_L_280, e_L_281, e_L_282, e_L_283, e_L_284, e_L_285, e_L_286, hx, hb, h1, g1, h2, g2, or_true, not_false_eq_true, true_and, and_self, List.length_nil, List.length_cons, Nat.zero_le]
  refine wc_imp (ob σ k [gI σ b (nI i + 1).toNatClampNeg, gI σ b (nI i + 2).toNatClampNeg] rfl hk hI) ?_
  rintro r1 σ1 ⟨⟨⟨s1, s2, s3⟩, hm⟩, v, rfl, hw2⟩
  have hb1 : gK σ1 b = 26 := s1.trans hb
  have g11 : (nI i + 1).toNatClampNeg < gN σ1 b := by rw [s2]; exact g1
  have g21 : (nI i + 2).toNatClampNeg < gN σ1 b := by rw [s2]; exact g2
  simp only [Option.toList_some, List.singleton_append, e_L_289, e_L_290, e_L_291, e_L_292, e_L_293, e_L_294, e_L_295, e_L_296, e_L_297, e_L_298, e_L_299, e_L_300, hm, hb1, s3, h1, g11, h2, g21, or_true, not_false_eq_true, true_and, and_self, List.length_nil, List.length_cons, Nat.zero_le, Nat.reduceAdd, Nat.reduceLeDiff]
  refine wc_imp hw2 ?_
  rintro r2 σ2 ⟨rfl, hI2⟩
  simp only [Option.toList_some, List.singleton_append, e_L_303, not_true_eq_false, false_imp_iff, true_imp_iff, and_true]
  exact kk σ2 hI2
set_option maxHeartbeats 1000000 in
theorem lc_2 {Inv : gS → Nat → Prop} {Q : Option Value → gS → Prop} {b x m i k : Nat} {σ : gS} (hb : gK σ b = 26) (hx : gK σ x = 12) (h1 : ¬ nI i + 1 < 0) (g1 : (nI i + 1).toNatClampNeg < gN σ b) (h2 : ¬ nI i + 2 < 0) (g2 : (nI i + 2).toNatClampNeg < gN σ b) (hk : k < 512) (hI : Inv σ k) (ob : gOb Inv b x m 116 183 2)
    (kk : ∀ τ : gS, Inv τ (k + 1) → wp 1000 pr_L Q 1495 [some (.ref b), some (.ref x), some (.ref m), some (.int (nI i))] [] τ) : wp 1000 pr_L Q 308 [some (.ref b), some (.ref x), some (.ref m), some (.int (nI i))] [] σ := by
  simp only [e_L_308, e_L_309, e_L_310, e_L_311, e_L_312, e_L_313, e_L_314, e_L_315, e_L_316, e_L_317, e_L_318, e_L_319, hx, hb, h1, g1, h2, g2, or_true, not_false_eq_true, true_and, and_self, List.length_nil, List.length_cons, Nat.zero_le]
  refine wc_imp (ob σ k [gI σ b (nI i + 1).toNatClampNeg, gI σ b (nI i + 2).toNatClampNeg] rfl hk hI) ?_
  rintro r1 σ1 ⟨⟨⟨s1, s2, s3⟩, hm⟩, v, rfl, hw2⟩
  have hb1 : gK σ1 b = 26 := s1.trans hb
  have g11 : (nI i + 1).toNatClampNeg < gN σ1 b := by rw [s2]; exact g1
  have g21 : (nI i + 2).toNatClampNeg < gN σ1 b := by rw [s2]; exact g2
  simp only [Option.toList_some, List.singleton_append, e_L_322, e_L_323, e_L_324, e_L_325, e_L_326, e_L_327, e_L_328, e_L_329, e_L_330, e_L_331, e_L_332, e_L_333, hm, hb1, s3, h1, g11, h2, g21, or_true, not_false_eq_true, true_and, and_self, List.length_nil, List.length_cons, Nat.zero_le, Nat.reduceAdd, Nat.reduceLeDiff]
  refine wc_imp hw2 ?_
  rintro r2 σ2 ⟨rfl, hI2⟩
  simp only [Option.toList_some, List.singleton_append, e_L_336, not_true_eq_false, false_imp_iff, true_imp_iff, and_true]
  exact kk σ2 hI2
set_option maxHeartbeats 1000000 in
theorem lc_3 {Inv : gS → Nat → Prop} {Q : Option Value → gS → Prop} {b x m i k : Nat} {σ : gS} (hb : gK σ b = 26) (hx : gK σ x = 12) (h1 : ¬ nI i + 1 < 0) (g1 : (nI i + 1).toNatClampNeg < gN σ b) (h2 : ¬ nI i + 2 < 0) (g2 : (nI i + 2).toNatClampNeg < gN σ b) (hk : k < 512) (hI : Inv σ k) (ob : gOb Inv b x m 117 184 2)
    (kk : ∀ τ : gS, Inv τ (k + 1) → wp 1000 pr_L Q 1495 [some (.ref b), some (.ref x), some (.ref m), some (.int (nI i))] [] τ) : wp 1000 pr_L Q 341 [some (.ref b), some (.ref x), some (.ref m), some (.int (nI i))] [] σ := by
  simp only [e_L_341, e_L_342, e_L_343, e_L_344, e_L_345, e_L_346, e_L_347, e_L_348, e_L_349, e_L_350, e_L_351, e_L_352, hx, hb, h1, g1, h2, g2, or_true, not_false_eq_true, true_and, and_self, List.length_nil, List.length_cons, Nat.zero_le]
  refine wc_imp (ob σ k [gI σ b (nI i + 1).toNatClampNeg, gI σ b (nI i + 2).toNatClampNeg] rfl hk hI) ?_
  rintro r1 σ1 ⟨⟨⟨s1, s2, s3⟩, hm⟩, v, rfl, hw2⟩
  have hb1 : gK σ1 b = 26 := s1.trans hb
  have g11 : (nI i + 1).toNatClampNeg < gN σ1 b := by rw [s2]; exact g1
  have g21 : (nI i + 2).toNatClampNeg < gN σ1 b := by rw [s2]; exact g2
  simp only [Option.toList_some, List.singleton_append, e_L_355, e_L_356, e_L_357, e_L_358, e_L_359, e_L_360, e_L_361, e_L_362, e_L_363, e_L_364, e_L_365, e_L_366, hm, hb1, s3, h1, g11, h2, g21, or_true, not_false_eq_true, true_and, and_self, List.length_nil, List.length_cons, Nat.zero_le, Nat.reduceAdd, Nat.reduceLeDiff]
  refine wc_imp hw2 ?_
  rintro r2 σ2 ⟨rfl, hI2⟩
  simp only [Option.toList_some, List.singleton_append, e_L_369, not_true_eq_false, false_imp_iff, true_imp_iff, and_true]
  exact kk σ2 hI2
set_option maxHeartbeats 1000000 in
theorem lc_4 {Inv : gS → Nat → Prop} {Q : Option Value → gS → Prop} {b x m i k : Nat} {σ : gS} (hb : gK σ b = 26) (hx : gK σ x = 12) (h1 : ¬ nI i + 1 < 0) (g1 : (nI i + 1).toNatClampNeg < gN σ b) (h2 : ¬ nI i + 2 < 0) (g2 : (nI i + 2).toNatClampNeg < gN σ b) (hk : k < 512) (hI : Inv σ k) (ob : gOb Inv b x m 118 185 2)
    (kk : ∀ τ : gS, Inv τ (k + 1) → wp 1000 pr_L Q 1495 [some (.ref b), some (.ref x), some (.ref m), some (.int (nI i))] [] τ) : wp 1000 pr_L Q 374 [some (.ref b), some (.ref x), some (.ref m), some (.int (nI i))] [] σ := by
  simp only [e_L_374, e_L_375, e_L_376, e_L_377, e_L_378, e_L_379, e_L_380, e_L_381, e_L_382, e_L_383, e_L_384, e_L_385, hx, hb, h1, g1, h2, g2, or_true, not_false_eq_true, true_and, and_self, List.length_nil, List.length_cons, Nat.zero_le]
  refine wc_imp (ob σ k [gI σ b (nI i + 1).toNatClampNeg, gI σ b (nI i + 2).toNatClampNeg] rfl hk hI) ?_
  rintro r1 σ1 ⟨⟨⟨s1, s2, s3⟩, hm⟩, v, rfl, hw2⟩
  have hb1 : gK σ1 b = 26 := s1.trans hb
  have g11 : (nI i + 1).toNatClampNeg < gN σ1 b := by rw [s2]; exact g1
  have g21 : (nI i + 2).toNatClampNeg < gN σ1 b := by rw [s2]; exact g2
  simp only [Option.toList_some, List.singleton_append, e_L_388, e_L_389, e_L_390, e_L_391, e_L_392, e_L_393, e_L_394, e_L_395, e_L_396, e_L_397, e_L_398, e_L_399, hm, hb1, s3, h1, g11, h2, g21, or_true, not_false_eq_true, true_and, and_self, List.length_nil, List.length_cons, Nat.zero_le, Nat.reduceAdd, Nat.reduceLeDiff]
  refine wc_imp hw2 ?_
  rintro r2 σ2 ⟨rfl, hI2⟩
  simp only [Option.toList_some, List.singleton_append, e_L_402, not_true_eq_false, false_imp_iff, true_imp_iff, and_true]
  exact kk σ2 hI2
set_option maxHeartbeats 1000000 in
theorem lc_5 {Inv : gS → Nat → Prop} {Q : Option Value → gS → Prop} {b x m i k : Nat} {σ : gS} (hb : gK σ b = 26) (hx : gK σ x = 12) (h1 : ¬ nI i + 1 < 0) (g1 : (nI i + 1).toNatClampNeg < gN σ b) (h2 : ¬ nI i + 2 < 0) (g2 : (nI i + 2).toNatClampNeg < gN σ b) (hk : k < 512) (hI : Inv σ k) (ob : gOb Inv b x m 119 186 2)
    (kk : ∀ τ : gS, Inv τ (k + 1) → wp 1000 pr_L Q 1495 [some (.ref b), some (.ref x), some (.ref m), some (.int (nI i))] [] τ) : wp 1000 pr_L Q 407 [some (.ref b), some (.ref x), some (.ref m), some (.int (nI i))] [] σ := by
  simp only [e_L_407, e_L_408, e_L_409, e_L_410, e_L_411, e_L_412, e_L_413, e_L_414, e_L_415, e_L_416, e_L_417, e_L_418, hx, hb, h1, g1, h2, g2, or_true, not_false_eq_true, true_and, and_self, List.length_nil, List.length_cons, Nat.zero_le]
  refine wc_imp (ob σ k [gI σ b (nI i + 1).toNatClampNeg, gI σ b (nI i + 2).toNatClampNeg] rfl hk hI) ?_
  rintro r1 σ1 ⟨⟨⟨s1, s2, s3⟩, hm⟩, v, rfl, hw2⟩
  have hb1 : gK σ1 b = 26 := s1.trans hb
  have g11 : (nI i + 1).toNatClampNeg < gN σ1 b := by rw [s2]; exact g1
  have g21 : (nI i + 2).toNatClampNeg < gN σ1 b := by rw [s2]; exact g2
  simp only [Option.toList_some, List.singleton_append, e_L_421, e_L_422, e_L_423, e_L_424, e_L_425, e_L_426, e_L_427, e_L_428, e_L_429, e_L_430, e_L_431, e_L_432, hm, hb1, s3, h1, g11, h2, g21, or_true, not_false_eq_true, true_and, and_self, List.length_nil, List.length_cons, Nat.zero_le, Nat.reduceAdd, Nat.reduceLeDiff]
  refine wc_imp hw2 ?_
  rintro r2 σ2 ⟨rfl, hI2⟩
  simp only [Option.toList_some, List.singleton_append, e_L_435, not_true_eq_false, false_imp_iff, true_imp_iff, and_true]
  exact kk σ2 hI2
set_option maxHeartbeats 1000000 in
theorem lc_6 {Inv : gS → Nat → Prop} {Q : Option Value → gS → Prop} {b x m i k : Nat} {σ : gS} (hb : gK σ b = 26) (hx : gK σ x = 12) (h1 : ¬ nI i + 1 < 0) (g1 : (nI i + 1).toNatClampNeg < gN σ b) (h2 : ¬ nI i + 2 < 0) (g2 : (nI i + 2).toNatClampNeg < gN σ b) (hk : k < 512) (hI : Inv σ k) (ob : gOb Inv b x m 120 190 2)
    (kk : ∀ τ : gS, Inv τ (k + 1) → wp 1000 pr_L Q 1495 [some (.ref b), some (.ref x), some (.ref m), some (.int (nI i))] [] τ) : wp 1000 pr_L Q 440 [some (.ref b), some (.ref x), some (.ref m), some (.int (nI i))] [] σ := by
  simp only [e_L_440, e_L_441, e_L_442, e_L_443, e_L_444, e_L_445, e_L_446, e_L_447, e_L_448, e_L_449, e_L_450, e_L_451, hx, hb, h1, g1, h2, g2, or_true, not_false_eq_true, true_and, and_self, List.length_nil, List.length_cons, Nat.zero_le]
  refine wc_imp (ob σ k [gI σ b (nI i + 1).toNatClampNeg, gI σ b (nI i + 2).toNatClampNeg] rfl hk hI) ?_
  rintro r1 σ1 ⟨⟨⟨s1, s2, s3⟩, hm⟩, v, rfl, hw2⟩
  have hb1 : gK σ1 b = 26 := s1.trans hb
  have g11 : (nI i + 1).toNatClampNeg < gN σ1 b := by rw [s2]; exact g1
  have g21 : (nI i + 2).toNatClampNeg < gN σ1 b := by rw [s2]; exact g2
  simp only [Option.toList_some, List.singleton_append, e_L_454, e_L_455, e_L_456, e_L_457, e_L_458, e_L_459, e_L_460, e_L_461, e_L_462, e_L_463, e_L_464, e_L_465, hm, hb1, s3, h1, g11, h2, g21, or_true, not_false_eq_true, true_and, and_self, List.length_nil, List.length_cons, Nat.zero_le, Nat.reduceAdd, Nat.reduceLeDiff]
  refine wc_imp hw2 ?_
  rintro r2 σ2 ⟨rfl, hI2⟩
  simp only [Option.toList_some, List.singleton_append, e_L_468, not_true_eq_false, false_imp_iff, true_imp_iff, and_true]
  exact kk σ2 hI2
set_option maxHeartbeats 1000000 in
theorem lc_7 {Inv : gS → Nat → Prop} {Q : Option Value → gS → Prop} {b x m i k : Nat} {σ : gS} (hb : gK σ b = 26) (hx : gK σ x = 12) (h1 : ¬ nI i + 1 < 0) (g1 : (nI i + 1).toNatClampNeg < gN σ b) (h2 : ¬ nI i + 2 < 0) (g2 : (nI i + 2).toNatClampNeg < gN σ b) (hk : k < 512) (hI : Inv σ k) (ob : gOb Inv b x m 121 191 2)
    (kk : ∀ τ : gS, Inv τ (k + 1) → wp 1000 pr_L Q 1495 [some (.ref b), some (.ref x), some (.ref m), some (.int (nI i))] [] τ) : wp 1000 pr_L Q 473 [some (.ref b), some (.ref x), some (.ref m), some (.int (nI i))] [] σ := by
  simp only [e_L_473, e_L_474, e_L_475, e_L_476, e_L_477, e_L_478, e_L_479, e_L_480, e_L_481, e_L_482, e_L_483, e_L_484, hx, hb, h1, g1, h2, g2, or_true, not_false_eq_true, true_and, and_self, List.length_nil, List.length_cons, Nat.zero_le]
  refine wc_imp (ob σ k [gI σ b (nI i + 1).toNatClampNeg, gI σ b (nI i + 2).toNatClampNeg] rfl hk hI) ?_
  rintro r1 σ1 ⟨⟨⟨s1, s2, s3⟩, hm⟩, v, rfl, hw2⟩
  have hb1 : gK σ1 b = 26 := s1.trans hb
  have g11 : (nI i + 1).toNatClampNeg < gN σ1 b := by rw [s2]; exact g1
  have g21 : (nI i + 2).toNatClampNeg < gN σ1 b := by rw [s2]; exact g2
  simp only [Option.toList_some, List.singleton_append, e_L_487, e_L_488, e_L_489, e_L_490, e_L_491, e_L_492, e_L_493, e_L_494, e_L_495, e_L_496, e_L_497, e_L_498, hm, hb1, s3, h1, g11, h2, g21, or_true, not_false_eq_true, true_and, and_self, List.length_nil, List.length_cons, Nat.zero_le, Nat.reduceAdd, Nat.reduceLeDiff]
  refine wc_imp hw2 ?_
  rintro r2 σ2 ⟨rfl, hI2⟩
  simp only [Option.toList_some, List.singleton_append, e_L_501, not_true_eq_false, false_imp_iff, true_imp_iff, and_true]
  exact kk σ2 hI2
set_option maxHeartbeats 1000000 in
theorem lc_8 {Inv : gS → Nat → Prop} {Q : Option Value → gS → Prop} {b x m i k : Nat} {σ : gS} (hb : gK σ b = 26) (hx : gK σ x = 12) (h1 : ¬ nI i + 1 < 0) (g1 : (nI i + 1).toNatClampNeg < gN σ b) (h2 : ¬ nI i + 2 < 0) (g2 : (nI i + 2).toNatClampNeg < gN σ b) (h3 : ¬ nI i + 3 < 0) (g3 : (nI i + 3).toNatClampNeg < gN σ b) (h4 : ¬ nI i + 4 < 0) (g4 : (nI i + 4).toNatClampNeg < gN σ b) (h5 : ¬ nI i + 5 < 0) (g5 : (nI i + 5).toNatClampNeg < gN σ b) (hk : k < 512) (hI : Inv σ k) (ob : gOb Inv b x m 122 194 5)
    (kk : ∀ τ : gS, Inv τ (k + 1) → wp 1000 pr_L Q 1495 [some (.ref b), some (.ref x), some (.ref m), some (.int (nI i))] [] τ) : wp 1000 pr_L Q 506 [some (.ref b), some (.ref x), some (.ref m), some (.int (nI i))] [] σ := by
  simp only [e_L_506, e_L_507, e_L_508, e_L_509, e_L_510, e_L_511, e_L_512, e_L_513, e_L_514, e_L_515, e_L_516, e_L_517, e_L_518, e_L_519, e_L_520, e_L_521, e_L_522, e_L_523, e_L_524, e_L_525, e_L_526, e_L_527, e_L_528, e_L_529, e_L_530, e_L_531, e_L_532, hx, hb, h1, g1, h2, g2, h3, g3, h4, g4, h5, g5, or_true, not_false_eq_true, true_and, and_self, List.length_nil, List.length_cons, Nat.zero_le]
  refine wc_imp (ob σ k [gI σ b (nI i + 1).toNatClampNeg, gI σ b (nI i + 2).toNatClampNeg, gI σ b (nI i + 3).toNatClampNeg, gI σ b (nI i + 4).toNatClampNeg, gI σ b (nI i + 5).toNatClampNeg] rfl hk hI) ?_
  rintro r1 σ1 ⟨⟨⟨s1, s2, s3⟩, hm⟩, v, rfl, hw2⟩
  have hb1 : gK σ1 b = 26 := s1.trans hb
  have g11 : (nI i + 1).toNatClampNeg < gN σ1 b := by rw [s2]; exact g1
  have g21 : (nI i + 2).toNatClampNeg < gN σ1 b := by rw [s2]; exact g2
  have g31 : (nI i + 3).toNatClampNeg < gN σ1 b := by rw [s2]; exact g3
  have g41 : (nI i + 4).toNatClampNeg < gN σ1 b := by rw [s2]; exact g4
  have g51 : (nI i + 5).toNatClampNeg < gN σ1 b := by rw [s2]; exact g5
  simp only [Option.toList_some, List.singleton_append, e_L_535, e_L_536, e_L_537, e_L_538, e_L_539, e_L_540, e_L_541, e_L_542, e_L_543, e_L_544, e_L_545, e_L_546, e_L_547, e_L_548, e_L_549, e_L_550, e_L_551, e_L_552, e_L_553, e_L_554, e_L_555, e_L_556, e_L_557, e_L_558, e_L_559, e_L_560, e_L_561, hm, hb1, s3, h1, g11, h2, g21, h3, g31, h4, g41, h5, g51, or_true, not_false_eq_true, true_and, and_self, List.length_nil, List.length_cons, Nat.zero_le, Nat.reduceAdd, Nat.reduceLeDiff]
  refine wc_imp hw2 ?_
  rintro r2 σ2 ⟨rfl, hI2⟩
  simp only [Option.toList_some, List.singleton_append, e_L_564, not_true_eq_false, false_imp_iff, true_imp_iff, and_true]
  exact kk σ2 hI2
set_option maxHeartbeats 1000000 in
theorem lc_9 {Inv : gS → Nat → Prop} {Q : Option Value → gS → Prop} {b x m i k : Nat} {σ : gS} (hb : gK σ b = 26) (hx : gK σ x = 12) (h1 : ¬ nI i + 1 < 0) (g1 : (nI i + 1).toNatClampNeg < gN σ b) (hk : k < 512) (hI : Inv σ k) (ob : gOb Inv b x m 123 195 1)
    (kk : ∀ τ : gS, Inv τ (k + 1) → wp 1000 pr_L Q 1495 [some (.ref b), some (.ref x), some (.ref m), some (.int (nI i))] [] τ) : wp 1000 pr_L Q 569 [some (.ref b), some (.ref x), some (.ref m), some (.int (nI i))] [] σ := by
  simp only [e_L_569, e_L_570, e_L_571, e_L_572, e_L_573, e_L_574, e_L_575, hx, hb, h1, g1, or_true, not_false_eq_true, true_and, and_self, List.length_nil, List.length_cons, Nat.zero_le]
  refine wc_imp (ob σ k [gI σ b (nI i + 1).toNatClampNeg] rfl hk hI) ?_
  rintro r1 σ1 ⟨⟨⟨s1, s2, s3⟩, hm⟩, v, rfl, hw2⟩
  have hb1 : gK σ1 b = 26 := s1.trans hb
  have g11 : (nI i + 1).toNatClampNeg < gN σ1 b := by rw [s2]; exact g1
  simp only [Option.toList_some, List.singleton_append, e_L_578, e_L_579, e_L_580, e_L_581, e_L_582, e_L_583, e_L_584, hm, hb1, s3, h1, g11, or_true, not_false_eq_true, true_and, and_self, List.length_nil, List.length_cons, Nat.zero_le, Nat.reduceAdd, Nat.reduceLeDiff]
  refine wc_imp hw2 ?_
  rintro r2 σ2 ⟨rfl, hI2⟩
  simp only [Option.toList_some, List.singleton_append, e_L_587, not_true_eq_false, false_imp_iff, true_imp_iff, and_true]
  exact kk σ2 hI2
set_option maxHeartbeats 1000000 in
theorem lc_10 {Inv : gS → Nat → Prop} {Q : Option Value → gS → Prop} {b x m i k : Nat} {σ : gS} (hb : gK σ b = 26) (hx : gK σ x = 12) (hk : k < 512) (hI : Inv σ k) (ob : gOb Inv b x m 124 192 0)
    (kk : ∀ τ : gS, Inv τ (k + 1) → wp 1000 pr_L Q 1495 [some (.ref b), some (.ref x), some (.ref m), some (.int (nI i))] [] τ) : wp 1000 pr_L Q 592 [some (.ref b), some (.ref x), some (.ref m), some (.int (nI i))] [] σ := by
  simp only [e_L_592, e_L_593, hx, hb, or_true, not_false_eq_true, true_and, and_self, List.length_nil, List.length_cons, Nat.zero_le]
  refine wc_imp (ob σ k [] rfl hk hI) ?_
  rintro r1 σ1 ⟨⟨⟨s1, s2, s3⟩, hm⟩, v, rfl, hw2⟩
  have hb1 : gK σ1 b = 26 := s1.trans hb
  simp only [Option.toList_some, List.singleton_append, e_L_596, e_L_597, hm, hb1, s3, or_true, not_false_eq_true, true_and, and_self, List.length_nil, List.length_cons, Nat.zero_le, Nat.reduceAdd, Nat.reduceLeDiff]
  refine wc_imp hw2 ?_
  rintro r2 σ2 ⟨rfl, hI2⟩
  simp only [Option.toList_some, List.singleton_append, e_L_600, not_true_eq_false, false_imp_iff, true_imp_iff, and_true]
  exact kk σ2 hI2
set_option maxHeartbeats 1000000 in
theorem lc_11 {Inv : gS → Nat → Prop} {Q : Option Value → gS → Prop} {b x m i k : Nat} {σ : gS} (hb : gK σ b = 26) (hx : gK σ x = 12) (hk : k < 512) (hI : Inv σ k) (ob : gOb Inv b x m 125 193 0)
    (kk : ∀ τ : gS, Inv τ (k + 1) → wp 1000 pr_L Q 1495 [some (.ref b), some (.ref x), some (.ref m), some (.int (nI i))] [] τ) : wp 1000 pr_L Q 605 [some (.ref b), some (.ref x), some (.ref m), some (.int (nI i))] [] σ := by
  simp only [e_L_605, e_L_606, hx, hb, or_true, not_false_eq_true, true_and, and_self, List.length_nil, List.length_cons, Nat.zero_le]
  refine wc_imp (ob σ k [] rfl hk hI) ?_
  rintro r1 σ1 ⟨⟨⟨s1, s2, s3⟩, hm⟩, v, rfl, hw2⟩
  have hb1 : gK σ1 b = 26 := s1.trans hb
  simp only [Option.toList_some, List.singleton_append, e_L_609, e_L_610, hm, hb1, s3, or_true, not_false_eq_true, true_and, and_self, List.length_nil, List.length_cons, Nat.zero_le, Nat.reduceAdd, Nat.reduceLeDiff]
  refine wc_imp hw2 ?_
  rintro r2 σ2 ⟨rfl, hI2⟩
  simp only [Option.toList_some, List.singleton_append, e_L_613, not_true_eq_false, false_imp_iff, true_imp_iff, and_true]
  exact kk σ2 hI2
set_option maxHeartbeats 1000000 in
theorem lc_12 {Inv : gS → Nat → Prop} {Q : Option Value → gS → Prop} {b x m i k : Nat} {σ : gS} (hb : gK σ b = 26) (hx : gK σ x = 12) (hk : k < 512) (hI : Inv σ k) (ob : gOb Inv b x m 126 214 0)
    (kk : ∀ τ : gS, Inv τ (k + 1) → wp 1000 pr_L Q 1495 [some (.ref b), some (.ref x), some (.ref m), some (.int (nI i))] [] τ) : wp 1000 pr_L Q 618 [some (.ref b), some (.ref x), some (.ref m), some (.int (nI i))] [] σ := by
  simp only [e_L_618, e_L_619, hx, hb, or_true, not_false_eq_true, true_and, and_self, List.length_nil, List.length_cons, Nat.zero_le]
  refine wc_imp (ob σ k [] rfl hk hI) ?_
  rintro r1 σ1 ⟨⟨⟨s1, s2, s3⟩, hm⟩, v, rfl, hw2⟩
  have hb1 : gK σ1 b = 26 := s1.trans hb
  simp only [Option.toList_some, List.singleton_append, e_L_622, e_L_623, hm, hb1, s3, or_true, not_false_eq_true, true_and, and_self, List.length_nil, List.length_cons, Nat.zero_le, Nat.reduceAdd, Nat.reduceLeDiff]
  refine wc_imp hw2 ?_
  rintro r2 σ2 ⟨rfl, hI2⟩
  simp only [Option.toList_some, List.singleton_append, e_L_626, not_true_eq_false, false_imp_iff, true_imp_iff, and_true]
  exact kk σ2 hI2
set_option maxHeartbeats 1000000 in
theorem lc_13 {Inv : gS → Nat → Prop} {Q : Option Value → gS → Prop} {b x m i k : Nat} {σ : gS} (hb : gK σ b = 26) (hx : gK σ x = 12) (hk : k < 512) (hI : Inv σ k) (ob : gOb Inv b x m 127 215 0)
    (kk : ∀ τ : gS, Inv τ (k + 1) → wp 1000 pr_L Q 1495 [some (.ref b), some (.ref x), some (.ref m), some (.int (nI i))] [] τ) : wp 1000 pr_L Q 631 [some (.ref b), some (.ref x), some (.ref m), some (.int (nI i))] [] σ := by
  simp only [e_L_631, e_L_632, hx, hb, or_true, not_false_eq_true, true_and, and_self, List.length_nil, List.length_cons, Nat.zero_le]
  refine wc_imp (ob σ k [] rfl hk hI) ?_
  rintro r1 σ1 ⟨⟨⟨s1, s2, s3⟩, hm⟩, v, rfl, hw2⟩
  have hb1 : gK σ1 b = 26 := s1.trans hb
  simp only [Option.toList_some, List.singleton_append, e_L_635, e_L_636, hm, hb1, s3, or_true, not_false_eq_true, true_and, and_self, List.length_nil, List.length_cons, Nat.zero_le, Nat.reduceAdd, Nat.reduceLeDiff]
  refine wc_imp hw2 ?_
  rintro r2 σ2 ⟨rfl, hI2⟩
  simp only [Option.toList_some, List.singleton_append, e_L_639, not_true_eq_false, false_imp_iff, true_imp_iff, and_true]
  exact kk σ2 hI2
set_option maxHeartbeats 1000000 in
theorem lc_14 {Inv : gS → Nat → Prop} {Q : Option Value → gS → Prop} {b x m i k : Nat} {σ : gS} (hb : gK σ b = 26) (hx : gK σ x = 12) (h1 : ¬ nI i + 1 < 0) (g1 : (nI i + 1).toNatClampNeg < gN σ b) (hk : k < 512) (hI : Inv σ k) (ob : gOb Inv b x m 128 216 1)
    (kk : ∀ τ : gS, Inv τ (k + 1) → wp 1000 pr_L Q 1495 [some (.ref b), some (.ref x), some (.ref m), some (.int (nI i))] [] τ) : wp 1000 pr_L Q 644 [some (.ref b), some (.ref x), some (.ref m), some (.int (nI i))] [] σ := by
  simp only [e_L_644, e_L_645, e_L_646, e_L_647, e_L_648, e_L_649, e_L_650, hx, hb, h1, g1, or_true, not_false_eq_true, true_and, and_self, List.length_nil, List.length_cons, Nat.zero_le]
  refine wc_imp (ob σ k [gI σ b (nI i + 1).toNatClampNeg] rfl hk hI) ?_
  rintro r1 σ1 ⟨⟨⟨s1, s2, s3⟩, hm⟩, v, rfl, hw2⟩
  have hb1 : gK σ1 b = 26 := s1.trans hb
  have g11 : (nI i + 1).toNatClampNeg < gN σ1 b := by rw [s2]; exact g1
  simp only [Option.toList_some, List.singleton_append, e_L_653, e_L_654, e_L_655, e_L_656, e_L_657, e_L_658, e_L_659, hm, hb1, s3, h1, g11, or_true, not_false_eq_true, true_and, and_self, List.length_nil, List.length_cons, Nat.zero_le, Nat.reduceAdd, Nat.reduceLeDiff]
  refine wc_imp hw2 ?_
  rintro r2 σ2 ⟨rfl, hI2⟩
  simp only [Option.toList_some, List.singleton_append, e_L_662, not_true_eq_false, false_imp_iff, true_imp_iff, and_true]
  exact kk σ2 hI2
set_option maxHeartbeats 1000000 in
theorem lc_15 {Inv : gS → Nat → Prop} {Q : Option Value → gS → Prop} {b x m i k : Nat} {σ : gS} (hb : gK σ b = 26) (hx : gK σ x = 12) (h1 : ¬ nI i + 1 < 0) (g1 : (nI i + 1).toNatClampNeg < gN σ b) (h2 : ¬ nI i + 2 < 0) (g2 : (nI i + 2).toNatClampNeg < gN σ b) (hk : k < 512) (hI : Inv σ k) (ob : gOb Inv b x m 129 232 2)
    (kk : ∀ τ : gS, Inv τ (k + 1) → wp 1000 pr_L Q 1495 [some (.ref b), some (.ref x), some (.ref m), some (.int (nI i))] [] τ) : wp 1000 pr_L Q 667 [some (.ref b), some (.ref x), some (.ref m), some (.int (nI i))] [] σ := by
  simp only [e_L_667, e_L_668, e_L_669, e_L_670, e_L_671, e_L_672, e_L_673, e_L_674, e_L_675, e_L_676, e_L_677, e_L_678, hx, hb, h1, g1, h2, g2, or_true, not_false_eq_true, true_and, and_self, List.length_nil, List.length_cons, Nat.zero_le]
  refine wc_imp (ob σ k [gI σ b (nI i + 1).toNatClampNeg, gI σ b (nI i + 2).toNatClampNeg] rfl hk hI) ?_
  rintro r1 σ1 ⟨⟨⟨s1, s2, s3⟩, hm⟩, v, rfl, hw2⟩
  have hb1 : gK σ1 b = 26 := s1.trans hb
  have g11 : (nI i + 1).toNatClampNeg < gN σ1 b := by rw [s2]; exact g1
  have g21 : (nI i + 2).toNatClampNeg < gN σ1 b := by rw [s2]; exact g2
  simp only [Option.toList_some, List.singleton_append, e_L_681, e_L_682, e_L_683, e_L_684, e_L_685, e_L_686, e_L_687, e_L_688, e_L_689, e_L_690, e_L_691, e_L_692, hm, hb1, s3, h1, g11, h2, g21, or_true, not_false_eq_true, true_and, and_self, List.length_nil, List.length_cons, Nat.zero_le, Nat.reduceAdd, Nat.reduceLeDiff]
  refine wc_imp hw2 ?_
  rintro r2 σ2 ⟨rfl, hI2⟩
  simp only [Option.toList_some, List.singleton_append, e_L_695, not_true_eq_false, false_imp_iff, true_imp_iff, and_true]
  exact kk σ2 hI2
set_option maxHeartbeats 1000000 in
theorem lc_16 {Inv : gS → Nat → Prop} {Q : Option Value → gS → Prop} {b x m i k : Nat} {σ : gS} (hb : gK σ b = 26) (hx : gK σ x = 12) (h1 : ¬ nI i + 1 < 0) (g1 : (nI i + 1).toNatClampNeg < gN σ b) (h2 : ¬ nI i + 2 < 0) (g2 : (nI i + 2).toNatClampNeg < gN σ b) (h3 : ¬ nI i + 3 < 0) (g3 : (nI i + 3).toNatClampNeg < gN σ b) (hk : k < 512) (hI : Inv σ k) (ob : gOb Inv b x m 130 235 3)
    (kk : ∀ τ : gS, Inv τ (k + 1) → wp 1000 pr_L Q 1495 [some (.ref b), some (.ref x), some (.ref m), some (.int (nI i))] [] τ) : wp 1000 pr_L Q 700 [some (.ref b), some (.ref x), some (.ref m), some (.int (nI i))] [] σ := by
  simp only [e_L_700, e_L_701, e_L_702, e_L_703, e_L_704, e_L_705, e_L_706, e_L_707, e_L_708, e_L_709, e_L_710, e_L_711, e_L_712, e_L_713, e_L_714, e_L_715, e_L_716, hx, hb, h1, g1, h2, g2, h3, g3, or_true, not_false_eq_true, true_and, and_self, List.length_nil, List.length_cons, Nat.zero_le]
  refine wc_imp (ob σ k [gI σ b (nI i + 1).toNatClampNeg, gI σ b (nI i + 2).toNatClampNeg, gI σ b (nI i + 3).toNatClampNeg] rfl hk hI) ?_
  rintro r1 σ1 ⟨⟨⟨s1, s2, s3⟩, hm⟩, v, rfl, hw2⟩
  have hb1 : gK σ1 b = 26 := s1.trans hb
  have g11 : (nI i + 1).toNatClampNeg < gN σ1 b := by rw [s2]; exact g1
  have g21 : (nI i + 2).toNatClampNeg < gN σ1 b := by rw [s2]; exact g2
  have g31 : (nI i + 3).toNatClampNeg < gN σ1 b := by rw [s2]; exact g3
  simp only [Option.toList_some, List.singleton_append, e_L_719, e_L_720, e_L_721, e_L_722, e_L_723, e_L_724, e_L_725, e_L_726, e_L_727, e_L_728, e_L_729, e_L_730, e_L_731, e_L_732, e_L_733, e_L_734, e_L_735, hm, hb1, s3, h1, g11, h2, g21, h3, g31, or_true, not_false_eq_true, true_and, and_self, List.length_nil, List.length_cons, Nat.zero_le, Nat.reduceAdd, Nat.reduceLeDiff]
  refine wc_imp hw2 ?_
  rintro r2 σ2 ⟨rfl, hI2⟩
  simp only [Option.toList_some, List.singleton_append, e_L_738, not_true_eq_false, false_imp_iff, true_imp_iff, and_true]
  exact kk σ2 hI2
set_option maxHeartbeats 1000000 in
theorem lc_17 {Inv : gS → Nat → Prop} {Q : Option Value → gS → Prop} {b x m i k : Nat} {σ : gS} (hb : gK σ b = 26) (hx : gK σ x = 12) (h1 : ¬ nI i + 1 < 0) (g1 : (nI i + 1).toNatClampNeg < gN σ b) (hk : k < 512) (hI : Inv σ k) (ob : gOb Inv b x m 131 236 1)
    (kk : ∀ τ : gS, Inv τ (k + 1) → wp 1000 pr_L Q 1495 [some (.ref b), some (.ref x), some (.ref m), some (.int (nI i))] [] τ) : wp 1000 pr_L Q 743 [some (.ref b), some (.ref x), some (.ref m), some (.int (nI i))] [] σ := by
  simp only [e_L_743, e_L_744, e_L_745, e_L_746, e_L_747, e_L_748, e_L_749, hx, hb, h1, g1, or_true, not_false_eq_true, true_and, and_self, List.length_nil, List.length_cons, Nat.zero_le]
  refine wc_imp (ob σ k [gI σ b (nI i + 1).toNatClampNeg] rfl hk hI) ?_
  rintro r1 σ1 ⟨⟨⟨s1, s2, s3⟩, hm⟩, v, rfl, hw2⟩
  have hb1 : gK σ1 b = 26 := s1.trans hb
  have g11 : (nI i + 1).toNatClampNeg < gN σ1 b := by rw [s2]; exact g1
  simp only [Option.toList_some, List.singleton_append, e_L_752, e_L_753, e_L_754, e_L_755, e_L_756, e_L_757, e_L_758, hm, hb1, s3, h1, g11, or_true, not_false_eq_true, true_and, and_self, List.length_nil, List.length_cons, Nat.zero_le, Nat.reduceAdd, Nat.reduceLeDiff]
  refine wc_imp hw2 ?_
  rintro r2 σ2 ⟨rfl, hI2⟩
  simp only [Option.toList_some, List.singleton_append, e_L_761, not_true_eq_false, false_imp_iff, true_imp_iff, and_true]
  exact kk σ2 hI2
set_option maxHeartbeats 1000000 in
theorem lc_18 {Inv : gS → Nat → Prop} {Q : Option Value → gS → Prop} {b x m i k : Nat} {σ : gS} (hb : gK σ b = 26) (hx : gK σ x = 12) (h1 : ¬ nI i + 1 < 0) (g1 : (nI i + 1).toNatClampNeg < gN σ b) (h2 : ¬ nI i + 2 < 0) (g2 : (nI i + 2).toNatClampNeg < gN σ b) (h3 : ¬ nI i + 3 < 0) (g3 : (nI i + 3).toNatClampNeg < gN σ b) (hk : k < 512) (hI : Inv σ k) (ob : gOb Inv b x m 132 243 3)
    (kk : ∀ τ : gS, Inv τ (k + 1) → wp 1000 pr_L Q 1495 [some (.ref b), some (.ref x), some (.ref m), some (.int (nI i))] [] τ) : wp 1000 pr_L Q 766 [some (.ref b), some (.ref x), some (.ref m), some (.int (nI i))] [] σ := by
  simp only [e_L_766, e_L_767, e_L_768, e_L_769, e_L_770, e_L_771, e_L_772, e_L_773, e_L_774, e_L_775, e_L_776, e_L_777, e_L_778, e_L_779, e_L_780, e_L_781, e_L_782, hx, hb, h1, g1, h2, g2, h3, g3, or_true, not_false_eq_true, true_and, and_self, List.length_nil, List.length_cons, Nat.zero_le]
  refine wc_imp (ob σ k [gI σ b (nI i + 1).toNatClampNeg, gI σ b (nI i + 2).toNatClampNeg, gI σ b (nI i + 3).toNatClampNeg] rfl hk hI) ?_
  rintro r1 σ1 ⟨⟨⟨s1, s2, s3⟩, hm⟩, v, rfl, hw2⟩
  have hb1 : gK σ1 b = 26 := s1.trans hb
  have g11 : (nI i + 1).toNatClampNeg < gN σ1 b := by rw [s2]; exact g1
  have g21 : (nI i + 2).toNatClampNeg < gN σ1 b := by rw [s2]; exact g2
  have g31 : (nI i + 3).toNatClampNeg < gN σ1 b := by rw [s2]; exact g3
  simp only [Option.toList_some, List.singleton_append, e_L_785, e_L_786, e_L_787, e_L_788, e_L_789, e_L_790, e_L_791, e_L_792, e_L_793, e_L_794, e_L_795, e_L_796, e_L_797, e_L_798, e_L_799, e_L_800, e_L_801, hm, hb1, s3, h1, g11, h2, g21, h3, g31, or_true, not_false_eq_true, true_and, and_self, List.length_nil, List.length_cons, Nat.zero_le, Nat.reduceAdd, Nat.reduceLeDiff]
  refine wc_imp hw2 ?_
  rintro r2 σ2 ⟨rfl, hI2⟩
  simp only [Option.toList_some, List.singleton_append, e_L_804, not_true_eq_false, false_imp_iff, true_imp_iff, and_true]
  exact kk σ2 hI2
set_option maxHeartbeats 1000000 in
theorem lc_19 {Inv : gS → Nat → Prop} {Q : Option Value → gS → Prop} {b x m i k : Nat} {σ : gS} (hb : gK σ b = 26) (hx : gK σ x = 12) (h1 : ¬ nI i + 1 < 0) (g1 : (nI i + 1).toNatClampNeg < gN σ b) (h2 : ¬ nI i + 2 < 0) (g2 : (nI i + 2).toNatClampNeg < gN σ b) (h3 : ¬ nI i + 3 < 0) (g3 : (nI i + 3).toNatClampNeg < gN σ b) (hk : k < 512) (hI : Inv σ k) (ob : gOb Inv b x m 133 244 3)
    (kk : ∀ τ : gS, Inv τ (k + 1) → wp 1000 pr_L Q 1495 [some (.ref b), some (.ref x), some (.ref m), some (.int (nI i))] [] τ) : wp 1000 pr_L Q 809 [some (.ref b), some (.ref x), some (.ref m), some (.int (nI i))] [] σ := by
  simp only [e_L_809, e_L_810, e_L_811, e_L_812, e_L_813, e_L_814, e_L_815, e_L_816, e_L_817, e_L_818, e_L_819, e_L_820, e_L_821, e_L_822, e_L_823, e_L_824, e_L_825, hx, hb, h1, g1, h2, g2, h3, g3, or_true, not_false_eq_true, true_and, and_self, List.length_nil, List.length_cons, Nat.zero_le]
  refine wc_imp (ob σ k [gI σ b (nI i + 1).toNatClampNeg, gI σ b (nI i + 2).toNatClampNeg, gI σ b (nI i + 3).toNatClampNeg] rfl hk hI) ?_
  rintro r1 σ1 ⟨⟨⟨s1, s2, s3⟩, hm⟩, v, rfl, hw2⟩
  have hb1 : gK σ1 b = 26 := s1.trans hb
  have g11 : (nI i + 1).toNatClampNeg < gN σ1 b := by rw [s2]; exact g1
  have g21 : (nI i + 2).toNatClampNeg < gN σ1 b := by rw [s2]; exact g2
  have g31 : (nI i + 3).toNatClampNeg < gN σ1 b := by rw [s2]; exact g3
  simp only [Option.toList_some, List.singleton_append, e_L_828, e_L_829, e_L_830, e_L_831, e_L_832, e_L_833, e_L_834, e_L_835, e_L_836, e_L_837, e_L_838, e_L_839, e_L_840, e_L_841, e_L_842, e_L_843, e_L_844, hm, hb1, s3, h1, g11, h2, g21, h3, g31, or_true, not_false_eq_true, true_and, and_self, List.length_nil, List.length_cons, Nat.zero_le, Nat.reduceAdd, Nat.reduceLeDiff]
  refine wc_imp hw2 ?_
  rintro r2 σ2 ⟨rfl, hI2⟩
  simp only [Option.toList_some, List.singleton_append, e_L_847, not_true_eq_false, false_imp_iff, true_imp_iff, and_true]
  exact kk σ2 hI2
set_option maxHeartbeats 1000000 in
theorem lc_20 {Inv : gS → Nat → Prop} {Q : Option Value → gS → Prop} {b x m i k : Nat} {σ : gS} (hb : gK σ b = 26) (hx : gK σ x = 12) (h1 : ¬ nI i + 1 < 0) (g1 : (nI i + 1).toNatClampNeg < gN σ b) (hk : k < 512) (hI : Inv σ k) (ob : gOb Inv b x m 134 246 1)
    (kk : ∀ τ : gS, Inv τ (k + 1) → wp 1000 pr_L Q 1495 [some (.ref b), some (.ref x), some (.ref m), some (.int (nI i))] [] τ) : wp 1000 pr_L Q 852 [some (.ref b), some (.ref x), some (.ref m), some (.int (nI i))] [] σ := by
  simp only [e_L_852, e_L_853, e_L_854, e_L_855, e_L_856, e_L_857, e_L_858, hx, hb, h1, g1, or_true, not_false_eq_true, true_and, and_self, List.length_nil, List.length_cons, Nat.zero_le]
  refine wc_imp (ob σ k [gI σ b (nI i + 1).toNatClampNeg] rfl hk hI) ?_
  rintro r1 σ1 ⟨⟨⟨s1, s2, s3⟩, hm⟩, v, rfl, hw2⟩
  have hb1 : gK σ1 b = 26 := s1.trans hb
  have g11 : (nI i + 1).toNatClampNeg < gN σ1 b := by rw [s2]; exact g1
  simp only [Option.toList_some, List.singleton_append, e_L_861, e_L_862, e_L_863, e_L_864, e_L_865, e_L_866, e_L_867, hm, hb1, s3, h1, g11, or_true, not_false_eq_true, true_and, and_self, List.length_nil, List.length_cons, Nat.zero_le, Nat.reduceAdd, Nat.reduceLeDiff]
  refine wc_imp hw2 ?_
  rintro r2 σ2 ⟨rfl, hI2⟩
  simp only [Option.toList_some, List.singleton_append, e_L_870, not_true_eq_false, false_imp_iff, true_imp_iff, and_true]
  exact kk σ2 hI2
set_option maxHeartbeats 1000000 in
theorem lc_21 {Inv : gS → Nat → Prop} {Q : Option Value → gS → Prop} {b x m i k : Nat} {σ : gS} (hb : gK σ b = 26) (hx : gK σ x = 12) (h1 : ¬ nI i + 1 < 0) (g1 : (nI i + 1).toNatClampNeg < gN σ b) (h2 : ¬ nI i + 2 < 0) (g2 : (nI i + 2).toNatClampNeg < gN σ b) (hk : k < 512) (hI : Inv σ k) (ob : gOb Inv b x m 135 247 2)
    (kk : ∀ τ : gS, Inv τ (k + 1) → wp 1000 pr_L Q 1495 [some (.ref b), some (.ref x), some (.ref m), some (.int (nI i))] [] τ) : wp 1000 pr_L Q 875 [some (.ref b), some (.ref x), some (.ref m), some (.int (nI i))] [] σ := by
  simp only [e_L_875, e_L_876, e_L_877, e_L_878, e_L_879, e_L_880, e_L_881, e_L_882, e_L_883, e_L_884, e_L_885, e_L_886, hx, hb, h1, g1, h2, g2, or_true, not_false_eq_true, true_and, and_self, List.length_nil, List.length_cons, Nat.zero_le]
  refine wc_imp (ob σ k [gI σ b (nI i + 1).toNatClampNeg, gI σ b (nI i + 2).toNatClampNeg] rfl hk hI) ?_
  rintro r1 σ1 ⟨⟨⟨s1, s2, s3⟩, hm⟩, v, rfl, hw2⟩
  have hb1 : gK σ1 b = 26 := s1.trans hb
  have g11 : (nI i + 1).toNatClampNeg < gN σ1 b := by rw [s2]; exact g1
  have g21 : (nI i + 2).toNatClampNeg < gN σ1 b := by rw [s2]; exact g2
  simp only [Option.toList_some, List.singleton_append, e_L_889, e_L_890, e_L_891, e_L_892, e_L_893, e_L_894, e_L_895, e_L_896, e_L_897, e_L_898, e_L_899, e_L_900, hm, hb1, s3, h1, g11, h2, g21, or_true, not_false_eq_true, true_and, and_self, List.length_nil, List.length_cons, Nat.zero_le, Nat.reduceAdd, Nat.reduceLeDiff]
  refine wc_imp hw2 ?_
  rintro r2 σ2 ⟨rfl, hI2⟩
  simp only [Option.toList_some, List.singleton_append, e_L_903, not_true_eq_false, false_imp_iff, true_imp_iff, and_true]
  exact kk σ2 hI2
set_option maxHeartbeats 1000000 in
theorem lc_22 {Inv : gS → Nat → Prop} {Q : Option Value → gS → Prop} {b x m i k : Nat} {σ : gS} (hb : gK σ b = 26) (hx : gK σ x = 12) (h1 : ¬ nI i + 1 < 0) (g1 : (nI i + 1).toNatClampNeg < gN σ b) (h2 : ¬ nI i + 2 < 0) (g2 : (nI i + 2).toNatClampNeg < gN σ b) (h3 : ¬ nI i + 3 < 0) (g3 : (nI i + 3).toNatClampNeg < gN σ b) (hk : k < 512) (hI : Inv σ k) (ob : gOb Inv b x m 136 248 3)
    (kk : ∀ τ : gS, Inv τ (k + 1) → wp 1000 pr_L Q 1495 [some (.ref b), some (.ref x), some (.ref m), some (.int (nI i))] [] τ) : wp 1000 pr_L Q 908 [some (.ref b), some (.ref x), some (.ref m), some (.int (nI i))] [] σ := by
  simp only [e_L_908, e_L_909, e_L_910, e_L_911, e_L_912, e_L_913, e_L_914, e_L_915, e_L_916, e_L_917, e_L_918, e_L_919, e_L_920, e_L_921, e_L_922, e_L_923, e_L_924, hx, hb, h1, g1, h2, g2, h3, g3, or_true, not_false_eq_true, true_and, and_self, List.length_nil, List.length_cons, Nat.zero_le]
  refine wc_imp (ob σ k [gI σ b (nI i + 1).toNatClampNeg, gI σ b (nI i + 2).toNatClampNeg, gI σ b (nI i + 3).toNatClampNeg] rfl hk hI) ?_
  rintro r1 σ1 ⟨⟨⟨s1, s2, s3⟩, hm⟩, v, rfl, hw2⟩
  have hb1 : gK σ1 b = 26 := s1.trans hb
  have g11 : (nI i + 1).toNatClampNeg < gN σ1 b := by rw [s2]; exact g1
  have g21 : (nI i + 2).toNatClampNeg < gN σ1 b := by rw [s2]; exact g2
  have g31 : (nI i + 3).toNatClampNeg < gN σ1 b := by rw [s2]; exact g3
  simp only [Option.toList_some, List.singleton_append, e_L_927, e_L_928, e_L_929, e_L_930, e_L_931, e_L_932, e_L_933, e_L_934, e_L_935, e_L_936, e_L_937, e_L_938, e_L_939, e_L_940, e_L_941, e_L_942, e_L_943, hm, hb1, s3, h1, g11, h2, g21, h3, g31, or_true, not_false_eq_true, true_and, and_self, List.length_nil, List.length_cons, Nat.zero_le, Nat.reduceAdd, Nat.reduceLeDiff]
  refine wc_imp hw2 ?_
  rintro r2 σ2 ⟨rfl, hI2⟩
  simp only [Option.toList_some, List.singleton_append, e_L_946, not_true_eq_false, false_imp_iff, true_imp_iff, and_true]
  exact kk σ2 hI2
set_option maxHeartbeats 1000000 in
theorem lc_23 {Inv : gS → Nat → Prop} {Q : Option Value → gS → Prop} {b x m i k : Nat} {σ : gS} (hb : gK σ b = 26) (hx : gK σ x = 12) (h1 : ¬ nI i + 1 < 0) (g1 : (nI i + 1).toNatClampNeg < gN σ b) (h2 : ¬ nI i + 2 < 0) (g2 : (nI i + 2).toNatClampNeg < gN σ b) (h3 : ¬ nI i + 3 < 0) (g3 : (nI i + 3).toNatClampNeg < gN σ b) (hk : k < 512) (hI : Inv σ k) (ob : gOb Inv b x m 137 249 3)
    (kk : ∀ τ : gS, Inv τ (k + 1) → wp 1000 pr_L Q 1495 [some (.ref b), some (.ref x), some (.ref m), some (.int (nI i))] [] τ) : wp 1000 pr_L Q 951 [some (.ref b), some (.ref x), some (.ref m), some (.int (nI i))] [] σ := by
  simp only [e_L_951, e_L_952, e_L_953, e_L_954, e_L_955, e_L_956, e_L_957, e_L_958, e_L_959, e_L_960, e_L_961, e_L_962, e_L_963, e_L_964, e_L_965, e_L_966, e_L_967, hx, hb, h1, g1, h2, g2, h3, g3, or_true, not_false_eq_true, true_and, and_self, List.length_nil, List.length_cons, Nat.zero_le]
  refine wc_imp (ob σ k [gI σ b (nI i + 1).toNatClampNeg, gI σ b (nI i + 2).toNatClampNeg, gI σ b (nI i + 3).toNatClampNeg] rfl hk hI) ?_
  rintro r1 σ1 ⟨⟨⟨s1, s2, s3⟩, hm⟩, v, rfl, hw2⟩
  have hb1 : gK σ1 b = 26 := s1.trans hb
  have g11 : (nI i + 1).toNatClampNeg < gN σ1 b := by rw [s2]; exact g1
  have g21 : (nI i + 2).toNatClampNeg < gN σ1 b := by rw [s2]; exact g2
  have g31 : (nI i + 3).toNatClampNeg < gN σ1 b := by rw [s2]; exact g3
  simp only [Option.toList_some, List.singleton_append, e_L_970, e_L_971, e_L_972, e_L_973, e_L_974, e_L_975, e_L_976, e_L_977, e_L_978, e_L_979, e_L_980, e_L_981, e_L_982, e_L_983, e_L_984, e_L_985, e_L_986, hm, hb1, s3, h1, g11, h2, g21, h3, g31, or_true, not_false_eq_true, true_and, and_self, List.length_nil, List.length_cons, Nat.zero_le, Nat.reduceAdd, Nat.reduceLeDiff]
  refine wc_imp hw2 ?_
  rintro r2 σ2 ⟨rfl, hI2⟩
  simp only [Option.toList_some, List.singleton_append, e_L_989, not_true_eq_false, false_imp_iff, true_imp_iff, and_true]
  exact kk σ2 hI2
set_option maxHeartbeats 1000000 in
theorem lc_24 {Inv : gS → Nat → Prop} {Q : Option Value → gS → Prop} {b x m i k : Nat} {σ : gS} (hb : gK σ b = 26) (hx : gK σ x = 12) (hk : k < 512) (hI : Inv σ k) (ob : gOb Inv b x m 138 250 0)
    (kk : ∀ τ : gS, Inv τ (k + 1) → wp 1000 pr_L Q 1495 [some (.ref b), some (.ref x), some (.ref m), some (.int (nI i))] [] τ) : wp 1000 pr_L Q 994 [some (.ref b), some (.ref x), some (.ref m), some (.int (nI i))] [] σ := by
  simp only [e_L_994, e_L_995, hx, hb, or_true, not_false_eq_true, true_and, and_self, List.length_nil, List.length_cons, Nat.zero_le]
  refine wc_imp (ob σ k [] rfl hk hI) ?_
  rintro r1 σ1 ⟨⟨⟨s1, s2, s3⟩, hm⟩, v, rfl, hw2⟩
  have hb1 : gK σ1 b = 26 := s1.trans hb
  simp only [Option.toList_some, List.singleton_append, e_L_998, e_L_999, hm, hb1, s3, or_true, not_false_eq_true, true_and, and_self, List.length_nil, List.length_cons, Nat.zero_le, Nat.reduceAdd, Nat.reduceLeDiff]
  refine wc_imp hw2 ?_
  rintro r2 σ2 ⟨rfl, hI2⟩
  simp only [Option.toList_some, List.singleton_append, e_L_1002, not_true_eq_false, false_imp_iff, true_imp_iff, and_true]
  exact kk σ2 hI2
set_option maxHeartbeats 1000000 in
theorem lc_25 {Inv : gS → Nat → Prop} {Q : Option Value → gS → Prop} {b x m i k : Nat} {σ : gS} (hb : gK σ b = 26) (hx : gK σ x = 12) (h1 : ¬ nI i + 1 < 0) (g1 : (nI i + 1).toNatClampNeg < gN σ b) (hk : k < 512) (hI : Inv σ k) (ob : gOb Inv b x m 139 255 1)
    (kk : ∀ τ : gS, Inv τ (k + 1) → wp 1000 pr_L Q 1495 [some (.ref b), some (.ref x), some (.ref m), some (.int (nI i))] [] τ) : wp 1000 pr_L Q 1007 [some (.ref b), some (.ref x), some (.ref m), some (.int (nI i))] [] σ := by
  simp only [e_L_1007, e_L_1008, e_L_1009, e_L_1010, e_L_1011, e_L_1012, e_L_1013, hx, hb, h1, g1, or_true, not_false_eq_true, true_and, and_self, List.length_nil, List.length_cons, Nat.zero_le]
  refine wc_imp (ob σ k [gI σ b (nI i + 1).toNatClampNeg] rfl hk hI) ?_
  rintro r1 σ1 ⟨⟨⟨s1, s2, s3⟩, hm⟩, v, rfl, hw2⟩
  have hb1 : gK σ1 b = 26 := s1.trans hb
  have g11 : (nI i + 1).toNatClampNeg < gN σ1 b := by rw [s2]; exact g1
  simp only [Option.toList_some, List.singleton_append, e_L_1016, e_L_1017, e_L_1018, e_L_1019, e_L_1020, e_L_1021, e_L_1022, hm, hb1, s3, h1, g11, or_true, not_false_eq_true, true_and, and_self, List.length_nil, List.length_cons, Nat.zero_le, Nat.reduceAdd, Nat.reduceLeDiff]
  refine wc_imp hw2 ?_
  rintro r2 σ2 ⟨rfl, hI2⟩
  simp only [Option.toList_some, List.singleton_append, e_L_1025, not_true_eq_false, false_imp_iff, true_imp_iff, and_true]
  exact kk σ2 hI2
set_option maxHeartbeats 1000000 in
theorem lc_26 {Inv : gS → Nat → Prop} {Q : Option Value → gS → Prop} {b x m i k : Nat} {σ : gS} (hb : gK σ b = 26) (hx : gK σ x = 12) (h1 : ¬ nI i + 1 < 0) (g1 : (nI i + 1).toNatClampNeg < gN σ b) (h2 : ¬ nI i + 2 < 0) (g2 : (nI i + 2).toNatClampNeg < gN σ b) (hk : k < 512) (hI : Inv σ k) (ob : gOb Inv b x m 140 257 2)
    (kk : ∀ τ : gS, Inv τ (k + 1) → wp 1000 pr_L Q 1495 [some (.ref b), some (.ref x), some (.ref m), some (.int (nI i))] [] τ) : wp 1000 pr_L Q 1030 [some (.ref b), some (.ref x), some (.ref m), some (.int (nI i))] [] σ := by
  simp only [e_L_1030, e_L_1031, e_L_1032, e_L_1033, e_L_1034, e_L_1035, e_L_1036, e_L_1037, e_L_1038, e_L_1039, e_L_1040, e_L_1041, hx, hb, h1, g1, h2, g2, or_true, not_false_eq_true, true_and, and_self, List.length_nil, List.length_cons, Nat.zero_le]
  refine wc_imp (ob σ k [gI σ b (nI i + 1).toNatClampNeg, gI σ b (nI i + 2).toNatClampNeg] rfl hk hI) ?_
  rintro r1 σ1 ⟨⟨⟨s1, s2, s3⟩, hm⟩, v, rfl, hw2⟩
  have hb1 : gK σ1 b = 26 := s1.trans hb
  have g11 : (nI i + 1).toNatClampNeg < gN σ1 b := by rw [s2]; exact g1
  have g21 : (nI i + 2).toNatClampNeg < gN σ1 b := by rw [s2]; exact g2
  simp only [Option.toList_some, List.singleton_append, e_L_1044, e_L_1045, e_L_1046, e_L_1047, e_L_1048, e_L_1049, e_L_1050, e_L_1051, e_L_1052, e_L_1053, e_L_1054, e_L_1055, hm, hb1, s3, h1, g11, h2, g21, or_true, not_false_eq_true, true_and, and_self, List.length_nil, List.length_cons, Nat.zero_le, Nat.reduceAdd, Nat.reduceLeDiff]
  refine wc_imp hw2 ?_
  rintro r2 σ2 ⟨rfl, hI2⟩
  simp only [Option.toList_some, List.singleton_append, e_L_1058, not_true_eq_false, false_imp_iff, true_imp_iff, and_true]
  exact kk σ2 hI2
set_option maxHeartbeats 1000000 in
theorem lc_27 {Inv : gS → Nat → Prop} {Q : Option Value → gS → Prop} {b x m i k : Nat} {σ : gS} (hb : gK σ b = 26) (hx : gK σ x = 12) (h1 : ¬ nI i + 1 < 0) (g1 : (nI i + 1).toNatClampNeg < gN σ b) (h2 : ¬ nI i + 2 < 0) (g2 : (nI i + 2).toNatClampNeg < gN σ b) (hk : k < 512) (hI : Inv σ k) (ob : gOb Inv b x m 141 258 2)
    (kk : ∀ τ : gS, Inv τ (k + 1) → wp 1000 pr_L Q 1495 [some (.ref b), some (.ref x), some (.ref m), some (.int (nI i))] [] τ) : wp 1000 pr_L Q 1063 [some (.ref b), some (.ref x), some (.ref m), some (.int (nI i))] [] σ := by
  simp only [e_L_1063, e_L_1064, e_L_1065, e_L_1066, e_L_1067, e_L_1068, e_L_1069, e_L_1070, e_L_1071, e_L_1072, e_L_1073, e_L_1074, hx, hb, h1, g1, h2, g2, or_true, not_false_eq_true, true_and, and_self, List.length_nil, List.length_cons, Nat.zero_le]
  refine wc_imp (ob σ k [gI σ b (nI i + 1).toNatClampNeg, gI σ b (nI i + 2).toNatClampNeg] rfl hk hI) ?_
  rintro r1 σ1 ⟨⟨⟨s1, s2, s3⟩, hm⟩, v, rfl, hw2⟩
  have hb1 : gK σ1 b = 26 := s1.trans hb
  have g11 : (nI i + 1).toNatClampNeg < gN σ1 b := by rw [s2]; exact g1
  have g21 : (nI i + 2).toNatClampNeg < gN σ1 b := by rw [s2]; exact g2
  simp only [Option.toList_some, List.singleton_append, e_L_1077, e_L_1078, e_L_1079, e_L_1080, e_L_1081, e_L_1082, e_L_1083, e_L_1084, e_L_1085, e_L_1086, e_L_1087, e_L_1088, hm, hb1, s3, h1, g11, h2, g21, or_true, not_false_eq_true, true_and, and_self, List.length_nil, List.length_cons, Nat.zero_le, Nat.reduceAdd, Nat.reduceLeDiff]
  refine wc_imp hw2 ?_
  rintro r2 σ2 ⟨rfl, hI2⟩
  simp only [Option.toList_some, List.singleton_append, e_L_1091, not_true_eq_false, false_imp_iff, true_imp_iff, and_true]
  exact kk σ2 hI2
set_option maxHeartbeats 1000000 in
theorem lc_28 {Inv : gS → Nat → Prop} {Q : Option Value → gS → Prop} {b x m i k : Nat} {σ : gS} (hb : gK σ b = 26) (hx : gK σ x = 12) (hk : k < 512) (hI : Inv σ k) (ob : gOb Inv b x m 142 259 0)
    (kk : ∀ τ : gS, Inv τ (k + 1) → wp 1000 pr_L Q 1495 [some (.ref b), some (.ref x), some (.ref m), some (.int (nI i))] [] τ) : wp 1000 pr_L Q 1096 [some (.ref b), some (.ref x), some (.ref m), some (.int (nI i))] [] σ := by
  simp only [e_L_1096, e_L_1097, hx, hb, or_true, not_false_eq_true, true_and, and_self, List.length_nil, List.length_cons, Nat.zero_le]
  refine wc_imp (ob σ k [] rfl hk hI) ?_
  rintro r1 σ1 ⟨⟨⟨s1, s2, s3⟩, hm⟩, v, rfl, hw2⟩
  have hb1 : gK σ1 b = 26 := s1.trans hb
  simp only [Option.toList_some, List.singleton_append, e_L_1100, e_L_1101, hm, hb1, s3, or_true, not_false_eq_true, true_and, and_self, List.length_nil, List.length_cons, Nat.zero_le, Nat.reduceAdd, Nat.reduceLeDiff]
  refine wc_imp hw2 ?_
  rintro r2 σ2 ⟨rfl, hI2⟩
  simp only [Option.toList_some, List.singleton_append, e_L_1104, not_true_eq_false, false_imp_iff, true_imp_iff, and_true]
  exact kk σ2 hI2
set_option maxHeartbeats 1000000 in
theorem lc_29 {Inv : gS → Nat → Prop} {Q : Option Value → gS → Prop} {b x m i k : Nat} {σ : gS} (hb : gK σ b = 26) (hx : gK σ x = 12) (h1 : ¬ nI i + 1 < 0) (g1 : (nI i + 1).toNatClampNeg < gN σ b) (hk : k < 512) (hI : Inv σ k) (ob : gOb Inv b x m 143 261 1)
    (kk : ∀ τ : gS, Inv τ (k + 1) → wp 1000 pr_L Q 1495 [some (.ref b), some (.ref x), some (.ref m), some (.int (nI i))] [] τ) : wp 1000 pr_L Q 1109 [some (.ref b), some (.ref x), some (.ref m), some (.int (nI i))] [] σ := by
  simp only [e_L_1109, e_L_1110, e_L_1111, e_L_1112, e_L_1113, e_L_1114, e_L_1115, hx, hb, h1, g1, or_true, not_false_eq_true, true_and, and_self, List.length_nil, List.length_cons, Nat.zero_le]
  refine wc_imp (ob σ k [gI σ b (nI i + 1).toNatClampNeg] rfl hk hI) ?_
  rintro r1 σ1 ⟨⟨⟨s1, s2, s3⟩, hm⟩, v, rfl, hw2⟩
  have hb1 : gK σ1 b = 26 := s1.trans hb
  have g11 : (nI i + 1).toNatClampNeg < gN σ1 b := by rw [s2]; exact g1
  simp only [Option.toList_some, List.singleton_append, e_L_1118, e_L_1119, e_L_1120, e_L_1121, e_L_1122, e_L_1123, e_L_1124, hm, hb1, s3, h1, g11, or_true, not_false_eq_true, true_and, and_self, List.length_nil, List.length_cons, Nat.zero_le, Nat.reduceAdd, Nat.reduceLeDiff]
  refine wc_imp hw2 ?_
  rintro r2 σ2 ⟨rfl, hI2⟩
  simp only [Option.toList_some, List.singleton_append, e_L_1127, not_true_eq_false, false_imp_iff, true_imp_iff, and_true]
  exact kk σ2 hI2
set_option maxHeartbeats 1000000 in
theorem lc_30 {Inv : gS → Nat → Prop} {Q : Option Value → gS → Prop} {b x m i k : Nat} {σ : gS} (hb : gK σ b = 26) (hx : gK σ x = 12) (h1 : ¬ nI i + 1 < 0) (g1 : (nI i + 1).toNatClampNeg < gN σ b) (h2 : ¬ nI i + 2 < 0) (g2 : (nI i + 2).toNatClampNeg < gN σ b) (hk : k < 512) (hI : Inv σ k) (ob : gOb Inv b x m 144 262 2)
    (kk : ∀ τ : gS, Inv τ (k + 1) → wp 1000 pr_L Q 1495 [some (.ref b), some (.ref x), some (.ref m), some (.int (nI i))] [] τ) : wp 1000 pr_L Q 1132 [some (.ref b), some (.ref x), some (.ref m), some (.int (nI i))] [] σ := by
  simp only [e_L_1132, e_L_1133, e_L_1134, e_L_1135, e_L_1136, e_L_1137, e_L_1138, e_L_1139, e_L_1140, e_L_1141, e_L_1142, e_L_1143, hx, hb, h1, g1, h2, g2, or_true, not_false_eq_true, true_and, and_self, List.length_nil, List.length_cons, Nat.zero_le]
  refine wc_imp (ob σ k [gI σ b (nI i + 1).toNatClampNeg, gI σ b (nI i + 2).toNatClampNeg] rfl hk hI) ?_
  rintro r1 σ1 ⟨⟨⟨s1, s2, s3⟩, hm⟩, v, rfl, hw2⟩
  have hb1 : gK σ1 b = 26 := s1.trans hb
  have g11 : (nI i + 1).toNatClampNeg < gN σ1 b := by rw [s2]; exact g1
  have g21 : (nI i + 2).toNatClampNeg < gN σ1 b := by rw [s2]; exact g2
  simp only [Option.toList_some, List.singleton_append, e_L_1146, e_L_1147, e_L_1148, e_L_1149, e_L_1150, e_L_1151, e_L_1152, e_L_1153, e_L_1154, e_L_1155, e_L_1156, e_L_1157, hm, hb1, s3, h1, g11, h2, g21, or_true, not_false_eq_true, true_and, and_self, List.length_nil, List.length_cons, Nat.zero_le, Nat.reduceAdd, Nat.reduceLeDiff]
  refine wc_imp hw2 ?_
  rintro r2 σ2 ⟨rfl, hI2⟩
  simp only [Option.toList_some, List.singleton_append, e_L_1160, not_true_eq_false, false_imp_iff, true_imp_iff, and_true]
  exact kk σ2 hI2
set_option maxHeartbeats 1000000 in
theorem lc_31 {Inv : gS → Nat → Prop} {Q : Option Value → gS → Prop} {b x m i k : Nat} {σ : gS} (hb : gK σ b = 26) (hx : gK σ x = 12) (h1 : ¬ nI i + 1 < 0) (g1 : (nI i + 1).toNatClampNeg < gN σ b) (h2 : ¬ nI i + 2 < 0) (g2 : (nI i + 2).toNatClampNeg < gN σ b) (hk : k < 512) (hI : Inv σ k) (ob : gOb Inv b x m 145 266 2)
    (kk : ∀ τ : gS, Inv τ (k + 1) → wp 1000 pr_L Q 1495 [some (.ref b), some (.ref x), some (.ref m), some (.int (nI i))] [] τ) : wp 1000 pr_L Q 1165 [some (.ref b), some (.ref x), some (.ref m), some (.int (nI i))] [] σ := by
  simp only [e_L_1165, e_L_1166, e_L_1167, e_L_1168, e_L_1169, e_L_1170, e_L_1171, e_L_1172, e_L_1173, e_L_1174, e_L_1175, e_L_1176, hx, hb, h1, g1, h2, g2, or_true, not_false_eq_true, true_and, and_self, List.length_nil, List.length_cons, Nat.zero_le]
  refine wc_imp (ob σ k [gI σ b (nI i + 1).toNatClampNeg, gI σ b (nI i + 2).toNatClampNeg] rfl hk hI) ?_
  rintro r1 σ1 ⟨⟨⟨s1, s2, s3⟩, hm⟩, v, rfl, hw2⟩
  have hb1 : gK σ1 b = 26 := s1.trans hb
  have g11 : (nI i + 1).toNatClampNeg < gN σ1 b := by rw [s2]; exact g1
  have g21 : (nI i + 2).toNatClampNeg < gN σ1 b := by rw [s2]; exact g2
  simp only [Option.toList_some, List.singleton_append, e_L_1179, e_L_1180, e_L_1181, e_L_1182, e_L_1183, e_L_1184, e_L_1185, e_L_1186, e_L_1187, e_L_1188, e_L_1189, e_L_1190, hm, hb1, s3, h1, g11, h2, g21, or_true, not_false_eq_true, true_and, and_self, List.length_nil, List.length_cons, Nat.zero_le, Nat.reduceAdd, Nat.reduceLeDiff]
  refine wc_imp hw2 ?_
  rintro r2 σ2 ⟨rfl, hI2⟩
  simp only [Option.toList_some, List.singleton_append, e_L_1193, not_true_eq_false, false_imp_iff, true_imp_iff, and_true]
  exact kk σ2 hI2
set_option maxHeartbeats 1000000 in
theorem lc_32 {Inv : gS → Nat → Prop} {Q : Option Value → gS → Prop} {b x m i k : Nat} {σ : gS} (hb : gK σ b = 26) (hx : gK σ x = 12) (h1 : ¬ nI i + 1 < 0) (g1 : (nI i + 1).toNatClampNeg < gN σ b) (h2 : ¬ nI i + 2 < 0) (g2 : (nI i + 2).toNatClampNeg < gN σ b) (h3 : ¬ nI i + 3 < 0) (g3 : (nI i + 3).toNatClampNeg < gN σ b) (hk : k < 512) (hI : Inv σ k) (ob : gOb Inv b x m 146 267 3)
    (kk : ∀ τ : gS, Inv τ (k + 1) → wp 1000 pr_L Q 1495 [some (.ref b), some (.ref x), some (.ref m), some (.int (nI i))] [] τ) : wp 1000 pr_L Q 1198 [some (.ref b), some (.ref x), some (.ref m), some (.int (nI i))] [] σ := by
  simp only [e_L_1198, e_L_1199, e_L_1200, e_L_1201, e_L_1202, e_L_1203, e_L_1204, e_L_1205, e_L_1206, e_L_1207, e_L_1208, e_L_1209, e_L_1210, e_L_1211, e_L_1212, e_L_1213, e_L_1214, hx, hb, h1, g1, h2, g2, h3, g3, or_true, not_false_eq_true, true_and, and_self, List.length_nil, List.length_cons, Nat.zero_le]
  refine wc_imp (ob σ k [gI σ b (nI i + 1).toNatClampNeg, gI σ b (nI i + 2).toNatClampNeg, gI σ b (nI i + 3).toNatClampNeg] rfl hk hI) ?_
  rintro r1 σ1 ⟨⟨⟨s1, s2, s3⟩, hm⟩, v, rfl, hw2⟩
  have hb1 : gK σ1 b = 26 := s1.trans hb
  have g11 : (nI i + 1).toNatClampNeg < gN σ1 b := by rw [s2]; exact g1
  have g21 : (nI i + 2).toNatClampNeg < gN σ1 b := by rw [s2]; exact g2
  have g31 : (nI i + 3).toNatClampNeg < gN σ1 b := by rw [s2]; exact g3
  simp only [Option.toList_some, List.singleton_append, e_L_1217, e_L_1218, e_L_1219, e_L_1220, e_L_1221, e_L_1222, e_L_1223, e_L_1224, e_L_1225, e_L_1226, e_L_1227, e_L_1228, e_L_1229, e_L_1230, e_L_1231, e_L_1232, e_L_1233, hm, hb1, s3, h1, g11, h2, g21, h3, g31, or_true, not_false_eq_true, true_and, and_self, List.length_nil, List.length_cons, Nat.zero_le, Nat.reduceAdd, Nat.reduceLeDiff]
  refine wc_imp hw2 ?_
  rintro r2 σ2 ⟨rfl, hI2⟩
  simp only [Option.toList_some, List.singleton_append, e_L_1236, not_true_eq_false, false_imp_iff, true_imp_iff, and_true]
  exact kk σ2 hI2
set_option maxHeartbeats 1000000 in
theorem lc_33 {Inv : gS → Nat → Prop} {Q : Option Value → gS → Prop} {b x m i k : Nat} {σ : gS} (hb : gK σ b = 26) (hx : gK σ x = 12) (h1 : ¬ nI i + 1 < 0) (g1 : (nI i + 1).toNatClampNeg < gN σ b) (h2 : ¬ nI i + 2 < 0) (g2 : (nI i + 2).toNatClampNeg < gN σ b) (h3 : ¬ nI i + 3 < 0) (g3 : (nI i + 3).toNatClampNeg < gN σ b) (hk : k < 512) (hI : Inv σ k) (ob : gOb Inv b x m 147 268 3)
    (kk : ∀ τ : gS, Inv τ (k + 1) → wp 1000 pr_L Q 1495 [some (.ref b), some (.ref x), some (.ref m), some (.int (nI i))] [] τ) : wp 1000 pr_L Q 1241 [some (.ref b), some (.ref x), some (.ref m), some (.int (nI i))] [] σ := by
  simp only [e_L_1241, e_L_1242, e_L_1243, e_L_1244, e_L_1245, e_L_1246, e_L_1247, e_L_1248, e_L_1249, e_L_1250, e_L_1251, e_L_1252, e_L_1253, e_L_1254, e_L_1255, e_L_1256, e_L_1257, hx, hb, h1, g1, h2, g2, h3, g3, or_true, not_false_eq_true, true_and, and_self, List.length_nil, List.length_cons, Nat.zero_le]
  refine wc_imp (ob σ k [gI σ b (nI i + 1).toNatClampNeg, gI σ b (nI i + 2).toNatClampNeg, gI σ b (nI i + 3).toNatClampNeg] rfl hk hI) ?_
  rintro r1 σ1 ⟨⟨⟨s1, s2, s3⟩, hm⟩, v, rfl, hw2⟩
  have hb1 : gK σ1 b = 26 := s1.trans hb
  have g11 : (nI i + 1).toNatClampNeg < gN σ1 b := by rw [s2]; exact g1
  have g21 : (nI i + 2).toNatClampNeg < gN σ1 b := by rw [s2]; exact g2
  have g31 : (nI i + 3).toNatClampNeg < gN σ1 b := by rw [s2]; exact g3
  simp only [Option.toList_some, List.singleton_append, e_L_1260, e_L_1261, e_L_1262, e_L_1263, e_L_1264, e_L_1265, e_L_1266, e_L_1267, e_L_1268, e_L_1269, e_L_1270, e_L_1271, e_L_1272, e_L_1273, e_L_1274, e_L_1275, e_L_1276, hm, hb1, s3, h1, g11, h2, g21, h3, g31, or_true, not_false_eq_true, true_and, and_self, List.length_nil, List.length_cons, Nat.zero_le, Nat.reduceAdd, Nat.reduceLeDiff]
  refine wc_imp hw2 ?_
  rintro r2 σ2 ⟨rfl, hI2⟩
  simp only [Option.toList_some, List.singleton_append, e_L_1279, not_true_eq_false, false_imp_iff, true_imp_iff, and_true]
  exact kk σ2 hI2
set_option maxHeartbeats 1000000 in
theorem lc_34 {Inv : gS → Nat → Prop} {Q : Option Value → gS → Prop} {b x m i k : Nat} {σ : gS} (hb : gK σ b = 26) (hx : gK σ x = 12) (h1 : ¬ nI i + 1 < 0) (g1 : (nI i + 1).toNatClampNeg < gN σ b) (h2 : ¬ nI i + 2 < 0) (g2 : (nI i + 2).toNatClampNeg < gN σ b) (h3 : ¬ nI i + 3 < 0) (g3 : (nI i + 3).toNatClampNeg < gN σ b) (h4 : ¬ nI i + 4 < 0) (g4 : (nI i + 4).toNatClampNeg < gN σ b) (h5 : ¬ nI i + 5 < 0) (g5 : (nI i + 5).toNatClampNeg < gN σ b) (hk : k < 512) (hI : Inv σ k) (ob : gOb Inv b x m 148 269 5)
    (kk : ∀ τ : gS, Inv τ (k + 1) → wp 1000 pr_L Q 1495 [some (.ref b), some (.ref x), some (.ref m), some (.int (nI i))] [] τ) : wp 1000 pr_L Q 1284 [some (.ref b), some (.ref x), some (.ref m), some (.int (nI i))] [] σ := by
  simp only [e_L_1284, e_L_1285, e_L_1286, e_L_1287, e_L_1288, e_L_1289, e_L_1290, e_L_1291, e_L_1292, e_L_1293, e_L_1294, e_L_1295, e_L_1296, e_L_1297, e_L_1298, e_L_1299, e_L_1300, e_L_1301, e_L_1302, e_L_1303, e_L_1304, e_L_1305, e_L_1306, e_L_1307, e_L_1308, e_L_1309, e_L_1310, hx, hb, h1, g1, h2, g2, h3, g3, h4, g4, h5, g5, or_true, not_false_eq_true, true_and, and_self, List.length_nil, List.length_cons, Nat.zero_le]
  refine wc_imp (ob σ k [gI σ b (nI i + 1).toNatClampNeg, gI σ b (nI i + 2).toNatClampNeg, gI σ b (nI i + 3).toNatClampNeg, gI σ b (nI i + 4).toNatClampNeg, gI σ b (nI i + 5).toNatClampNeg] rfl hk hI) ?_
  rintro r1 σ1 ⟨⟨⟨s1, s2, s3⟩, hm⟩, v, rfl, hw2⟩
  have hb1 : gK σ1 b = 26 := s1.trans hb
  have g11 : (nI i + 1).toNatClampNeg < gN σ1 b := by rw [s2]; exact g1
  have g21 : (nI i + 2).toNatClampNeg < gN σ1 b := by rw [s2]; exact g2
  have g31 : (nI i + 3).toNatClampNeg < gN σ1 b := by rw [s2]; exact g3
  have g41 : (nI i + 4).toNatClampNeg < gN σ1 b := by rw [s2]; exact g4
  have g51 : (nI i + 5).toNatClampNeg < gN σ1 b := by rw [s2]; exact g5
  simp only [Option.toList_some, List.singleton_append, e_L_1313, e_L_1314, e_L_1315, e_L_1316, e_L_1317, e_L_1318, e_L_1319, e_L_1320, e_L_1321, e_L_1322, e_L_1323, e_L_1324, e_L_1325, e_L_1326, e_L_1327, e_L_1328, e_L_1329, e_L_1330, e_L_1331, e_L_1332, e_L_1333, e_L_1334, e_L_1335, e_L_1336, e_L_1337, e_L_1338, e_L_1339, hm, hb1, s3, h1, g11, h2, g21, h3, g31, h4, g41, h5, g51, or_true, not_false_eq_true, true_and, and_self, List.length_nil, List.length_cons, Nat.zero_le, Nat.reduceAdd, Nat.reduceLeDiff]
  refine wc_imp hw2 ?_
  rintro r2 σ2 ⟨rfl, hI2⟩
  simp only [Option.toList_some, List.singleton_append, e_L_1342, not_true_eq_false, false_imp_iff, true_imp_iff, and_true]
  exact kk σ2 hI2
set_option maxHeartbeats 1000000 in
theorem lc_35 {Inv : gS → Nat → Prop} {Q : Option Value → gS → Prop} {b x m i k : Nat} {σ : gS} (hb : gK σ b = 26) (hx : gK σ x = 12) (h1 : ¬ nI i + 1 < 0) (g1 : (nI i + 1).toNatClampNeg < gN σ b) (h2 : ¬ nI i + 2 < 0) (g2 : (nI i + 2).toNatClampNeg < gN σ b) (hk : k < 512) (hI : Inv σ k) (ob : gOb Inv b x m 149 271 2)
    (kk : ∀ τ : gS, Inv τ (k + 1) → wp 1000 pr_L Q 1495 [some (.ref b), some (.ref x), some (.ref m), some (.int (nI i))] [] τ) : wp 1000 pr_L Q 1347 [some (.ref b), some (.ref x), some (.ref m), some (.int (nI i))] [] σ := by
  simp only [e_L_1347, e_L_1348, e_L_1349, e_L_1350, e_L_1351, e_L_1352, e_L_1353, e_L_1354, e_L_1355, e_L_1356, e_L_1357, e_L_1358, hx, hb, h1, g1, h2, g2, or_true, not_false_eq_true, true_and, and_self, List.length_nil, List.length_cons, Nat.zero_le]
  refine wc_imp (ob σ k [gI σ b (nI i + 1).toNatClampNeg, gI σ b (nI i + 2).toNatClampNeg] rfl hk hI) ?_
  rintro r1 σ1 ⟨⟨⟨s1, s2, s3⟩, hm⟩, v, rfl, hw2⟩
  have hb1 : gK σ1 b = 26 := s1.trans hb
  have g11 : (nI i + 1).toNatClampNeg < gN σ1 b := by rw [s2]; exact g1
  have g21 : (nI i + 2).toNatClampNeg < gN σ1 b := by rw [s2]; exact g2
  simp only [Option.toList_some, List.singleton_append, e_L_1361, e_L_1362, e_L_1363, e_L_1364, e_L_1365, e_L_1366, e_L_1367, e_L_1368, e_L_1369, e_L_1370, e_L_1371, e_L_1372, hm, hb1, s3, h1, g11, h2, g21, or_true, not_false_eq_true, true_and, and_self, List.length_nil, List.length_cons, Nat.zero_le, Nat.reduceAdd, Nat.reduceLeDiff]
  refine wc_imp hw2 ?_
  rintro r2 σ2 ⟨rfl, hI2⟩
  simp only [Option.toList_some, List.singleton_append, e_L_1375, not_true_eq_false, false_imp_iff, true_imp_iff, and_true]
  exact kk σ2 hI2
set_option maxHeartbeats 1000000 in
theorem lc_36 {Inv : gS → Nat → Prop} {Q : Option Value → gS → Prop} {b x m i k : Nat} {σ : gS} (hb : gK σ b = 26) (hx : gK σ x = 12) (h1 : ¬ nI i + 1 < 0) (g1 : (nI i + 1).toNatClampNeg < gN σ b) (h2 : ¬ nI i + 2 < 0) (g2 : (nI i + 2).toNatClampNeg < gN σ b) (hk : k < 512) (hI : Inv σ k) (ob : gOb Inv b x m 150 272 2)
    (kk : ∀ τ : gS, Inv τ (k + 1) → wp 1000 pr_L Q 1495 [some (.ref b), some (.ref x), some (.ref m), some (.int (nI i))] [] τ) : wp 1000 pr_L Q 1380 [some (.ref b), some (.ref x), some (.ref m), some (.int (nI i))] [] σ := by
  simp only [e_L_1380, e_L_1381, e_L_1382, e_L_1383, e_L_1384, e_L_1385, e_L_1386, e_L_1387, e_L_1388, e_L_1389, e_L_1390, e_L_1391, hx, hb, h1, g1, h2, g2, or_true, not_false_eq_true, true_and, and_self, List.length_nil, List.length_cons, Nat.zero_le]
  refine wc_imp (ob σ k [gI σ b (nI i + 1).toNatClampNeg, gI σ b (nI i + 2).toNatClampNeg] rfl hk hI) ?_
  rintro r1 σ1 ⟨⟨⟨s1, s2, s3⟩, hm⟩, v, rfl, hw2⟩
  have hb1 : gK σ1 b = 26 := s1.trans hb
  have g11 : (nI i + 1).toNatClampNeg < gN σ1 b := by rw [s2]; exact g1
  have g21 : (nI i + 2).toNatClampNeg < gN σ1 b := by rw [s2]; exact g2
  simp only [Option.toList_some, List.singleton_append, e_L_1394, e_L_1395, e_L_1396, e_L_1397, e_L_1398, e_L_1399, e_L_1400, e_L_1401, e_L_1402, e_L_1403, e_L_1404, e_L_1405, hm, hb1, s3, h1, g11, h2, g21, or_true, not_false_eq_true, true_and, and_self, List.length_nil, List.length_cons, Nat.zero_le, Nat.reduceAdd, Nat.reduceLeDiff]
  refine wc_imp hw2 ?_
  rintro r2 σ2 ⟨rfl, hI2⟩
  simp only [Option.toList_some, List.singleton_append, e_L_1408, not_true_eq_false, false_imp_iff, true_imp_iff, and_true]
  exact kk σ2 hI2
set_option maxHeartbeats 1000000 in
theorem lc_37 {Inv : gS → Nat → Prop} {Q : Option Value → gS → Prop} {b x m i k : Nat} {σ : gS} (hb : gK σ b = 26) (hx : gK σ x = 12) (h1 : ¬ nI i + 1 < 0) (g1 : (nI i + 1).toNatClampNeg < gN σ b) (hk : k < 512) (hI : Inv σ k) (ob : gOb Inv b x m 151 169 1)
    (kk : ∀ τ : gS, Inv τ (k + 1) → wp 1000 pr_L Q 1495 [some (.ref b), some (.ref x), some (.ref m), some (.int (nI i))] [] τ) : wp 1000 pr_L Q 1413 [some (.ref b), some (.ref x), some (.ref m), some (.int (nI i))] [] σ := by
  simp only [e_L_1413, e_L_1414, e_L_1415, e_L_1416, e_L_1417, e_L_1418, e_L_1419, hx, hb, h1, g1, or_true, not_false_eq_true, true_and, and_self, List.length_nil, List.length_cons, Nat.zero_le]
  refine wc_imp (ob σ k [gI σ b (nI i + 1).toNatClampNeg] rfl hk hI) ?_
  rintro r1 σ1 ⟨⟨⟨s1, s2, s3⟩, hm⟩, v, rfl, hw2⟩
  have hb1 : gK σ1 b = 26 := s1.trans hb
  have g11 : (nI i + 1).toNatClampNeg < gN σ1 b := by rw [s2]; exact g1
  simp only [Option.toList_some, List.singleton_append, e_L_1422, e_L_1423, e_L_1424, e_L_1425, e_L_1426, e_L_1427, e_L_1428, hm, hb1, s3, h1, g11, or_true, not_false_eq_true, true_and, and_self, List.length_nil, List.length_cons, Nat.zero_le, Nat.reduceAdd, Nat.reduceLeDiff]
  refine wc_imp hw2 ?_
  rintro r2 σ2 ⟨rfl, hI2⟩
  simp only [Option.toList_some, List.singleton_append, e_L_1431, not_true_eq_false, false_imp_iff, true_imp_iff, and_true]
  exact kk σ2 hI2
set_option maxHeartbeats 1000000 in
theorem lc_38 {Inv : gS → Nat → Prop} {Q : Option Value → gS → Prop} {b x m i k : Nat} {σ : gS} (hb : gK σ b = 26) (hx : gK σ x = 12) (h1 : ¬ nI i + 1 < 0) (g1 : (nI i + 1).toNatClampNeg < gN σ b) (hk : k < 512) (hI : Inv σ k) (ob : gOb Inv b x m 152 170 1)
    (kk : ∀ τ : gS, Inv τ (k + 1) → wp 1000 pr_L Q 1495 [some (.ref b), some (.ref x), some (.ref m), some (.int (nI i))] [] τ) : wp 1000 pr_L Q 1436 [some (.ref b), some (.ref x), some (.ref m), some (.int (nI i))] [] σ := by
  simp only [e_L_1436, e_L_1437, e_L_1438, e_L_1439, e_L_1440, e_L_1441, e_L_1442, hx, hb, h1, g1, or_true, not_false_eq_true, true_and, and_self, List.length_nil, List.length_cons, Nat.zero_le]
  refine wc_imp (ob σ k [gI σ b (nI i + 1).toNatClampNeg] rfl hk hI) ?_
  rintro r1 σ1 ⟨⟨⟨s1, s2, s3⟩, hm⟩, v, rfl, hw2⟩
  have hb1 : gK σ1 b = 26 := s1.trans hb
  have g11 : (nI i + 1).toNatClampNeg < gN σ1 b := by rw [s2]; exact g1
  simp only [Option.toList_some, List.singleton_append, e_L_1445, e_L_1446, e_L_1447, e_L_1448, e_L_1449, e_L_1450, e_L_1451, hm, hb1, s3, h1, g11, or_true, not_false_eq_true, true_and, and_self, List.length_nil, List.length_cons, Nat.zero_le, Nat.reduceAdd, Nat.reduceLeDiff]
  refine wc_imp hw2 ?_
  rintro r2 σ2 ⟨rfl, hI2⟩
  simp only [Option.toList_some, List.singleton_append, e_L_1454, not_true_eq_false, false_imp_iff, true_imp_iff, and_true]
  exact kk σ2 hI2
set_option maxHeartbeats 1000000 in
theorem lc_39 {Inv : gS → Nat → Prop} {Q : Option Value → gS → Prop} {b x m i k : Nat} {σ : gS} (hb : gK σ b = 26) (hx : gK σ x = 12) (h1 : ¬ nI i + 1 < 0) (g1 : (nI i + 1).toNatClampNeg < gN σ b) (hk : k < 512) (hI : Inv σ k) (ob : gOb Inv b x m 153 273 1)
    (kk : ∀ τ : gS, Inv τ (k + 1) → wp 1000 pr_L Q 1495 [some (.ref b), some (.ref x), some (.ref m), some (.int (nI i))] [] τ) : wp 1000 pr_L Q 1459 [some (.ref b), some (.ref x), some (.ref m), some (.int (nI i))] [] σ := by
  simp only [e_L_1459, e_L_1460, e_L_1461, e_L_1462, e_L_1463, e_L_1464, e_L_1465, hx, hb, h1, g1, or_true, not_false_eq_true, true_and, and_self, List.length_nil, List.length_cons, Nat.zero_le]
  refine wc_imp (ob σ k [gI σ b (nI i + 1).toNatClampNeg] rfl hk hI) ?_
  rintro r1 σ1 ⟨⟨⟨s1, s2, s3⟩, hm⟩, v, rfl, hw2⟩
  have hb1 : gK σ1 b = 26 := s1.trans hb
  have g11 : (nI i + 1).toNatClampNeg < gN σ1 b := by rw [s2]; exact g1
  simp only [Option.toList_some, List.singleton_append, e_L_1468, e_L_1469, e_L_1470, e_L_1471, e_L_1472, e_L_1473, e_L_1474, hm, hb1, s3, h1, g11, or_true, not_false_eq_true, true_and, and_self, List.length_nil, List.length_cons, Nat.zero_le, Nat.reduceAdd, Nat.reduceLeDiff]
  refine wc_imp hw2 ?_
  rintro r2 σ2 ⟨rfl, hI2⟩
  simp only [Option.toList_some, List.singleton_append, e_L_1477, not_true_eq_false, false_imp_iff, true_imp_iff, and_true]
  exact kk σ2 hI2
set_option maxHeartbeats 1000000 in
theorem lc_40 {Inv : gS → Nat → Prop} {Q : Option Value → gS → Prop} {b x m i k : Nat} {σ : gS} (hb : gK σ b = 26) (hx : gK σ x = 12) (hk : k < 512) (hI : Inv σ k) (ob : gOb Inv b x m 154 274 0)
    (kk : ∀ τ : gS, Inv τ (k + 1) → wp 1000 pr_L Q 1495 [some (.ref b), some (.ref x), some (.ref m), some (.int (nI i))] [] τ) : wp 1000 pr_L Q 1482 [some (.ref b), some (.ref x), some (.ref m), some (.int (nI i))] [] σ := by
  simp only [e_L_1482, e_L_1483, hx, hb, or_true, not_false_eq_true, true_and, and_self, List.length_nil, List.length_cons, Nat.zero_le]
  refine wc_imp (ob σ k [] rfl hk hI) ?_
  rintro r1 σ1 ⟨⟨⟨s1, s2, s3⟩, hm⟩, v, rfl, hw2⟩
  have hb1 : gK σ1 b = 26 := s1.trans hb
  simp only [Option.toList_some, List.singleton_append, e_L_1486, e_L_1487, hm, hb1, s3, or_true, not_false_eq_true, true_and, and_self, List.length_nil, List.length_cons, Nat.zero_le, Nat.reduceAdd, Nat.reduceLeDiff]
  refine wc_imp hw2 ?_
  rintro r2 σ2 ⟨rfl, hI2⟩
  simp only [Option.toList_some, List.singleton_append, e_L_1490, not_true_eq_false, false_imp_iff, true_imp_iff, and_true]
  exact kk σ2 hI2
/-- one obligation a method -/
def gObs (Inv : gS → Nat → Prop) (b x m : Nat) : Prop := gOb Inv b x m 114 181 5 ∧ gOb Inv b x m 115 182 2 ∧ gOb Inv b x m 116 183 2 ∧ gOb Inv b x m 117 184 2 ∧ gOb Inv b x m 118 185 2 ∧ gOb Inv b x m 119 186 2 ∧ gOb Inv b x m 120 190 2 ∧ gOb Inv b x m 121 191 2 ∧ gOb Inv b x m 122 194 5 ∧ gOb Inv b x m 123 195 1 ∧ gOb Inv b x m 124 192 0 ∧ gOb Inv b x m 125 193 0 ∧ gOb Inv b x m 126 214 0 ∧ gOb Inv b x m 127 215 0 ∧ gOb Inv b x m 128 216 1 ∧ gOb Inv b x m 129 232 2 ∧ gOb Inv b x m 130 235 3 ∧ gOb Inv b x m 131 236 1 ∧ gOb Inv b x m 132 243 3 ∧ gOb Inv b x m 133 244 3 ∧ gOb Inv b x m 134 246 1 ∧ gOb Inv b x m 135 247 2 ∧ gOb Inv b x m 136 248 3 ∧ gOb Inv b x m 137 249 3 ∧ gOb Inv b x m 138 250 0 ∧ gOb Inv b x m 139 255 1 ∧ gOb Inv b x m 140 257 2 ∧ gOb Inv b x m 141 258 2 ∧ gOb Inv b x m 142 259 0 ∧ gOb Inv b x m 143 261 1 ∧ gOb Inv b x m 144 262 2 ∧ gOb Inv b x m 145 266 2 ∧ gOb Inv b x m 146 267 3 ∧ gOb Inv b x m 147 268 3 ∧ gOb Inv b x m 148 269 5 ∧ gOb Inv b x m 149 271 2 ∧ gOb Inv b x m 150 272 2 ∧ gOb Inv b x m 151 169 1 ∧ gOb Inv b x m 152 170 1 ∧ gOb Inv b x m 153 273 1 ∧ gOb Inv b x m 154 274 0
set_option maxHeartbeats 4000000 in
set_option maxRecDepth 20000 in
theorem law_loop {Inv : gS → Nat → Prop} {Q : Option Value → gS → Prop} {b x m L : Nat} (hL : L ≤ 3072) (hInv : ∀ σ k, Inv σ k → gK σ b = 26 ∧ gN σ b = L ∧ gK σ x = 12) (hid : ∀ σ k, Inv σ k → Inv σ (k + 1)) (hQ : ∀ σ k, Inv σ k → k ≤ 512 → Q (some (.int 1)) σ) (H : gObs Inv b x m) :
    ∀ (n i k : Nat) (σ : gS), L + 1 ≤ i + n → i = 6 * k → k ≤ 512 → Inv σ k → wp 1000 pr_L Q 18 [some (.ref b), some (.ref x), some (.ref m), some (.int (nI i))] [] σ := by
  obtain ⟨ob0, ob1, ob2, ob3, ob4, ob5, ob6, ob7, ob8, ob9, ob10, ob11, ob12, ob13, ob14, ob15, ob16, ob17, ob18, ob19, ob20, ob21, ob22, ob23, ob24, ob25, ob26, ob27, ob28, ob29, ob30, ob31, ob32, ob33, ob34, ob35, ob36, ob37, ob38, ob39, ob40⟩ := H
  intro n
  induction n with
  | zero =>
    intro i k σ h1 h2 h3 hI
    obtain ⟨hb, hN, hx⟩ := hInv σ k hI
    have hbk : 20 ≤ gK σ b ∧ gK σ b < 27 := by rw [hb]; decide
    simp only [e_L_18, e_L_19, e_L_21, e_L_23, e_L_24, e_L_20 hbk, hN]
    refine ⟨fun _ => ?_, fun h => ?_⟩
    · simp only [e_L_1501, e_L_1502, or_true, true_and]
      exact hQ σ k hI h3
    · exact absurd (ll_le (by omega) hL h) (by omega)
  | succ n ih =>
    intro i k σ h1 h2 h3 hI
    obtain ⟨hb, hN, hx⟩ := hInv σ k hI
    have hbk : 20 ≤ gK σ b ∧ gK σ b < 27 := by rw [hb]; decide
    simp only [e_L_18, e_L_19, e_L_21, e_L_23, e_L_24, e_L_20 hbk, hN]
    refine ⟨fun _ => ?_, fun h => ?_⟩
    · simp only [e_L_1501, e_L_1502, or_true, true_and]
      exact hQ σ k hI h3
    · have h6 := ll_le (by omega) hL h
      have hk : k < 512 := by omega
      have kk : ∀ τ : gS, Inv τ (k + 1) → wp 1000 pr_L Q 1495 [some (.ref b), some (.ref x), some (.ref m), some (.int (nI i))] [] τ := by
        intro τ hτ
        simp only [e_L_1495, e_L_1498, gPv_r, true_and]
        have e6 : nI i + 6 = nI (i + 6) := nI_add i 6
        rw [e6]
        exact ih (i + 6) (k + 1) τ (by omega) (by omega) (by omega) hτ
      have h00 : ¬ nI i < 0 := nI_pos (by omega)
      have g00 : (nI i).toNatClampNeg < L := by rw [nI_clamp (by omega)]; omega
      have q1 := ll_in 1 h6 hL (by decide)
      have q2 := ll_in 2 h6 hL (by decide)
      have q3 := ll_in 3 h6 hL (by decide)
      have q4 := ll_in 4 h6 hL (by decide)
      have q5 := ll_in 5 h6 hL (by decide)
      rw [← hN] at q1 q2 q3 q4 q5
      simp only [e_L_27, e_L_28, e_L_29, e_L_30, e_L_32, hb, hN, h00, g00, or_true, not_false_eq_true, true_and, and_self]
      obtain ⟨j, hj, ej⟩ := pk_andE (gI σ b (nI i).toNatClampNeg) (m := 63) 6 (by decide)
      rw [ej]
      rw [e_L_33]
      rw [nI_toInt (by omega)]
      have dflt : wp 1000 pr_L Q 1495 [some (.ref b), some (.ref x), some (.ref m), some (.int (nI i))] [] σ := by
        exact kk σ (hid σ k hI)
      refine ⟨fun _ => dflt, fun hq => ?_⟩
      have hj41 : j < 41 := by omega
      have ejj : ((j : Int) - 0).toNat = j := by omega
      rw [ejj]
      have all : ∀ j : Nat, j < 41 → ∃ q, ([212, 275, 308, 341, 374, 407, 440, 473, 506, 569, 592, 605, 618, 631, 644, 667, 700, 743, 766, 809, 852, 875, 908, 951, 994, 1007, 1030, 1063, 1096, 1109, 1132, 1165, 1198, 1241, 1284, 1347, 1380, 1413, 1436, 1459, 1482] : List Nat)[j]? = some q ∧ wp 1000 pr_L Q q [some (.ref b), some (.ref x), some (.ref m), some (.int (nI i))] [] σ := by
        intro j hj
        match j, hj with
        | 0, _ => exact ⟨212, rfl, lc_0 hb hx q1.1 q1.2 q2.1 q2.2 q3.1 q3.2 q4.1 q4.2 q5.1 q5.2 hk hI ob0 kk⟩
        | 1, _ => exact ⟨275, rfl, lc_1 hb hx q1.1 q1.2 q2.1 q2.2 hk hI ob1 kk⟩
        | 2, _ => exact ⟨308, rfl, lc_2 hb hx q1.1 q1.2 q2.1 q2.2 hk hI ob2 kk⟩
        | 3, _ => exact ⟨341, rfl, lc_3 hb hx q1.1 q1.2 q2.1 q2.2 hk hI ob3 kk⟩
        | 4, _ => exact ⟨374, rfl, lc_4 hb hx q1.1 q1.2 q2.1 q2.2 hk hI ob4 kk⟩
        | 5, _ => exact ⟨407, rfl, lc_5 hb hx q1.1 q1.2 q2.1 q2.2 hk hI ob5 kk⟩
        | 6, _ => exact ⟨440, rfl, lc_6 hb hx q1.1 q1.2 q2.1 q2.2 hk hI ob6 kk⟩
        | 7, _ => exact ⟨473, rfl, lc_7 hb hx q1.1 q1.2 q2.1 q2.2 hk hI ob7 kk⟩
        | 8, _ => exact ⟨506, rfl, lc_8 hb hx q1.1 q1.2 q2.1 q2.2 q3.1 q3.2 q4.1 q4.2 q5.1 q5.2 hk hI ob8 kk⟩
        | 9, _ => exact ⟨569, rfl, lc_9 hb hx q1.1 q1.2 hk hI ob9 kk⟩
        | 10, _ => exact ⟨592, rfl, lc_10 hb hx hk hI ob10 kk⟩
        | 11, _ => exact ⟨605, rfl, lc_11 hb hx hk hI ob11 kk⟩
        | 12, _ => exact ⟨618, rfl, lc_12 hb hx hk hI ob12 kk⟩
        | 13, _ => exact ⟨631, rfl, lc_13 hb hx hk hI ob13 kk⟩
        | 14, _ => exact ⟨644, rfl, lc_14 hb hx q1.1 q1.2 hk hI ob14 kk⟩
        | 15, _ => exact ⟨667, rfl, lc_15 hb hx q1.1 q1.2 q2.1 q2.2 hk hI ob15 kk⟩
        | 16, _ => exact ⟨700, rfl, lc_16 hb hx q1.1 q1.2 q2.1 q2.2 q3.1 q3.2 hk hI ob16 kk⟩
        | 17, _ => exact ⟨743, rfl, lc_17 hb hx q1.1 q1.2 hk hI ob17 kk⟩
        | 18, _ => exact ⟨766, rfl, lc_18 hb hx q1.1 q1.2 q2.1 q2.2 q3.1 q3.2 hk hI ob18 kk⟩
        | 19, _ => exact ⟨809, rfl, lc_19 hb hx q1.1 q1.2 q2.1 q2.2 q3.1 q3.2 hk hI ob19 kk⟩
        | 20, _ => exact ⟨852, rfl, lc_20 hb hx q1.1 q1.2 hk hI ob20 kk⟩
        | 21, _ => exact ⟨875, rfl, lc_21 hb hx q1.1 q1.2 q2.1 q2.2 hk hI ob21 kk⟩
        | 22, _ => exact ⟨908, rfl, lc_22 hb hx q1.1 q1.2 q2.1 q2.2 q3.1 q3.2 hk hI ob22 kk⟩
        | 23, _ => exact ⟨951, rfl, lc_23 hb hx q1.1 q1.2 q2.1 q2.2 q3.1 q3.2 hk hI ob23 kk⟩
        | 24, _ => exact ⟨994, rfl, lc_24 hb hx hk hI ob24 kk⟩
        | 25, _ => exact ⟨1007, rfl, lc_25 hb hx q1.1 q1.2 hk hI ob25 kk⟩
        | 26, _ => exact ⟨1030, rfl, lc_26 hb hx q1.1 q1.2 q2.1 q2.2 hk hI ob26 kk⟩
        | 27, _ => exact ⟨1063, rfl, lc_27 hb hx q1.1 q1.2 q2.1 q2.2 hk hI ob27 kk⟩
        | 28, _ => exact ⟨1096, rfl, lc_28 hb hx hk hI ob28 kk⟩
        | 29, _ => exact ⟨1109, rfl, lc_29 hb hx q1.1 q1.2 hk hI ob29 kk⟩
        | 30, _ => exact ⟨1132, rfl, lc_30 hb hx q1.1 q1.2 q2.1 q2.2 hk hI ob30 kk⟩
        | 31, _ => exact ⟨1165, rfl, lc_31 hb hx q1.1 q1.2 q2.1 q2.2 hk hI ob31 kk⟩
        | 32, _ => exact ⟨1198, rfl, lc_32 hb hx q1.1 q1.2 q2.1 q2.2 q3.1 q3.2 hk hI ob32 kk⟩
        | 33, _ => exact ⟨1241, rfl, lc_33 hb hx q1.1 q1.2 q2.1 q2.2 q3.1 q3.2 hk hI ob33 kk⟩
        | 34, _ => exact ⟨1284, rfl, lc_34 hb hx q1.1 q1.2 q2.1 q2.2 q3.1 q3.2 q4.1 q4.2 q5.1 q5.2 hk hI ob34 kk⟩
        | 35, _ => exact ⟨1347, rfl, lc_35 hb hx q1.1 q1.2 q2.1 q2.2 hk hI ob35 kk⟩
        | 36, _ => exact ⟨1380, rfl, lc_36 hb hx q1.1 q1.2 q2.1 q2.2 hk hI ob36 kk⟩
        | 37, _ => exact ⟨1413, rfl, lc_37 hb hx q1.1 q1.2 hk hI ob37 kk⟩
        | 38, _ => exact ⟨1436, rfl, lc_38 hb hx q1.1 q1.2 hk hI ob38 kk⟩
        | 39, _ => exact ⟨1459, rfl, lc_39 hb hx q1.1 q1.2 hk hI ob39 kk⟩
        | 40, _ => exact ⟨1482, rfl, lc_40 hb hx hk hI ob40 kk⟩
        | j + 41, hj => exact absurd hj (by omega)
      exact all j hj41

