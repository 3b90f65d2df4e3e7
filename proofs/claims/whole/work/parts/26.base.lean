/-! numbers and masks: the normal form nI n -/
theorem nL (n : Nat) : (no_index (OfNat.ofNat n) : Int32) = nI (OfNat.ofNat n) := rfl
theorem nI_mul (a b : Nat) : nI a * nI b = nI (a * b) := (Int32.ofNat_mul a b).symm
theorem nI_sub {a b : Nat} (h : b ≤ a) : nI a - nI b = nI (a - b) := (Int32.ofNat_sub a b h).symm
theorem nI_div {a b : Nat} (ha : a < 2147483648) (hb : b < 2147483648) : nI a / nI b = nI (a / b) := (Int32.ofNat_div ha hb).symm
theorem nI_mod {a b : Nat} (ha : a < 2147483648) (hb : b < 2147483648) : nI a % nI b = nI (a % b) := (Int32.ofNat_mod ha hb).symm
theorem nI_bv (a : Nat) : (nI a).toBitVec = BitVec.ofNat 32 a := rfl
theorem nI_or (a b : Nat) : nI a ||| nI b = nI (a ||| b) := Int32.toBitVec.inj (by
  simp only [Int32.toBitVec_or, nI_bv]
  exact (BitVec.ofNat_or ..).symm)
theorem nI_and (a b : Nat) : nI a &&& nI b = nI (a &&& b) := Int32.toBitVec.inj (by
  simp only [Int32.toBitVec_and, nI_bv]
  exact (BitVec.ofNat_and ..).symm)
theorem nI_xor (a b : Nat) : nI a ^^^ nI b = nI (a ^^^ b) := Int32.toBitVec.inj (by
  simp only [Int32.toBitVec_xor, nI_bv]
  exact (BitVec.ofNat_xor ..).symm)
/-- a without b -/
def ad (a b : Nat) : Nat := a ^^^ (a &&& b)
theorem tb_ad (a b j : Nat) : (ad a b).testBit j = (a.testBit j && !b.testBit j) := by
  simp only [ad, Nat.testBit_xor, Nat.testBit_and]
  cases a.testBit j <;> cases b.testBit j <;> rfl
theorem nI_ad (a b : Nat) : nI a &&& (nI b ^^^ -nI 1) = nI (ad a b) := by
  refine Int32.toBitVec.inj ?_
  simp only [Int32.toBitVec_and, Int32.toBitVec_xor, Int32.toBitVec_neg, nI_bv]
  refine BitVec.eq_of_getLsbD_eq ?_
  intro i hi
  have h1 : (-BitVec.ofNat 32 1) = BitVec.allOnes 32 := by decide
  rw [h1]
  simp only [BitVec.getLsbD_and, BitVec.getLsbD_xor, BitVec.getLsbD_ofNat, BitVec.getLsbD_allOnes, hi, decide_true, Bool.true_and, Bool.xor_true, tb_ad]
theorem sh_am : ∀ k : Nat, k < 32 → ((nI k &&& nI 31).toBitVec.smod 32) = BitVec.ofNat 32 k := by decide +kernel
theorem nI_shl {a k : Nat} (hk : k < 32) : nI a <<< (nI k &&& nI 31) = nI (a * 2 ^ k) := by
  refine Int32.toBitVec.inj ?_
  simp only [Int32.toBitVec_shiftLeft, sh_am k hk, nI_bv]
  refine BitVec.eq_of_toNat_eq ?_
  have h2 : k % 4294967296 = k := Nat.mod_eq_of_lt (by omega)
  simp only [BitVec.shiftLeft_eq', BitVec.toNat_shiftLeft, BitVec.toNat_ofNat, Nat.reducePow, h2, Nat.shiftLeft_eq, Nat.mod_mul_mod]
theorem nI_bit {b k : Nat} (hb : b < 2147483648) (hk : k < 32) : (nI b >>> (nI k &&& nI 31)) &&& nI 1 = bI (b.testBit k = true) := by
  have e : (nI b >>> (nI k &&& nI 31)) = nI (b >>> k) := by
    refine Int32.toBitVec.inj ?_
    simp only [Int32.toBitVec_shiftRight, sh_am k hk, nI_bv]
    refine BitVec.eq_of_getLsbD_eq ?_
    intro i hi
    have h2 : k % 4294967296 = k := Nat.mod_eq_of_lt (by omega)
    have h3 : (BitVec.ofNat 32 b).msb = false := by
      rw [BitVec.msb_eq_decide]; simp only [BitVec.toNat_ofNat, Nat.reducePow, Nat.reduceSub, Nat.reduceAdd, decide_eq_false_iff_not]; omega
    simp only [BitVec.getLsbD_sshiftRight', BitVec.toNat_ofNat, Nat.reducePow, h2, h3, BitVec.getLsbD_ofNat, Nat.testBit_shiftRight, hi, decide_true, Bool.true_and]
    by_cases h4 : k + i < 32
    · simp only [h4, decide_true, Bool.true_and, if_true]
      have h5 : ¬ 32 ≤ i := by omega
      simp [h5]
    · have h5 : b.testBit (k + i) = false := Nat.testBit_lt_two_pow (Nat.lt_of_lt_of_le hb (Nat.le_trans (by decide : 2147483648 ≤ 2 ^ 31) (Nat.pow_le_pow_right (by decide) (by omega))))
      have h6 : ¬ 32 ≤ i := by omega
      simp [h4, h5, h6]
  rw [e, nI_and]
  by_cases h : b.testBit k = true
  · have : b >>> k &&& 1 = 1 := by
      rw [Nat.and_one_is_mod]; simpa [Nat.testBit, Nat.and_comm 1, Nat.and_one_is_mod] using h
    rw [this, bI, if_pos h]; rfl
  · have : b >>> k &&& 1 = 0 := by
      have h' : b.testBit k = false := by simpa using h
      rw [Nat.and_one_is_mod]
      have := h'
      simp [Nat.testBit, Nat.and_comm 1, Nat.and_one_is_mod] at this
      omega
    rw [this, bI, if_neg h]; rfl
theorem bI_n (c : Prop) [Decidable c] : bI c = if c then nI 1 else nI 0 := rfl
theorem bI_t {c : Prop} [Decidable c] (h : c) : bI c = nI 1 := if_pos h
theorem bI_f {c : Prop} [Decidable c] (h : ¬ c) : bI c = nI 0 := if_neg h
theorem bI_0 {c : Prop} [Decidable c] : bI c = nI 0 ↔ ¬ c := by
  by_cases h : c
  · simp only [bI_t h, h, not_true_eq_false, iff_false]; decide
  · exact ⟨fun _ => h, fun _ => bI_f h⟩
theorem bI_1 {c : Prop} [Decidable c] : bI c = nI 1 ↔ c := by
  by_cases h : c
  · exact ⟨fun _ => h, fun _ => bI_t h⟩
  · simp only [bI_f h, h, iff_false]; decide
theorem bI_01 {c : Prop} [Decidable c] : (bI c = nI 0 ∨ bI c = nI 1) ↔ True := by
  by_cases h : c
  · simp only [bI_t h, or_true]
  · simp only [bI_f h, true_or]
theorem bI_c {c e : Prop} [Decidable c] [Decidable e] (h : c ↔ e) : bI c = bI e := by
  by_cases h1 : c
  · rw [bI_t h1, bI_t (h.mp h1)]
  · rw [bI_f h1, bI_f (fun z => h1 (h.mpr z))]
/-! the mask of a test of the first n numbers -/
def mkN (C : Nat → Bool) : Nat → Nat
  | 0 => 0
  | n + 1 => mkN C n ||| (if C n then 2 ^ n else 0)
theorem tb_mk (C : Nat → Bool) (n j : Nat) : (mkN C n).testBit j = (decide (j < n) && C j) := by
  induction n with
  | zero => simp [mkN]
  | succ n ih =>
    simp only [mkN, Nat.testBit_or, ih]
    by_cases hj : j = n
    · subst hj
      by_cases hc : C j = true
      · simp [hc, Nat.testBit_two_pow]
      · simp [hc]
    · have h1 : (decide (j < n + 1)) = decide (j < n) := by
        by_cases h : j < n
        · simp [h]; omega
        · simp [h]; omega
      rw [h1]
      by_cases hc : C n = true
      · simp [hc, Nat.testBit_two_pow]; intro h; omega
      · simp [hc]
theorem mk_lt (C : Nat → Bool) (n : Nat) : mkN C n < 2 ^ n := by
  refine Nat.lt_pow_two_of_testBit _ ?_
  intro i hi
  rw [tb_mk]
  have : ¬ i < n := by omega
  simp [this]
theorem mk_lt12 {C : Nat → Bool} {n : Nat} (h : n ≤ 12) : mkN C n < 4096 := Nat.lt_of_lt_of_le (mk_lt C n) (Nat.le_trans (Nat.pow_le_pow_right (by decide) h) (by decide))
theorem mk_c {C D : Nat → Bool} {n : Nat} (h : ∀ j, j < n → C j = D j) : mkN C n = mkN D n := by
  refine Nat.eq_of_testBit_eq ?_
  intro i
  rw [tb_mk, tb_mk]
  by_cases hi : i < n
  · simp [hi, h i hi]
  · simp [hi]
theorem mk_of {b : Nat} (n : Nat) (h : b < 2 ^ n) : b = mkN (fun j => b.testBit j) n := by
  refine Nat.eq_of_testBit_eq ?_
  intro i
  rw [tb_mk]
  by_cases hi : i < n
  · simp [hi]
  · have : b.testBit i = false := Nat.testBit_lt_two_pow (Nat.lt_of_lt_of_le h (Nat.pow_le_pow_right (by decide) (by omega)))
    simp [hi, this]
theorem tb_lt {b n j : Nat} (h : b < 2 ^ n) (hj : n ≤ j) : b.testBit j = false := Nat.testBit_lt_two_pow (Nat.lt_of_lt_of_le h (Nat.pow_le_pow_right (by decide) hj))
/-! what is the same but for the rows of some addresses -/
def Sm (P : Nat → Prop) (σ τ : gS) : Prop := gK τ = gK σ ∧ gN τ = gN σ ∧ gR τ = gR σ ∧ gn τ = gn σ ∧ gw τ = gw σ ∧ gT τ = gT σ ∧ (∀ a, ¬ P a → gI τ a = gI σ a) ∧ ∀ a, ¬ P a → gJ τ a = gJ σ a
theorem Sm_refl (P : Nat → Prop) (σ : gS) : Sm P σ σ := ⟨rfl, rfl, rfl, rfl, rfl, rfl, fun _ _ => rfl, fun _ _ => rfl⟩
theorem Sm_trans {P : Nat → Prop} {σ τ υ : gS} (h : Sm P σ τ) (g : Sm P τ υ) : Sm P σ υ := by
  obtain ⟨h1, h2, h3, h4, h5, h6, h7, h8⟩ := h
  obtain ⟨g1, g2, g3, g4, g5, g6, g7, g8⟩ := g
  exact ⟨g1.trans h1, g2.trans h2, g3.trans h3, g4.trans h4, g5.trans h5, g6.trans h6, fun a ha => (g7 a ha).trans (h7 a ha), fun a ha => (g8 a ha).trans (h8 a ha)⟩
theorem Sm_mono {P P' : Nat → Prop} {σ τ : gS} (h : Sm P σ τ) (hp : ∀ a, P a → P' a) : Sm P' σ τ := by
  obtain ⟨h1, h2, h3, h4, h5, h6, h7, h8⟩ := h
  exact ⟨h1, h2, h3, h4, h5, h6, fun a ha => h7 a (fun z => ha (hp a z)), fun a ha => h8 a (fun z => ha (hp a z))⟩
theorem Sm_I {P : Nat → Prop} {σ τ : gS} {a k : Nat} {v : Int32} (h : Sm P σ τ) (ha : P a) : Sm P σ (sI τ a k v) := by
  refine Sm_trans h ⟨rfl, rfl, rfl, rfl, rfl, rfl, ?_, fun _ _ => rfl⟩
  intro b hb
  funext j
  rw [n_I_I]
  have : ¬ (b = a ∧ j = k) := fun z => hb (z.1 ▸ ha)
  rw [if_neg this]
theorem Sm_J {P : Nat → Prop} {σ τ : gS} {a k : Nat} {v : Int64} (h : Sm P σ τ) (ha : P a) : Sm P σ (sJ τ a k v) := by
  refine Sm_trans h ⟨rfl, rfl, rfl, rfl, rfl, rfl, fun _ _ => rfl, ?_⟩
  intro b hb
  funext j
  rw [n_J_J]
  have : ¬ (b = a ∧ j = k) := fun z => hb (z.1 ▸ ha)
  rw [if_neg this]
theorem Sm_r {P : Nat → Prop} {σ τ : gS} {a : Nat} {f : Nat → Int32} (h : Sm P σ τ) (ha : P a) : Sm P σ (sIr τ a f) := by
  refine Sm_trans h ⟨rfl, rfl, rfl, rfl, rfl, rfl, ?_, fun _ _ => rfl⟩
  intro b hb
  funext j
  rw [n_I_r]
  have : ¬ b = a := fun z => hb (z ▸ ha)
  rw [if_neg this]
/-! numbers below 0 -/
theorem ng_toInt {a : Nat} (h : a < 2147483648) : (-nI a).toInt = -(a : Int) := by
  rw [Int32.toInt_neg, nI_toInt h]
  exact Int.bmod_eq_of_le (by omega) (by omega)
theorem ng_ne (a b : Nat) (h0 : 0 < a) (ha : a < 2147483648) (hb : b < 2147483648) : ¬ (-nI a = nI b) := by
  intro h
  have := congrArg Int32.toInt h
  rw [ng_toInt ha, nI_toInt hb] at this
  omega
theorem ng_lt {a b : Nat} (h0 : 0 < a) (ha : a < 2147483648) (hb : b < 2147483648) : (-nI a < nI b) = True := by
  simp only [Int32.lt_iff_toInt_lt, ng_toInt ha, nI_toInt hb, eq_iff_iff, iff_true]
  omega
theorem ng_le {a b : Nat} (ha : a < 2147483648) (hb : b < 2147483648) : (-nI a ≤ nI b) = True := by
  simp only [Int32.le_iff_toInt_le, ng_toInt ha, nI_toInt hb, eq_iff_iff, iff_true]
  omega
theorem ng_gt {a b : Nat} (ha : a < 2147483648) (hb : b < 2147483648) : (nI b < -nI a) = False := by
  simp only [Int32.lt_iff_toInt_lt, ng_toInt ha, nI_toInt hb, eq_iff_iff, iff_false]
  omega
theorem nI_min {x y : Nat} (hx : x < 2147483648) (hy : y < 2147483648) : (if nI y < nI x then nI y else nI x) = nI (min x y) := by
  simp only [nI_ltI hy hx]
  by_cases h : y < x
  · rw [if_pos h, Nat.min_eq_right (by omega)]
  · rw [if_neg h, Nat.min_eq_left (by omega)]
theorem nI_max {x y : Nat} (hx : x < 2147483648) (hy : y < 2147483648) : (if nI x < nI y then nI y else nI x) = nI (max x y) := by
  simp only [nI_ltI hx hy]
  by_cases h : x < y
  · rw [if_pos h, Nat.max_eq_right (by omega)]
  · rw [if_neg h, Nat.max_eq_left (by omega)]
theorem sub_toInt {a b : Nat} (ha : a < 1073741824) (hb : b < 1073741824) : (nI a - nI b).toInt = (a : Int) - b := by
  rw [Int32.toInt_sub, nI_toInt (by omega), nI_toInt (by omega)]
  exact Int.bmod_eq_of_le (by omega) (by omega)
theorem sub_lt0 {a b : Nat} (ha : a < 1073741824) (hb : b < 1073741824) : nI a - nI b < nI 0 ↔ a < b := by
  rw [Int32.lt_iff_toInt_lt, sub_toInt ha hb, nI_toInt (by omega)]
  omega
theorem sub_eq0 {a b : Nat} (ha : a < 1073741824) (hb : b < 1073741824) : nI a - nI b = nI 0 ↔ a = b := by
  rw [← Int32.toInt_inj, sub_toInt ha hb, nI_toInt (by omega)]
  omega
theorem le_sub1 {p : Int32} {n : Nat} (hn : n < 1073741824) : p ≤ nI n - nI 1 ↔ p < nI n := by
  rw [Int32.le_iff_toInt_le, Int32.lt_iff_toInt_lt, sub_toInt hn (by omega), nI_toInt (by omega)]
  omega
/-- a number between 0 and a number -/
theorem in_nI {p : Int32} {n : Nat} (hn : n < 2147483648) (h : nI 0 ≤ p ∧ p ≤ nI n) : ∃ j : Nat, j ≤ n ∧ p = nI j := nI_of2 (nI_toInt hn) (Int32.not_lt.mpr h.1) h.2
theorem in_lt {p : Int32} {n : Nat} (hn : n < 2147483648) (h : nI 0 ≤ p ∧ p < nI n) : ∃ j : Nat, j < n ∧ p = nI j := by
  obtain ⟨j, h1, h2⟩ := nI_of2 (nI_toInt hn) (Int32.not_lt.mpr h.1) (Int32.le_of_lt h.2)
  refine ⟨j, ?_, h2⟩
  have := h.2
  rw [h2, nI_ltI (by omega) hn] at this
  exact this
