/-! news by days -/
def sq (F : Nat → Nat) (n S : Nat) : Nat → Nat
  | 0 => S
  | d + 1 => sp1 F n (sq F n S d)
/-- the day on which news that is at S first comes to h -/
def dyO (F : Nat → Nat) (n S h m : Nat) : Option Nat := fo (fun d => (sq F n S d).testBit h) m 0
theorem cn_mo {C C' : Nat → Bool} (h : ∀ j, C j = true → C' j = true) : ∀ m i, cn C m i ≤ cn C' m i := by
  intro m
  induction m with
  | zero => intro i; exact Nat.le_refl 0
  | succ m ih =>
    intro i
    have := ih (i + 1)
    simp only [cn]
    by_cases c : C i = true
    · rw [if_pos c, if_pos (h i c)]; omega
    · rw [if_neg c]; split <;> omega
theorem cn_st {C C' : Nat → Bool} (h : ∀ j, C j = true → C' j = true) {k : Nat} (h1 : C k = false) (h2 : C' k = true) : ∀ m i, i ≤ k → k < i + m → cn C m i + 1 ≤ cn C' m i := by
  intro m
  induction m with
  | zero => intro i a b; omega
  | succ m ih =>
    intro i a b
    simp only [cn]
    by_cases z : i = k
    · subst z
      have := cn_mo h m (i + 1)
      rw [h1, h2]
      simp only [Bool.false_eq_true, if_false, if_true]
      omega
    · have := ih (i + 1) (by omega) (by omega)
      by_cases c : C i = true
      · rw [if_pos c, if_pos (h i c)]; omega
      · rw [if_neg c]; split <;> omega
section
variable {F : Nat → Nat} {n S : Nat}
theorem sq_lt (hF : ∀ h, F h < 4096) (hS : S < 4096) : ∀ d, sq F n S d < 4096 := by
  intro d
  induction d with
  | zero => exact hS
  | succ d ih => exact sp1_lt hF ih
theorem sq_up {d h : Nat} (hh : (sq F n S d).testBit h = true) : ∀ k, (sq F n S (d + k)).testBit h = true := by
  intro k
  induction k with
  | zero => exact hh
  | succ k ih => exact tb_sp1.mpr (Or.inl ih)
theorem sq_st {d : Nat} (hd : sq F n S (d + 1) = sq F n S d) : ∀ k, sq F n S (d + k) = sq F n S d := by
  intro k
  induction k with
  | zero => rfl
  | succ k ih =>
    show sp1 F n (sq F n S (d + k)) = _
    rw [ih]
    exact hd
theorem sq_n (hF : ∀ h, F h < 2 ^ n) (hS : S < 2 ^ n) : ∀ d, sq F n S d < 2 ^ n := by
  intro d
  induction d with
  | zero => exact hS
  | succ d ih =>
    refine Nat.or_lt_two_pow ih ?_
    have : ∀ m, orU (fun h => if (sq F n S d).testBit h = true then F h else 0) m < 2 ^ n := by
      intro m
      induction m with
      | zero => exact Nat.pow_pos (by decide)
      | succ m ihm =>
        refine Nat.or_lt_two_pow ihm ?_
        show (if _ then _ else _) < _
        split
        · exact hF m
        · exact Nat.pow_pos (by decide)
    exact this n
theorem sq_cnt (hF : ∀ h, F h < 2 ^ n) (hS : S < 2 ^ n) : ∀ d, (∀ i, i < d → sq F n S (i + 1) ≠ sq F n S i) → cn (fun j => S.testBit j) n 0 + d ≤ cn (fun j => (sq F n S d).testBit j) n 0 := by
  intro d
  induction d with
  | zero => intro _; exact Nat.le_refl _
  | succ d ih =>
    intro hi
    have a := ih (fun i h => hi i (by omega))
    have hne := hi d (by omega)
    have : ∃ j, (sq F n S d).testBit j = false ∧ (sq F n S (d + 1)).testBit j = true := by
      refine Classical.byContradiction (fun z => hne ?_)
      refine Nat.eq_of_testBit_eq (fun j => ?_)
      cases h1 : (sq F n S d).testBit j
      · cases h2 : (sq F n S (d + 1)).testBit j
        · rfl
        · exact absurd ⟨j, h1, h2⟩ z
      · exact sq_up h1 1
    obtain ⟨j, h1, h2⟩ := this
    have jn : j < n := by
      by_cases z : j < n
      · exact z
      · rw [tb_lt (sq_n hF hS (d + 1)) (by omega)] at h2
        exact absurd h2 Bool.false_ne_true
    have := cn_st (C := fun j => (sq F n S d).testBit j) (C' := fun j => (sq F n S (d + 1)).testBit j) (fun j hj => sq_up hj 1) h1 h2 n 0 (by omega) (by omega)
    omega
theorem sq_pig (hF : ∀ h, F h < 2 ^ n) (hS : S < 2 ^ n) {d h : Nat} (hd : (sq F n S d).testBit h = true) : ∃ e, e < n ∧ (sq F n S e).testBit h = true := by
  refine Classical.byContradiction (fun z => ?_)
  have no : ∀ e, e < n → (sq F n S e).testBit h = false := by
    intro e he
    cases q : (sq F n S e).testBit h
    · rfl
    · exact absurd ⟨e, he, q⟩ z
  have st : ∀ i, i < n → sq F n S (i + 1) ≠ sq F n S i := by
    intro i hi heq
    by_cases id : i ≤ d
    · obtain ⟨k, rfl⟩ : ∃ k, d = i + k := ⟨d - i, by omega⟩
      rw [sq_st heq k, no i hi] at hd
      exact Bool.false_ne_true hd
    · rw [no d (by omega)] at hd
      exact Bool.false_ne_true hd
  have c := sq_cnt hF hS n st
  have c2 := cn_le (fun j => (sq F n S n).testBit j) n 0
  have c3 : cn (fun j => S.testBit j) n 0 = 0 := by omega
  have s0 : S = 0 := by
    refine Nat.eq_of_testBit_eq (fun j => ?_)
    rw [Nat.zero_testBit]
    cases q : S.testBit j
    · rfl
    · exfalso
      have jn : j < n := by
        by_cases y : j < n
        · exact y
        · rw [tb_lt hS (by omega)] at q
          exact absurd q Bool.false_ne_true
      have := cn_st (C := fun _ => false) (C' := fun j => S.testBit j) (fun j hj => absurd hj Bool.false_ne_true) (k := j) rfl q n 0 (by omega) (by omega)
      omega
  have all0 : ∀ e, sq F n S e = 0 := by
    intro e
    induction e with
    | zero => exact s0
    | succ e ih =>
      show sp1 F n (sq F n S e) = 0
      rw [ih]
      refine Nat.eq_of_testBit_eq (fun j => ?_)
      rw [Bool.eq_iff_iff, tb_sp1]
      simp
  rw [all0 d] at hd
  simp at hd
theorem dy_big (hF : ∀ h, F h < 2 ^ n) (hS : S < 2 ^ n) {h m : Nat} (hm : n ≤ m) : dyO F n S h m = dyO F n S h n := by
  obtain ⟨k, rfl⟩ : ∃ k, m = n + k := ⟨m - n, by omega⟩
  rw [dyO, fo_add]
  cases q : fo (fun d => (sq F n S d).testBit h) n 0 with
  | some e => rw [dyO, q]; rfl
  | none =>
    rw [dyO, q, Option.none_or]
    refine fo_0 ?_
    intro j _ _
    cases hj : (sq F n S j).testBit h
    · rfl
    · exfalso
      obtain ⟨e, e1, e2⟩ := sq_pig hF hS hj
      have : ∀ m i, fo (fun d => (sq F n S d).testBit h) m i = none → ∀ j, i ≤ j → j < i + m → (sq F n S j).testBit h = false := by
        intro m
        induction m with
        | zero => intro i _ j a b; omega
        | succ m ih =>
          intro i h0 j a b
          simp only [fo] at h0
          by_cases c : (sq F n S i).testBit h = true
          · rw [if_pos c] at h0; cases h0
          · rw [if_neg c] at h0
            by_cases ji : j = i
            · subst ji; simpa using c
            · exact ih (i + 1) h0 j (by omega) (by omega)
      rw [this _ _ q e (by omega) (by omega)] at e2
      exact Bool.false_ne_true e2
theorem fo_none {C : Nat → Bool} : ∀ m i, fo C m i = none → ∀ j, i ≤ j → j < i + m → C j = false := by
  intro m
  induction m with
  | zero => intro i _ j a b; omega
  | succ m ih =>
    intro i h0 j a b
    simp only [fo] at h0
    by_cases c : C i = true
    · rw [if_pos c] at h0; cases h0
    · rw [if_neg c] at h0
      by_cases ji : j = i
      · subst ji; simpa using c
      · exact ih (i + 1) h0 j (by omega) (by omega)
/-- a day more -/
theorem dy_s {h d : Nat} : dyO F n S h (d + 1) = (dyO F n S h d).or (if (sq F n S d).testBit h = true then some d else none) := fo_s
theorem dy_old {h d : Nat} (hh : (sq F n S d).testBit h = true) : dyO F n S h (d + 1 + 1) = dyO F n S h (d + 1) ∧ (dyO F n S h (d + 1)).isSome = true := by
  have : (dyO F n S h (d + 1)).isSome = true := by
    cases q : dyO F n S h (d + 1) with
    | some _ => rfl
    | none =>
      have := fo_none _ _ q d (by omega) (by omega)
      rw [hh] at this
      exact absurd this (by simp)
  refine ⟨?_, this⟩
  rw [dy_s (d := d + 1)]
  cases q : dyO F n S h (d + 1) with
  | some _ => rfl
  | none => rw [q] at this; cases this
theorem dy_new {h d : Nat} (hh : (sq F n S d).testBit h = false) (h2 : (sq F n S (d + 1)).testBit h = true) : dyO F n S h (d + 1 + 1) = some (d + 1) := by
  have : dyO F n S h (d + 1) = none := by
    refine fo_0 ?_
    intro j _ hj
    cases q : (sq F n S j).testBit h
    · rfl
    · obtain ⟨k, rfl⟩ : ∃ k, d = j + k := ⟨d - j, by omega⟩
      rw [sq_up q k] at hh
      exact absurd hh (by simp)
  rw [dy_s (d := d + 1), this, h2]
  rfl
theorem dy_no {h d : Nat} (h2 : (sq F n S d).testBit h = false) : dyO F n S h (d + 1) = dyO F n S h d := by
  rw [dy_s, h2]
  simp
theorem dy_le {h m e : Nat} (hh : dyO F n S h m = some e) : e < m := by
  have := fo_in _ _ _ hh
  omega
end
theorem sp1_12 {F : Nat → Nat} {n S : Nat} (hn : n ≤ 12) (h0 : ∀ h, n ≤ h → F h = 0) : sp1 F 12 S = sp1 F n S := by
  refine Nat.eq_of_testBit_eq (fun j => ?_)
  rw [Bool.eq_iff_iff, tb_sp1, tb_sp1]
  constructor
  · rintro (h | ⟨h, h1, h2, h3⟩)
    · exact Or.inl h
    · by_cases z : h < n
      · exact Or.inr ⟨h, z, h2, h3⟩
      · rw [h0 h (by omega)] at h3
        simp at h3
  · rintro (h | ⟨h, h1, h2, h3⟩)
    · exact Or.inl h
    · exact Or.inr ⟨h, by omega, h2, h3⟩
