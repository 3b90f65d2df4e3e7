/-! cuts: subsets one behind the other -/
def nxN (k o b : Nat) : Nat := (b + 2 ^ k - o) &&& o
theorem and_2 (a b e f : Nat) (he : e < 2) (hf : f < 2) : (2 * a + e) &&& (2 * b + f) = 2 * (a &&& b) + (if e = 1 ∧ f = 1 then 1 else 0) := by
  refine Nat.eq_of_testBit_eq ?_
  intro j
  cases j with
  | zero =>
    rw [Nat.testBit_and, Nat.testBit_zero, Nat.testBit_zero, Nat.testBit_zero]
    have h1 : (2 * a + e) % 2 = e := by omega
    have h2 : (2 * b + f) % 2 = f := by omega
    rw [h1, h2]
    have h3 : (2 * (a &&& b) + (if e = 1 ∧ f = 1 then 1 else 0)) % 2 = if e = 1 ∧ f = 1 then 1 else 0 := by split <;> omega
    rw [h3]
    have : e = 0 ∨ e = 1 := by omega
    have : f = 0 ∨ f = 1 := by omega
    rcases ‹e = 0 ∨ e = 1› with rfl | rfl <;> rcases ‹f = 0 ∨ f = 1› with rfl | rfl <;> decide
  | succ j =>
    rw [Nat.testBit_and, Nat.testBit_succ, Nat.testBit_succ, Nat.testBit_succ]
    have h1 : (2 * a + e) / 2 = a := by omega
    have h2 : (2 * b + f) / 2 = b := by omega
    have h3 : (2 * (a &&& b) + (if e = 1 ∧ f = 1 then 1 else 0)) / 2 = a &&& b := by split <;> omega
    rw [h1, h2, h3, Nat.testBit_and]
theorem sub_2 {a b e f : Nat} (he : e < 2) (hf : f < 2) (h : (2 * a + e) &&& (2 * b + f) = 2 * a + e) : a &&& b = a ∧ e ≤ f := by
  rw [and_2 a b e f he hf] at h
  split at h
  · next z => exact ⟨by omega, by omega⟩
  · exact ⟨by omega, by omega⟩
theorem nx_cp : ∀ k o b, o < 2 ^ k → b &&& o = b → (b + (2 ^ k - 1 - o)) &&& o = b := by
  intro k
  induction k with
  | zero =>
    intro o b ho hb
    have : o = 0 := by simpa using ho
    subst this
    simpa using hb
  | succ k ih =>
    intro o b ho hb
    obtain ⟨o', e, rfl, he⟩ : ∃ o' e, o = 2 * o' + e ∧ e < 2 := ⟨o / 2, o % 2, by omega, by omega⟩
    obtain ⟨b', f, rfl, hf⟩ : ∃ b' f, b = 2 * b' + f ∧ f < 2 := ⟨b / 2, b % 2, by omega, by omega⟩
    rw [Nat.pow_succ] at ho
    have ho' : o' < 2 ^ k := by omega
    obtain ⟨h1, h2⟩ := sub_2 hf he hb
    have r := ih o' b' ho' h1
    have hee : e = 0 ∨ e = 1 := by omega
    rcases hee with rfl | rfl
    · have hf0 : f = 0 := by omega
      subst hf0
      rw [show 2 * b' + 0 + (2 ^ (k + 1) - 1 - (2 * o' + 0)) = 2 * (b' + (2 ^ k - 1 - o')) + 1 from by rw [Nat.pow_succ]; omega, and_2 _ _ 1 0 (by omega) (by omega), r]
      simp
    · rw [show 2 * b' + f + (2 ^ (k + 1) - 1 - (2 * o' + 1)) = 2 * (b' + (2 ^ k - 1 - o')) + f from by rw [Nat.pow_succ]; omega, and_2 _ _ f 1 hf (by omega), r]
      split <;> omega
theorem nx_ok : ∀ k o b, o < 2 ^ k → b &&& o = b → nxN k o b &&& o = nxN k o b ∧ (b = o → nxN k o b = 0) ∧ (b ≠ o → b < nxN k o b) ∧ ∀ s, s &&& o = s → b < s → nxN k o b ≤ s := by
  intro k
  induction k with
  | zero =>
    intro o b ho hb
    have : o = 0 := by simpa using ho
    subst this
    have hb0 : b = 0 := by simpa using hb.symm
    subst hb0
    refine ⟨by simp [nxN], fun _ => by simp [nxN], fun z => absurd rfl z, fun s hs hlt => ?_⟩
    rw [Nat.and_zero] at hs
    omega
  | succ k ih =>
    intro o b ho hb
    obtain ⟨o', e, rfl, he⟩ : ∃ o' e, o = 2 * o' + e ∧ e < 2 := ⟨o / 2, o % 2, by omega, by omega⟩
    obtain ⟨b', f, rfl, hf⟩ : ∃ b' f, b = 2 * b' + f ∧ f < 2 := ⟨b / 2, b % 2, by omega, by omega⟩
    rw [Nat.pow_succ] at ho
    have ho' : o' < 2 ^ k := by omega
    obtain ⟨h1, h2⟩ := sub_2 hf he hb
    obtain ⟨r1, r2, r3, r4⟩ := ih o' b' ho' h1
    have hee : e = 0 ∨ e = 1 := by omega
    have hsub : ∀ s, s &&& (2 * o' + e) = s → s / 2 &&& o' = s / 2 ∧ s % 2 ≤ e := by
      intro s hs
      have es : s = 2 * (s / 2) + s % 2 := by omega
      rw [es] at hs
      exact sub_2 (by omega) he hs
    rcases hee with rfl | rfl
    · have hf0 : f = 0 := by omega
      subst hf0
      have en : nxN (k + 1) (2 * o' + 0) (2 * b' + 0) = 2 * nxN k o' b' := by
        rw [nxN, show 2 * b' + 0 + 2 ^ (k + 1) - (2 * o' + 0) = 2 * (b' + 2 ^ k - o') + 0 from by rw [Nat.pow_succ]; omega, and_2 _ _ 0 0 (by omega) (by omega), nxN]
        simp
      rw [en]
      refine ⟨?_, fun z => by rw [r2 (by omega)], fun z => by have := r3 (by omega); omega, ?_⟩
      · have := and_2 (nxN k o' b') o' 0 0 (by omega) (by omega)
        simp only [Nat.add_zero] at this ⊢
        rw [this, r1]
        simp
      · intro s hs hlt
        obtain ⟨a1, a2⟩ := hsub s hs
        have := r4 (s / 2) a1 (by omega)
        omega
    · have hff : f = 0 ∨ f = 1 := by omega
      rcases hff with rfl | rfl
      · have en : nxN (k + 1) (2 * o' + 1) (2 * b' + 0) = 2 * b' + 1 := by
          rw [nxN, show 2 * b' + 0 + 2 ^ (k + 1) - (2 * o' + 1) = 2 * (b' + (2 ^ k - 1 - o')) + 1 from by rw [Nat.pow_succ]; omega, and_2 _ _ 1 1 (by omega) (by omega), nx_cp k o' b' ho' h1]
          simp
        rw [en]
        refine ⟨?_, fun z => by omega, fun _ => by omega, fun s _ hlt => by omega⟩
        rw [and_2 _ _ 1 1 (by omega) (by omega), h1]
        simp
      · have en : nxN (k + 1) (2 * o' + 1) (2 * b' + 1) = 2 * nxN k o' b' := by
          rw [nxN, show 2 * b' + 1 + 2 ^ (k + 1) - (2 * o' + 1) = 2 * (b' + 2 ^ k - o') + 0 from by rw [Nat.pow_succ]; omega, and_2 _ _ 0 1 (by omega) (by omega), nxN]
          simp
        rw [en]
        refine ⟨?_, fun z => by rw [r2 (by omega)], fun z => by have := r3 (by omega); omega, ?_⟩
        · have := and_2 (nxN k o' b') o' 0 1 (by omega) (by omega)
          simp only [Nat.add_zero] at this
          rw [this, r1]
          simp
        · intro s hs hlt
          obtain ⟨a1, a2⟩ := hsub s hs
          have := r4 (s / 2) a1 (by omega)
          omega
theorem nx_I {b o : Nat} (hb : b < 4096) (ho : o < 4096) : (nI b - nI o) &&& nI o = nI (nxN 32 o b) := by
  have e : nI b - nI o = nI (b + 2 ^ 32 - o) := by
    rw [← nI_sub (by omega), ← nI_add]
    have : nI (2 ^ 32) = nI 0 := by decide
    rw [this]
    congr 1
    exact (Int32.add_zero _).symm
  rw [e, nI_and]
  rfl
/-! the least sets of which something is so -/
def ctR (P : Nat → Nat → Bool) (N : Nat) : Nat → Nat → Option (Nat × Nat × Nat)
  | 0, _ => none
  | m + 1, z => if 0 < cn (P z) N 0 then some (z, (fo (P z) N 0).getD 0, cn (P z) N 0) else ctR P N m (z + 1)
theorem cn_s {C : Nat → Bool} {b : Nat} : cn C (b + 1) 0 = cn C b 0 + (if C b = true then 1 else 0) := by
  rw [cn_add, Nat.zero_add]
  simp only [cn, Nat.add_zero]
theorem fo_s {C : Nat → Bool} {b : Nat} : fo C (b + 1) 0 = (fo C b 0).or (if C b = true then some b else none) := by
  rw [fo_add, Nat.zero_add]
  rfl
theorem cn_sk {C : Nat → Bool} {a b : Nat} (hab : a ≤ b) (h : ∀ j, a ≤ j → j < b → C j = false) : cn C b 0 = cn C a 0 ∧ fo C b 0 = fo C a 0 := by
  obtain ⟨k, rfl⟩ : ∃ k, b = a + k := ⟨b - a, by omega⟩
  rw [cn_add, fo_add, Nat.zero_add, cn_0 (fun j h1 h2 => h j h1 h2), fo_0 (fun j h1 h2 => h j h1 h2), Option.or_none]
  exact ⟨rfl, rfl⟩
theorem cn_fo {C : Nat → Bool} : ∀ m i, cn C m i = 0 → fo C m i = none := by
  intro m
  induction m with
  | zero => intro i _; rfl
  | succ m ih =>
    intro i h
    simp only [cn] at h
    by_cases c : C i = true
    · rw [if_pos c] at h; omega
    · rw [if_neg c] at h
      simp only [fo, c]
      exact ih (i + 1) (by omega)
def CtI (P : Nat → Nat → Bool) (b l cb wy : Nat) : Prop := (wy = 0 ∧ l = 4 ∧ ∀ z, z ≤ 4 → cn (P z) b 0 = 0) ∨ (0 < wy ∧ l ≤ 4 ∧ (∀ z, z < l → cn (P z) b 0 = 0) ∧ cn (P l) b 0 = wy ∧ fo (P l) b 0 = some cb)
theorem CtI_skip {P : Nat → Nat → Bool} {a b l cb wy : Nat} (hab : a ≤ b) (h : ∀ z j, a ≤ j → j < b → P z j = false) (hi : CtI P a l cb wy) : CtI P b l cb wy := by
  have e := fun z => cn_sk (C := P z) hab (h z)
  rcases hi with ⟨h1, h2, h3⟩ | ⟨h1, h2, h3, h4, h5⟩
  · exact Or.inl ⟨h1, h2, fun z hz => by rw [(e z).1]; exact h3 z hz⟩
  · exact Or.inr ⟨h1, h2, fun z hz => by rw [(e z).1]; exact h3 z hz, by rw [(e l).1]; exact h4, by rw [(e l).2]; exact h5⟩
theorem CtI_no {P : Nat → Nat → Bool} {b l cb wy m : Nat} {c : Bool} (hP : ∀ z, P z b = (c && decide (m = z))) (hn : ¬ (m ≤ l ∧ c = true)) (hi : CtI P b l cb wy) : CtI P (b + 1) l cb wy := by
  have e : ∀ z, z ≤ l → P z b = false := by
    intro z hz
    rw [hP z]
    cases c
    · rfl
    · have : ¬ m = z := fun q => hn ⟨by omega, rfl⟩
      simp [this]
  rcases hi with ⟨h1, h2, h3⟩ | ⟨h1, h2, h3, h4, h5⟩
  · exact Or.inl ⟨h1, h2, fun z hz => by rw [cn_s, e z (by omega), h3 z hz]; rfl⟩
  · refine Or.inr ⟨h1, h2, fun z hz => by rw [cn_s, e z (by omega), h3 z hz]; rfl, by rw [cn_s, e l (Nat.le_refl _), h4]; rfl, by rw [fo_s, e l (Nat.le_refl _), h5]; rfl⟩
theorem CtI_new {P : Nat → Nat → Bool} {b l cb wy m : Nat} (hP : ∀ z, P z b = decide (m = z)) (hm : m ≤ l) (h0 : m < l ∨ wy = 0) (hi : CtI P b l cb wy) : CtI P (b + 1) m b 1 := by
  have z0 : ∀ z, z ≤ m → cn (P z) b 0 = 0 := by
    intro z hz
    rcases hi with ⟨h1, h2, h3⟩ | ⟨h1, h2, h3, h4, h5⟩
    · exact h3 z (by omega)
    · exact h3 z (by omega)
  have l4 : l ≤ 4 := by rcases hi with ⟨_, h2, _⟩ | ⟨_, h2, _⟩ <;> omega
  refine Or.inr ⟨by omega, by omega, fun z hz => ?_, ?_, ?_⟩
  · have : ¬ m = z := by omega
    rw [cn_s, z0 z (by omega), hP z]
    simp [this]
  · rw [cn_s, z0 m (Nat.le_refl _), hP m]
    simp
  · rw [fo_s, cn_fo _ _ (z0 m (Nat.le_refl _)), hP m]
    simp
theorem CtI_more {P : Nat → Nat → Bool} {b l cb wy : Nat} (hP : ∀ z, P z b = decide (l = z)) (h0 : wy ≠ 0) (hi : CtI P b l cb wy) : CtI P (b + 1) l cb (wy + 1) := by
  rcases hi with ⟨h1, _⟩ | ⟨h1, h2, h3, h4, h5⟩
  · exact absurd h1 h0
  · refine Or.inr ⟨by omega, h2, fun z hz => ?_, ?_, ?_⟩
    · have : ¬ l = z := by omega
      rw [cn_s, h3 z hz, hP z]
      simp [this]
    · rw [cn_s, h4, hP l]
      simp
    · rw [fo_s, h5, hP l]
      rfl
theorem CtI_end {P : Nat → Nat → Bool} {N l cb wy : Nat} (hi : CtI P N l cb wy) : (wy = 0 ∧ ctR P N 5 0 = none) ∨ (0 < wy ∧ ctR P N 5 0 = some (l, cb, wy)) := by
  have key : ∀ m z, (∀ y, y < z → y ≤ 4 → cn (P y) N 0 = 0) → z + m = 5 → (wy = 0 → ctR P N m z = none) ∧ (0 < wy → z ≤ l → ctR P N m z = some (l, cb, wy)) := by
    intro m
    induction m with
    | zero =>
      intro z hz hm
      refine ⟨fun _ => rfl, fun h hl => ?_⟩
      rcases hi with ⟨h1, _⟩ | ⟨_, h2, _⟩ <;> omega
    | succ m ih =>
      intro z hz hm
      rcases hi with ⟨h1, h2, h3⟩ | ⟨h1, h2, h3, h4, h5⟩
      · have e := h3 z (by omega)
        refine ⟨fun w => ?_, fun w => by omega⟩
        simp only [ctR, e, Nat.lt_irrefl, if_false]
        exact (ih (z + 1) (fun y hy h4 => h3 y h4) (by omega)).1 w
      · refine ⟨fun w => by omega, fun w hl => ?_⟩
        by_cases zl : z = l
        · subst zl
          simp only [ctR, h4, h1, if_true, h5, Option.getD_some]
        · have e := h3 z (by omega)
          simp only [ctR, e, Nat.lt_irrefl, if_false]
          refine (ih (z + 1) (fun y hy h4 => ?_) (by omega)).2 w (by omega)
          by_cases yz : y = z
          · subst yz; exact e
          · exact hz y (by omega) h4
  have := key 5 0 (fun y hy => absurd hy (by omega)) rfl
  by_cases w : wy = 0
  · exact Or.inl ⟨w, this.1 w⟩
  · exact Or.inr ⟨by omega, this.2 (by omega) (by omega)⟩
