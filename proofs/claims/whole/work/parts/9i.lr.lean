/-! rounds: the least, pure -/
def mnF (P : Nat → Bool) (f : Nat → Nat) : Nat → Nat
  | 0 => 1000000
  | m + 1 => if P m = true then min (mnF P f m) (f m) else mnF P f m
theorem le_mnF {P : Nat → Bool} {f : Nat → Nat} {x : Nat} : ∀ m, x ≤ mnF P f m ↔ (x ≤ 1000000 ∧ ∀ j, j < m → P j = true → x ≤ f j) := by
  intro m
  induction m with
  | zero => simp [mnF]
  | succ m ih =>
    rw [mnF]
    by_cases c : P m = true
    · rw [if_pos c, Nat.le_min, ih]
      constructor
      · rintro ⟨⟨h1, h2⟩, h3⟩
        refine ⟨h1, fun j hj hp => ?_⟩
        by_cases q : j = m
        · rw [q]; exact h3
        · exact h2 j (by omega) hp
      · rintro ⟨h1, h2⟩
        exact ⟨⟨h1, fun j hj hp => h2 j (by omega) hp⟩, h2 m (by omega) c⟩
    · rw [if_neg c, ih]
      constructor
      · rintro ⟨h1, h2⟩
        refine ⟨h1, fun j hj hp => ?_⟩
        by_cases q : j = m
        · rw [q] at hp; exact absurd hp c
        · exact h2 j (by omega) hp
      · rintro ⟨h1, h2⟩
        exact ⟨h1, fun j hj hp => h2 j (by omega) hp⟩
theorem mnF_le {P : Nat → Bool} {f : Nat → Nat} {m : Nat} : mnF P f m ≤ 1000000 := ((le_mnF m).mp (Nat.le_refl _)).1
theorem mnF_lf {P : Nat → Bool} {f : Nat → Nat} {m j : Nat} (hj : j < m) (hp : P j = true) : mnF P f m ≤ f j := ((le_mnF m).mp (Nat.le_refl _)).2 j hj hp
theorem mnF_at {P : Nat → Bool} {f : Nat → Nat} : ∀ m, mnF P f m < 1000000 → ∃ j, j < m ∧ P j = true ∧ mnF P f m = f j := by
  intro m
  induction m with
  | zero => intro h; simp [mnF] at h
  | succ m ih =>
    intro h
    rw [mnF] at h ⊢
    by_cases c : P m = true
    · rw [if_pos c] at h ⊢
      by_cases q : mnF P f m ≤ f m
      · rw [Nat.min_eq_left q] at h ⊢
        obtain ⟨j, h1, h2, h3⟩ := ih h
        exact ⟨j, by omega, h2, h3⟩
      · rw [Nat.min_eq_right (by omega)]
        exact ⟨m, by omega, c, rfl⟩
    · rw [if_neg c] at h ⊢
      obtain ⟨j, h1, h2, h3⟩ := ih h
      exact ⟨j, by omega, h2, h3⟩
theorem mnF_c {P : Nat → Bool} {f g : Nat → Nat} {m : Nat} (h : ∀ j, j < m → P j = true → f j = g j) : mnF P f m = mnF P g m := by
  refine Nat.le_antisymm ?_ ?_
  · rw [le_mnF]
    exact ⟨mnF_le, fun j hj hp => by rw [← h j hj hp]; exact mnF_lf hj hp⟩
  · rw [le_mnF]
    exact ⟨mnF_le, fun j hj hp => by rw [h j hj hp]; exact mnF_lf hj hp⟩
theorem ad_lt2 {td j : Nat} (h : td.testBit j = true) : ad td (2 ^ j) < td := by
  have e : ad td (2 ^ j) &&& td = ad td (2 ^ j) := by
    refine Nat.eq_of_testBit_eq (fun i => ?_)
    rw [Nat.testBit_and, tb_ad]
    cases td.testBit i <;> simp
  have le : ad td (2 ^ j) ≤ td := by
    rw [← e]
    exact Nat.and_le_right
  refine Nat.lt_of_le_of_ne le (fun z => ?_)
  have := congrArg (fun x => x.testBit j) z
  simp only [tb_ad, h, Nat.testBit_two_pow_self] at this
  exact absurd this (by simp)
def Lr (D : Nat → Nat → Nat) (hm n : Nat) : Nat → Nat → Nat → Nat
  | 0, _, a => D a hm
  | k + 1, td, a => if td = 0 then D a hm else mnF (fun j => td.testBit j) (fun j => D a j + Lr D hm n k (ad td (2 ^ j)) j) n
theorem Lr_fu {D : Nat → Nat → Nat} {hm n : Nat} : ∀ F F' td a, td < F → td < F' → Lr D hm n F td a = Lr D hm n F' td a := by
  intro F
  induction F with
  | zero => intro F' td a h; omega
  | succ F ih =>
    intro F' td a h h'
    cases F' with
    | zero => omega
    | succ F' =>
      rw [Lr, Lr]
      by_cases c : td = 0
      · rw [if_pos c, if_pos c]
      · rw [if_neg c, if_neg c]
        refine mnF_c ?_
        intro j _ hj
        have := ad_lt2 hj
        rw [ih F' _ j (by omega) (by omega)]
def lr (D : Nat → Nat → Nat) (hm n td a : Nat) : Nat := Lr D hm n (td + 1) td a
theorem lr_0 {D : Nat → Nat → Nat} {hm n a : Nat} : lr D hm n 0 a = D a hm := by
  rw [lr, Lr, if_pos rfl]
theorem lr_s {D : Nat → Nat → Nat} {hm n td a : Nat} (h : td ≠ 0) : lr D hm n td a = mnF (fun j => td.testBit j) (fun j => D a j + lr D hm n (ad td (2 ^ j)) j) n := by
  rw [lr, Lr, if_neg h]
  refine mnF_c ?_
  intro j _ hj
  have := ad_lt2 hj
  rw [lr, Lr_fu td (ad td (2 ^ j) + 1) _ j this (by omega)]
theorem lr_le {D : Nat → Nat → Nat} {hm n td a : Nat} (hD : ∀ a b, D a b ≤ 1000000) : lr D hm n td a ≤ 1000000 := by
  by_cases c : td = 0
  · rw [c, lr_0]; exact hD _ _
  · rw [lr_s c]; exact mnF_le
/-- the first errand by which the least can be had -/
def nxB (D : Nat → Nat → Nat) (hm n td a j : Nat) : Bool := td.testBit j && decide (D a j + lr D hm n (ad td (2 ^ j)) j = lr D hm n td a)
theorem nx_ex {D : Nat → Nat → Nat} {hm n td a : Nat} (h : td ≠ 0) (hl : lr D hm n td a < 1000000) : ∃ j, fo (nxB D hm n td a) n 0 = some j ∧ j < n ∧ td.testBit j = true ∧ D a j < 1000000 ∧ lr D hm n (ad td (2 ^ j)) j < 1000000 := by
  have hl' := hl
  rw [lr_s h] at hl'
  obtain ⟨j0, h1, h2, h3⟩ := mnF_at n hl'
  rw [← lr_s h] at h3
  have n0 : nxB D hm n td a j0 = true := by
    rw [nxB, Bool.and_eq_true, decide_eq_true_eq]
    exact ⟨h2, h3.symm⟩
  cases q : fo (nxB D hm n td a) n 0 with
  | none =>
    have := fo_none _ _ q j0 (by omega) (by omega)
    rw [n0] at this
    exact absurd this (by simp)
  | some j =>
    obtain ⟨q1, _, q3⟩ := fo_in _ _ _ q
    rw [nxB, Bool.and_eq_true, decide_eq_true_eq] at q1
    exact ⟨j, rfl, by omega, q1.1, by omega, by omega⟩
/-- where one is after so many errands -/
def sp (D : Nat → Nat → Nat) (hm n : Nat) : Nat → Nat → Nat → Nat
  | 0, _, a => a
  | m + 1, td, a => sp D hm n m (ad td (2 ^ ((fo (nxB D hm n td a) n 0).getD 0))) ((fo (nxB D hm n td a) n 0).getD 0)
theorem sp_s {D : Nat → Nat → Nat} {hm n td a j : Nat} (q : fo (nxB D hm n td a) n 0 = some j) (m : Nat) : sp D hm n (m + 1) td a = sp D hm n m (ad td (2 ^ j)) j := by
  rw [sp, q]
  rfl
/-! the class's list of errands against the houses -/
section
variable {D : Nat → Nat → Nat} {e : Nat → Nat} {s n : Nat}
def tm (e : Nat → Nat) (s r : Nat) : Nat := orU (fun i => if r.testBit i = true then 2 ^ e i else 0) s
theorem tb_tm {r j : Nat} : (tm e s r).testBit j = true ↔ ∃ i, i < s ∧ r.testBit i = true ∧ e i = j := by
  rw [tm, tb_orU]
  constructor
  · rintro ⟨i, h1, h2⟩
    by_cases c : r.testBit i = true
    · rw [if_pos c, Nat.testBit_two_pow, decide_eq_true_eq] at h2
      exact ⟨i, h1, c, h2⟩
    · rw [if_neg c] at h2
      simp at h2
  · rintro ⟨i, h1, h2, h3⟩
    exact ⟨i, h1, by rw [if_pos h2, h3, Nat.testBit_two_pow_self]⟩
theorem tm_ad {r i : Nat} (hm : ∀ i j, i < j → j < s → e i < e j) (hi : i < s) : tm e s (ad r (2 ^ i)) = ad (tm e s r) (2 ^ e i) := by
  have inj : ∀ a b, a < s → b < s → e a = e b → a = b := by
    intro a b ha hb hab
    by_cases c : a < b
    · have := hm a b c hb; omega
    · by_cases c2 : b < a
      · have := hm b a c2 ha; omega
      · omega
  refine Nat.eq_of_testBit_eq (fun j => ?_)
  rw [Bool.eq_iff_iff, tb_ad, Bool.and_eq_true, tb_tm, tb_tm]
  constructor
  · rintro ⟨a, h1, h2, h3⟩
    rw [tb_ad, Bool.and_eq_true, Nat.testBit_two_pow] at h2
    refine ⟨⟨a, h1, h2.1, h3⟩, ?_⟩
    rw [Nat.testBit_two_pow]
    have : ¬ e i = j := by
      rw [← h3]
      intro z
      have := inj i a hi h1 z
      rw [this] at h2
      simp at h2
    simp [this]
  · rintro ⟨⟨a, h1, h2, h3⟩, h4⟩
    refine ⟨a, h1, ?_, h3⟩
    rw [tb_ad, h2, Nat.testBit_two_pow]
    have : ¬ i = a := by
      intro z
      rw [z, h3, Nat.testBit_two_pow_self] at h4
      simp at h4
    simp [this]
theorem lr_map (hm : ∀ i j, i < j → j < s → e i < e j) (hn : ∀ i, i < s → e i < n) : ∀ N r a, r < N → r < 2 ^ s → lr (fun i j => D (e i) (e j)) s s r a = lr D (e s) n (tm e s r) (e a) := by
  intro N
  induction N with
  | zero => intro r a h; omega
  | succ N ih =>
    intro r a h hr
    by_cases c : r = 0
    · have : tm e s 0 = 0 := by
        refine Nat.eq_of_testBit_eq (fun j => ?_)
        rw [Bool.eq_iff_iff, tb_tm]
        simp
      rw [c, this, lr_0, lr_0]
    · have bit : ∀ i, r.testBit i = true → i < s := by
        intro i hi
        by_cases z : i < s
        · exact z
        · rw [tb_lt hr (by omega)] at hi
          exact absurd hi (by simp)
      have tn : tm e s r ≠ 0 := by
        intro z
        refine c (Nat.eq_of_testBit_eq (fun i => ?_))
        rw [Nat.zero_testBit]
        cases q : r.testBit i
        · rfl
        · have := (tb_tm (e := e) (s := s) (r := r) (j := e i)).mpr ⟨i, bit i q, q, rfl⟩
          rw [z] at this
          simp at this
      have key : ∀ i, r.testBit i = true → (fun j => D (e a) j + lr D (e s) n (ad (tm e s r) (2 ^ j)) j) (e i) = D (e a) (e i) + lr (fun i j => D (e i) (e j)) s s (ad r (2 ^ i)) i := by
        intro i hi
        have l := ad_lt2 hi
        show D (e a) (e i) + lr D (e s) n (ad (tm e s r) (2 ^ e i)) (e i) = _
        rw [ih _ i (by omega) (by omega), tm_ad hm (bit i hi)]
      rw [lr_s c, lr_s tn]
      refine Nat.le_antisymm ?_ ?_
      · rw [le_mnF]
        refine ⟨mnF_le, fun j hj hp => ?_⟩
        obtain ⟨i, h1, h2, h3⟩ := tb_tm.mp hp
        have k := key i h2
        simp only at k
        rw [← h3, k]
        exact mnF_lf (f := fun j => D (e a) (e j) + lr (fun i j => D (e i) (e j)) s s (ad r (2 ^ j)) j) h1 h2
      · rw [le_mnF]
        refine ⟨mnF_le, fun i hi hp => ?_⟩
        have k := key i hp
        simp only at k
        rw [← k]
        exact mnF_lf (f := fun j => D (e a) j + lr D (e s) n (ad (tm e s r) (2 ^ j)) j) (hn i hi) (tb_tm.mpr ⟨i, hi, hp, rfl⟩)
theorem fo_map {C C' : Nat → Bool} {i : Nat} (hm : ∀ i j, i < j → j < s → e i < e j) (hn : ∀ i, i < s → e i < n) (hC : ∀ j, C j = true ↔ ∃ i, i < s ∧ C' i = true ∧ e i = j) (q : fo C' s 0 = some i) : fo C n 0 = some (e i) := by
  obtain ⟨q1, _, q3⟩ := fo_in _ _ _ q
  have hi : i < s := by omega
  have ci : C (e i) = true := (hC (e i)).mpr ⟨i, hi, q1, rfl⟩
  have fst : ∀ a, a < i → C' a = false := by
    have : ∀ m k, fo C' m k = some i → ∀ a, k ≤ a → a < i → C' a = false := by
      intro m
      induction m with
      | zero => intro k h; simp [fo] at h
      | succ m ih =>
        intro k h a h1 h2
        rw [fo] at h
        by_cases c : C' k = true
        · rw [if_pos c] at h
          have : k = i := by simpa using h
          omega
        · rw [if_neg c] at h
          by_cases z : a = k
          · rw [z]; simpa using c
          · exact ih (k + 1) h a (by omega) h2
    exact fun a ha => this s 0 q a (by omega) ha
  have low : ∀ j, j < e i → C j = false := by
    intro j hj
    cases c : C j
    · rfl
    · obtain ⟨a, h1, h2, h3⟩ := (hC j).mp c
      by_cases z : a < i
      · rw [fst a z] at h2; exact absurd h2 (by simp)
      · by_cases z2 : a = i
        · rw [z2] at h3; omega
        · have := hm i a (by omega) h1
          omega
  have : ∀ m k, k + m = n → k ≤ e i → fo C m k = some (e i) := by
    intro m
    induction m with
    | zero => intro k h1 h2; have := hn i hi; omega
    | succ m ih =>
      intro k h1 h2
      rw [fo]
      by_cases z : k = e i
      · rw [z, if_pos ci]
      · rw [if_neg (by rw [low k (by omega)]; simp)]
        exact ih (k + 1) (by omega) (by omega)
  exact this n 0 (by omega) (by omega)
theorem sp_map (hm : ∀ i j, i < j → j < s → e i < e j) (hn : ∀ i, i < s → e i < n) : ∀ m r a, r < 2 ^ s → (∀ k, k < m → True) → lr (fun i j => D (e i) (e j)) s s r a < 1000000 → m ≤ cn (fun i => r.testBit i) s 0 → e (sp (fun i j => D (e i) (e j)) s s m r a) = sp D (e s) n m (tm e s r) (e a) := by
  intro m
  induction m with
  | zero => intro r a _ _ _ _; rfl
  | succ m ih =>
    intro r a hr _ hl hc
    have r0 : r ≠ 0 := by
      intro z
      rw [z, cn_0 (fun j _ _ => by simp)] at hc
      omega
    obtain ⟨i, q, hi, hb, hd, hl2⟩ := nx_ex r0 hl
    have q2 : fo (nxB D (e s) n (tm e s r) (e a)) n 0 = some (e i) := by
      refine fo_map (C' := nxB (fun i j => D (e i) (e j)) s s r a) hm hn ?_ q
      intro j
      rw [nxB, Bool.and_eq_true, decide_eq_true_eq]
      constructor
      · rintro ⟨h1, h2⟩
        obtain ⟨b, b1, b2, b3⟩ := tb_tm.mp h1
        refine ⟨b, b1, ?_, b3⟩
        have l := ad_lt2 b2
        rw [nxB, b2, Bool.true_and, decide_eq_true_eq, lr_map hm hn _ _ _ (Nat.lt_succ_self _) hr, lr_map hm hn _ _ _ (Nat.lt_succ_self _) (by omega), tm_ad hm b1, b3]
        exact h2
      · rintro ⟨b, b1, b2, b3⟩
        rw [nxB, Bool.and_eq_true, decide_eq_true_eq] at b2
        have l := ad_lt2 b2.1
        refine ⟨tb_tm.mpr ⟨b, b1, b2.1, b3⟩, ?_⟩
        have b4 := b2.2
        rw [lr_map hm hn _ _ _ (Nat.lt_succ_self _) hr, lr_map hm hn _ _ _ (Nat.lt_succ_self _) (by omega), tm_ad hm b1, b3] at b4
        exact b4
    have l := ad_lt2 hb
    rw [sp_s q, sp_s q2, ← tm_ad hm hi]
    refine ih _ _ (by omega) (fun _ _ => trivial) hl2 ?_
    have : cn (fun j => r.testBit j) s 0 = cn (fun j => (ad r (2 ^ i)).testBit j) s 0 + 1 := by
      refine cn_set (h := i) ?_ ?_ hb s 0 (by omega) (by omega)
      · intro j hj
        rw [tb_ad, Nat.testBit_two_pow]
        have : ¬ i = j := fun z => hj z.symm
        simp [this]
      · rw [tb_ad, Nat.testBit_two_pow_self]
        simp
    omega
end
