/-! a least walk comes to no house twice -/
noncomputable def LwC (E : Nat → Nat → Bool) (w : Nat → Nat → Nat) (t i v : Nat) : Bool := @decide (∃ b j, j ≤ i ∧ Lw E w t v b j) (Classical.propDecidable _)
theorem Lw_sub {E : Nat → Nat → Bool} {w : Nat → Nat → Nat} {t h a s : Nat} (hl : Lw E w t h a (s + 1)) : ∃ k b, E h k = true ∧ Lw E w t k b s ∧ a = w h k + b := by
  obtain ⟨k, b, he, hk, e⟩ := hl.1
  refine ⟨k, b, he, Lw_step he hk ?_, e⟩
  intro c r hc
  rw [← e]
  exact hl.2 c r hc
theorem Lw_i {E : Nat → Nat → Bool} {w : Nat → Nat → Nat} {t n : Nat} (hE : ∀ h k, E h k = true → k < n) : ∀ s h a, h < n → Lw E w t h a s → ∀ i, i ≤ s → ∃ v b, v < n ∧ Lw E w t v b i := by
  intro s
  induction s with
  | zero =>
    intro h a hh hl i hi
    have : i = 0 := by omega
    subst this
    exact ⟨h, a, hh, hl⟩
  | succ s ih =>
    intro h a hh hl i hi
    by_cases c : i = s + 1
    · subst c
      exact ⟨h, a, hh, hl⟩
    · obtain ⟨k, b, he, hk, _⟩ := Lw_sub hl
      exact ih k b (hE _ _ he) hk i (by omega)
theorem Lw_cn {E : Nat → Nat → Bool} {w : Nat → Nat → Nat} {t n s : Nat} (h : ∀ i, i ≤ s → ∃ v b, v < n ∧ Lw E w t v b i) : ∀ i, i ≤ s → i + 1 ≤ cn (LwC E w t i) n 0 := by
  intro i
  induction i with
  | zero =>
    intro hi
    obtain ⟨v, b, hv, hl⟩ := h 0 hi
    have := cn_st (C := fun _ => false) (C' := LwC E w t 0) (fun j hj => absurd hj (by simp)) (k := v) rfl (by simp only [LwC, decide_eq_true_iff]; exact ⟨b, 0, Nat.le_refl _, hl⟩) n 0 (Nat.zero_le _) (by omega)
    omega
  | succ i ih =>
    intro hi
    have := ih (by omega)
    obtain ⟨v, b, hv, hl⟩ := h (i + 1) hi
    have g := cn_st (C := LwC E w t i) (C' := LwC E w t (i + 1)) (fun j hj => by
      simp only [LwC, decide_eq_true_iff] at hj ⊢
      obtain ⟨b, q, hq, hb⟩ := hj
      exact ⟨b, q, by omega, hb⟩) (k := v) (by
      simp only [LwC, decide_eq_false_iff_not]
      rintro ⟨b', q, hq, hb⟩
      have := (Lw_u hl hb).2
      omega) (by
      simp only [LwC, decide_eq_true_iff]
      exact ⟨b, i + 1, Nat.le_refl _, hl⟩) n 0 (Nat.zero_le _) (by omega)
    omega
theorem Lw_lt {E : Nat → Nat → Bool} {w : Nat → Nat → Nat} {t n h a s : Nat} (hE : ∀ h k, E h k = true → k < n) (hh : h < n) (hl : Lw E w t h a s) : s < n := by
  have := Lw_cn (Lw_i hE s h a hh hl) s (Nat.le_refl _)
  have g := cn_le (LwC E w t s) n 0
  omega
/-- the least by 64 times the time and the visits is the least walk -/
theorem Lw_64 {E : Nat → Nat → Bool} {w : Nat → Nat → Nat} {t h a s a0 s0 : Nat} (hl : Lw E w t h a s) (hs : s < 64) (hw : Wk E w t s0 h a0) (hm : ∀ b r, Wk E w t r h b → 64 * a0 + s0 ≤ 64 * b + r) : a0 = a ∧ s0 = s := by
  have g1 := hm a s hl.1
  have g2 := hl.2 a0 s0 hw
  simp only [lex] at g2
  omega
