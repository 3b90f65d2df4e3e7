/-! the class's measure: by one house after the other -/
def fl (M : Nat → Nat → Nat) : Nat → Nat → Nat → Nat
  | 0, i, j => M i j
  | k + 1, i, j => min (fl M k i j) (fl M k i k + fl M k k j)
theorem fl_s {M : Nat → Nat → Nat} {k i j : Nat} : fl M (k + 1) i j = min (fl M k i j) (fl M k i k + fl M k k j) := rfl
/-- row and column k stay as they are while one goes by k -/
theorem fl_col {M : Nat → Nat → Nat} {k i : Nat} : fl M (k + 1) i k = fl M k i k := by
  rw [fl_s]
  omega
theorem fl_row {M : Nat → Nat → Nat} {k j : Nat} : fl M (k + 1) k j = fl M k k j := by
  rw [fl_s]
  omega
theorem fl_le {M : Nat → Nat → Nat} {k i j : Nat} : fl M k i j ≤ M i j := by
  induction k with
  | zero => exact Nat.le_refl _
  | succ k ih =>
    rw [fl_s]
    omega
theorem fl_tri {M : Nat → Nat → Nat} : ∀ k m i j, m < k → fl M k i j ≤ fl M k i m + fl M k m j := by
  intro k
  induction k with
  | zero => intro m i j h; omega
  | succ k ih =>
    intro m i j h
    by_cases c : m = k
    · subst c
      rw [fl_col, fl_row, fl_s]
      omega
    · have hm : m < k := by omega
      have a1 := ih m i j hm
      have a2 := ih m k j hm
      have a3 := ih m i k hm
      rw [fl_s, fl_s, fl_s]
      omega
/-- what is below L is a walk's -/
theorem fl_wk {E : Nat → Nat → Bool} {w : Nat → Nat → Nat} {M : Nat → Nat → Nat} {L : Nat} (h0 : ∀ i j, M i j < L → ∃ a s, Wk E w j s i a ∧ M i j = 64 * a + s) : ∀ k i j, fl M k i j < L → ∃ a s, Wk E w j s i a ∧ fl M k i j = 64 * a + s := by
  intro k
  induction k with
  | zero => exact h0
  | succ k ih =>
    intro i j h
    rw [fl_s] at h ⊢
    by_cases c : fl M k i j ≤ fl M k i k + fl M k k j
    · rw [Nat.min_eq_left c] at h ⊢
      exact ih i j h
    · rw [Nat.min_eq_right (by omega)] at h ⊢
      obtain ⟨a, s, h1, e1⟩ := ih i k (by omega)
      obtain ⟨b, r, h2, e2⟩ := ih k j (by omega)
      exact ⟨a + b, s + r, Wk_app s i a b r h1 h2, by omega⟩
theorem fl_least {E : Nat → Nat → Bool} {w : Nat → Nat → Nat} {M : Nat → Nat → Nat} {n t : Nat} (hE : ∀ h k, E h k = true → k < n ∧ M h k = 64 * w h k + 1) (ht : M t t = 0) : ∀ s h a, Wk E w t s h a → fl M n h t ≤ 64 * a + s := by
  intro s
  induction s with
  | zero =>
    intro h a hw
    obtain ⟨rfl, rfl⟩ := hw
    have := fl_le (M := M) (k := n) (i := h) (j := h)
    omega
  | succ s ih =>
    intro h a hw
    obtain ⟨k, b, he, hk, rfl⟩ := hw
    obtain ⟨kn, ek⟩ := hE h k he
    have a1 := ih k b hk
    have a2 := fl_tri (M := M) n k h t kn
    have a3 := fl_le (M := M) (k := n) (i := h) (j := k)
    omega
/-- the class's number is the least walk's -/
theorem fl_Lw {E : Nat → Nat → Bool} {w : Nat → Nat → Nat} {M : Nat → Nat → Nat} {n t h a s L : Nat} (hE : ∀ h k, E h k = true → k < n ∧ M h k = 64 * w h k + 1) (ht : M t t = 0) (h0 : ∀ i j, M i j < L → ∃ a s, Wk E w j s i a ∧ M i j = 64 * a + s) (hn : n ≤ 64) (hh : h < n) (hl : Lw E w t h a s) (hL : 64 * a + s < L) : fl M n h t = 64 * a + s := by
  have hs := Lw_lt (fun h k he => (hE h k he).1) hh hl
  have g1 := fl_least hE ht s h a hl.1
  obtain ⟨a0, s0, hw, e⟩ := fl_wk h0 n h t (by omega)
  obtain ⟨e1, e2⟩ := Lw_64 hl (by omega) hw (fun b r hb => by rw [← e]; exact fl_least hE ht r h b hb)
  rw [e, e1, e2]
