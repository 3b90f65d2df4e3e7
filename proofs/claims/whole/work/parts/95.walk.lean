/-! walks, with their visits and their time -/
def Wk (E : Nat → Nat → Bool) (w : Nat → Nat → Nat) (t : Nat) : Nat → Nat → Nat → Prop
  | 0, h, a => h = t ∧ a = 0
  | s + 1, h, a => ∃ k b, E h k = true ∧ Wk E w t s k b ∧ a = w h k + b
def lex (a s b r : Nat) : Prop := a < b ∨ a = b ∧ s ≤ r
theorem lex_refl (a s : Nat) : lex a s a s := Or.inr ⟨rfl, Nat.le_refl _⟩
theorem lex_trans {a s b r c q : Nat} (h : lex a s b r) (g : lex b r c q) : lex a s c q := by
  simp only [lex] at *
  omega
theorem lex_add {a s b r : Nat} (x : Nat) (h : lex a s b r) : lex (x + a) (s + 1) (x + b) (r + 1) := by
  simp only [lex] at *
  omega
/-- the least walk from h, first by its time, then by its visits -/
def Lw (E : Nat → Nat → Bool) (w : Nat → Nat → Nat) (t h a s : Nat) : Prop := Wk E w t s h a ∧ ∀ b r, Wk E w t r h b → lex a s b r
theorem Lw_u {E : Nat → Nat → Bool} {w : Nat → Nat → Nat} {t h a s b r : Nat} (h1 : Lw E w t h a s) (h2 : Lw E w t h b r) : a = b ∧ s = r := by
  have g1 := h1.2 _ _ h2.1
  have g2 := h2.2 _ _ h1.1
  simp only [lex] at *
  omega
/-- numbers that no edge shortens are at most the walks -/
theorem bf_le {E : Nat → Nat → Bool} {w : Nat → Nat → Nat} {t : Nat} {D : Nat → Option (Nat × Nat)} (h0 : ∃ a s, D t = some (a, s) ∧ lex a s 0 0) (hE : ∀ h k a s, E h k = true → D k = some (a, s) → ∃ b r, D h = some (b, r) ∧ lex b r (w h k + a) (s + 1)) : ∀ s h a, Wk E w t s h a → ∃ b r, D h = some (b, r) ∧ lex b r a s := by
  intro s
  induction s with
  | zero =>
    intro h a hw
    obtain ⟨rfl, rfl⟩ := hw
    exact h0
  | succ s ih =>
    intro h a hw
    obtain ⟨k, b, he, hk, rfl⟩ := hw
    obtain ⟨b', r, e, l⟩ := ih k b hk
    obtain ⟨c, q, e', l'⟩ := hE h k b' r he e
    exact ⟨c, q, e', lex_trans l' (lex_add _ l)⟩
theorem bf_lw {E : Nat → Nat → Bool} {w : Nat → Nat → Nat} {t : Nat} {D : Nat → Option (Nat × Nat)} (h0 : ∃ a s, D t = some (a, s) ∧ lex a s 0 0) (hE : ∀ h k a s, E h k = true → D k = some (a, s) → ∃ b r, D h = some (b, r) ∧ lex b r (w h k + a) (s + 1)) (hW : ∀ h a s, D h = some (a, s) → Wk E w t s h a) {h a s : Nat} (hD : D h = some (a, s)) : Lw E w t h a s := by
  refine ⟨hW h a s hD, ?_⟩
  intro b r hb
  obtain ⟨b', r', e, l⟩ := bf_le h0 hE r h b hb
  rw [hD] at e
  simp only [Option.some.injEq, Prod.mk.injEq] at e
  rw [e.1, e.2]
  exact l
theorem bf_none {E : Nat → Nat → Bool} {w : Nat → Nat → Nat} {t : Nat} {D : Nat → Option (Nat × Nat)} (h0 : ∃ a s, D t = some (a, s) ∧ lex a s 0 0) (hE : ∀ h k a s, E h k = true → D k = some (a, s) → ∃ b r, D h = some (b, r) ∧ lex b r (w h k + a) (s + 1)) {h : Nat} (hD : D h = none) : ∀ a s, ¬ Wk E w t s h a := by
  intro a s hw
  obtain ⟨b, r, e, _⟩ := bf_le h0 hE s h a hw
  rw [hD] at e
  exact absurd e (by simp)
/-- the first step of a least walk goes on by a least walk -/
theorem Lw_step {E : Nat → Nat → Bool} {w : Nat → Nat → Nat} {t h k a s : Nat} (he : E h k = true) (hw : Wk E w t s k a) (hl : ∀ b r, Wk E w t r h b → lex (w h k + a) (s + 1) b r) : Lw E w t k a s := by
  refine ⟨hw, ?_⟩
  intro b r hb
  have := hl (w h k + b) (r + 1) ⟨k, b, he, hb, rfl⟩
  simp only [lex] at *
  omega
/-- walks put together -/
theorem Wk_app {E : Nat → Nat → Bool} {w : Nat → Nat → Nat} {t m : Nat} : ∀ s h a b r, Wk E w m s h a → Wk E w t r m b → Wk E w t (s + r) h (a + b) := by
  intro s
  induction s with
  | zero =>
    intro h a b r h1 h2
    obtain ⟨rfl, rfl⟩ := h1
    rw [Nat.zero_add, Nat.zero_add]
    exact h2
  | succ s ih =>
    intro h a b r h1 h2
    obtain ⟨k, c, he, hk, rfl⟩ := h1
    rw [show s + 1 + r = s + r + 1 from by omega]
    exact ⟨k, c + b, he, ih k c b r hk h2, by omega⟩
