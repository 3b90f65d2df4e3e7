/-! what a law says: a sum's, a test's meaning by the words asked (none: broken) -/
abbrev zS : Type := (Nat → Int32) → Option Int64
abbrev zT : Type := (Nat → Int32) → Option Bool
/-- a clause: takes; tested; its sum; its test -/
abbrev zC : Type := Bool × Bool × zS × zT
def zLim (v : Int64) : Option Int64 := if 1000000000 < v ∨ v < -1000000000 then none else some v
def zOp (k : Nat) (a b : Int64) : Option Int64 := if k = 3 ∧ b = 0 then none else zLim (if k = 0 then a + b else if k = 1 then a - b else if k = 2 then a * b else a / b)
def dOp (k : Nat) (f g : zS) : zS := fun W => match f W with
  | none => none
  | some a => match g W with
    | none => none
    | some b => zOp k a b
def zCp (k : Nat) (a b : Int64) : Bool := if k = 160 then decide (a < b) else if k = 162 then decide (b < a) else decide (a = b)
def dCmp (k : Nat) (f g : zS) : zT := fun W => match f W with
  | none => none
  | some a => match g W with
    | none => none
    | some b => some (zCp k a b)
def dNot (tn : Bool) (e : zT) : zT := fun W => (e W).map (fun b => b != tn)
def dAnd (e g : zT) : zT := fun W => match e W with
  | none => none
  | some false => some false
  | some true => g W
def dOr (e g : zT) : zT := fun W => match e W with
  | none => none
  | some true => some true
  | some false => g W
/-- a reading: the token that can't go on, or the next token, the parts so far, the meaning -/
abbrev zR (α : Type) : Type := Nat ⊕ (Nat × Nat × α)
def pPart (c v : Nat → Nat) (S : Nat → Nat → zR zS) (b : Bool) (t q : Nat) : zR zS :=
  if c t = 191 then (if b = true then (match S (t + 1) q with
    | .inl e => .inl e
    | .inr (t', q', f) => if c t' = 193 then .inr (t' + 1, q', f) else .inl t') else .inl t)
  else if (c t = 50 ∧ v t ≤ 1000 ∨ 7 ≤ c t ∧ c t ≤ 15) ∧ q < 50 then .inr (t + 1, q + 1, fun W => some (if c t = 50 then (nI (v t)).toInt64 else (W (c t - 7)).toInt64)) else .inl t
def pLoop {α : Type} (c : Nat → Nat) (o1 o2 : Nat) (P : Nat → Nat → zR α) (cb : Nat → α → α → α) : Nat → Nat → Nat → α → zR α
  | 0, t, q, f => .inr (t, q, f)
  | n + 1, t, q, f => if c t = o1 ∨ c t = o2 then (match P (t + 1) q with
    | .inl e => .inl e
    | .inr (t', q', g) => pLoop c o1 o2 P cb n t' q' (cb (c t) f g)) else .inr (t, q, f)
def pChain {α : Type} (c : Nat → Nat) (o1 o2 : Nat) (P : Nat → Nat → zR α) (cb : Nat → α → α → α) (F t q : Nat) : zR α := match P t q with
  | .inl e => .inl e
  | .inr (t', q', f) => pLoop c o1 o2 P cb F t' q' f
def cbT (k : Nat) : zS → zS → zS := dOp (if k = 142 then 2 else 3)
def cbS (k : Nat) : zS → zS → zS := dOp (if k = 143 then 0 else 1)
def pSumD (c v : Nat → Nat) (F : Nat) : Nat → Nat → Nat → zR zS
  | 0 => pChain c 143 145 (pChain c 142 147 (pPart c v (fun t _ => .inl t) false) cbT F) cbS F
  | r + 1 => pChain c 143 145 (pChain c 142 147 (pPart c v (pSumD c v F r) true) cbT F) cbS F
def pNots (c : Nat → Nat) : Nat → Nat → Bool → Nat × Bool
  | 0, t, b => (t, b)
  | n + 1, t, b => if c t = 6 then pNots c n (t + 1) (!b) else (t, b)
def pPos (c : Nat → Nat) (S : Nat → Nat → zR zS) (T : Nat → Nat → zR zT) (b : Bool) (t q : Nat) : zR zT :=
  if c t = 140 then (if b = true then (match T (t + 1) q with
    | .inl e => .inl e
    | .inr (t', q', e) => if c t' = 141 then .inr (t' + 1, q', e) else .inl t') else .inl t)
  else match S t q with
    | .inl e => .inl e
    | .inr (t1, q1, f) => if c t1 = 160 ∨ c t1 = 162 ∨ c t1 = 161 then (match S (t1 + 1) q1 with
      | .inl e => .inl e
      | .inr (t2, q2, g) => .inr (t2, q2, dCmp (c t1) f g)) else .inl t1
def pPlain (c : Nat → Nat) (S : Nat → Nat → zR zS) (T : Nat → Nat → zR zT) (b : Bool) (F t q : Nat) : zR zT := match pPos c S T b (pNots c F t false).1 q with
  | .inl e => .inl e
  | .inr (t', q', e) => .inr (t', q', dNot (pNots c F t false).2 e)
def pTestD (c v : Nat → Nat) (F : Nat) : Nat → Nat → Nat → zR zT
  | 0 => pChain c 4 4 (pChain c 5 5 (pPlain c (pSumD c v F 0) (fun t _ => .inl t) false F) (fun _ => dAnd) F) (fun _ => dOr) F
  | r + 1 => pChain c 4 4 (pChain c 5 5 (pPlain c (pSumD c v F (r + 1)) (pTestD c v F r) true F) (fun _ => dAnd) F) (fun _ => dOr) F
def pHead (c v : Nat → Nat) (F t q : Nat) : zR zS := if c t = 1 then pSumD c v F 8 (t + 1) q else if c t = 2 then .inr (t + 1, q, fun _ => some 0) else .inl t
def pClause (c v : Nat → Nat) (F t q : Nat) : zR zC := match pHead c v F t q with
  | .inl e => .inl e
  | .inr (t1, q1, f) => if c t1 = 3 then (match pTestD c v F 8 (t1 + 1) q1 with
    | .inl e => .inl e
    | .inr (t2, q2, e) => .inr (t2, q2, decide (c t = 1), true, f, e)) else .inr (t1, q1, decide (c t = 1), false, f, fun _ => some true)
def pLawL (c v : Nat → Nat) (F n : Nat) : Nat → Nat → Nat → zR (List zC)
  | 0, t, _ => .inl t
  | k + 1, t, q => match pClause c v F t q with
    | .inl e => .inl e
    | .inr (t', q', cl) => if c t' = 159 then (match pLawL c v F n k (t' + 1) q' with
      | .inl e => .inl e
      | .inr (t'', q'', L) => .inr (t'', q'', cl :: L)) else if t' < n then .inl t' else .inr (t', q', [cl])
/-- a clause holds -/
def zHo (cl : zC) (W : Nat → Int32) : Bool := (cl.2.2.1 W).isSome && decide (cl.2.2.2 W = some true)
def zBar (L : List zC) (W : Nat → Int32) : Bool := L.any (fun cl => !cl.1 && zHo cl W)
def zClp (o : Option Int64) : Int32 := match o with
  | none => 1
  | some v => if v < 1 then 1 else if 99 < v then 99 else v.toInt32
def zTkF (W : Nat → Int32) (a : Int32) (cl : zC) : Int32 := if (cl.1 && zHo cl W) = true then zClp (cl.2.2.1 W) else a
def zTak (L : List zC) (W : Nat → Int32) : Int32 := L.foldl (zTkF W) 1
/-! inversions -/
theorem pPart_r {c v : Nat → Nat} {S : Nat → Nat → zR zS} {b : Bool} {t q t' q' : Nat} {f : zS} (h : pPart c v S b t q = .inr (t', q', f)) : (c t = 191 ∧ ∃ t1, S (t + 1) q = .inr (t1, q', f) ∧ c t1 = 193 ∧ t' = t1 + 1) ∨ (c t ≠ 191 ∧ (c t = 50 ∧ v t ≤ 1000 ∨ 7 ≤ c t ∧ c t ≤ 15) ∧ t' = t + 1 ∧ q' = q + 1 ∧ f = fun W => some (if c t = 50 then (nI (v t)).toInt64 else (W (c t - 7)).toInt64)) := by
  simp only [pPart] at h
  by_cases h1 : c t = 191
  · rw [if_pos h1] at h
    by_cases hb : b = true
    · rw [if_pos hb] at h
      cases hS : S (t + 1) q with
      | inl e => rw [hS] at h; cases h
      | inr x =>
        obtain ⟨t1, q1, g⟩ := x
        rw [hS] at h
        simp only at h
        by_cases h3 : c t1 = 193
        · rw [if_pos h3] at h
          cases h
          exact Or.inl ⟨h1, t1, rfl, h3, rfl⟩
        · rw [if_neg h3] at h; cases h
    · rw [if_neg hb] at h; cases h
  · rw [if_neg h1] at h
    by_cases h2 : (c t = 50 ∧ v t ≤ 1000 ∨ 7 ≤ c t ∧ c t ≤ 15) ∧ q < 50
    · rw [if_pos h2] at h
      cases h
      exact Or.inr ⟨h1, h2.1, rfl, rfl, rfl⟩
    · rw [if_neg h2] at h; cases h
theorem pChain_r {α : Type} {c : Nat → Nat} {o1 o2 : Nat} {P : Nat → Nat → zR α} {cb : Nat → α → α → α} {F t q t' q' : Nat} {f : α} (h : pChain c o1 o2 P cb F t q = .inr (t', q', f)) : ∃ t1 q1 f1, P t q = .inr (t1, q1, f1) ∧ pLoop c o1 o2 P cb F t1 q1 f1 = .inr (t', q', f) := by
  simp only [pChain] at h
  cases hP : P t q with
  | inl e => rw [hP] at h; cases h
  | inr x =>
    obtain ⟨t1, q1, g⟩ := x
    rw [hP] at h
    exact ⟨t1, q1, g, rfl, h⟩
theorem pLoop_r {α : Type} {c : Nat → Nat} {o1 o2 : Nat} {P : Nat → Nat → zR α} {cb : Nat → α → α → α} {n t q t' q' : Nat} {f0 f : α} (h : pLoop c o1 o2 P cb (n + 1) t q f0 = .inr (t', q', f)) : (¬ (c t = o1 ∨ c t = o2) ∧ t' = t ∧ q' = q ∧ f = f0) ∨ ((c t = o1 ∨ c t = o2) ∧ ∃ t1 q1 g, P (t + 1) q = .inr (t1, q1, g) ∧ pLoop c o1 o2 P cb n t1 q1 (cb (c t) f0 g) = .inr (t', q', f)) := by
  simp only [pLoop] at h
  by_cases h1 : c t = o1 ∨ c t = o2
  · rw [if_pos h1] at h
    cases hP : P (t + 1) q with
    | inl e => rw [hP] at h; cases h
    | inr x =>
      obtain ⟨t1, q1, g⟩ := x
      rw [hP] at h
      exact Or.inr ⟨h1, t1, q1, g, rfl, h⟩
  · rw [if_neg h1] at h
    cases h
    exact Or.inl ⟨h1, rfl, rfl, rfl⟩
/-- a reading goes on -/
def pUp {α : Type} (P : Nat → Nat → zR α) : Prop := ∀ t q t' q' f, P t q = .inr (t', q', f) → t < t' ∧ q ≤ q'
theorem pLoop_up {α : Type} {c : Nat → Nat} {o1 o2 : Nat} {P : Nat → Nat → zR α} {cb : Nat → α → α → α} (hP : pUp P) : ∀ n t q f0 t' q' f, pLoop c o1 o2 P cb n t q f0 = .inr (t', q', f) → t ≤ t' ∧ q ≤ q' := by
  intro n
  induction n with
  | zero =>
    intro t q f0 t' q' f h
    simp only [pLoop] at h
    cases h
    exact ⟨Nat.le_refl _, Nat.le_refl _⟩
  | succ n ih =>
    intro t q f0 t' q' f h
    rcases pLoop_r h with ⟨_, rfl, rfl, _⟩ | ⟨_, t1, q1, g, h1, h2⟩
    · exact ⟨Nat.le_refl _, Nat.le_refl _⟩
    · have a := hP _ _ _ _ _ h1
      have b := ih _ _ _ _ _ _ h2
      exact ⟨by omega, by omega⟩
theorem pChain_up {α : Type} {c : Nat → Nat} {o1 o2 : Nat} {P : Nat → Nat → zR α} {cb : Nat → α → α → α} {F : Nat} (hP : pUp P) : pUp (pChain c o1 o2 P cb F) := by
  intro t q t' q' f h
  obtain ⟨t1, q1, f1, h1, h2⟩ := pChain_r h
  have a := hP _ _ _ _ _ h1
  have b := pLoop_up hP _ _ _ _ _ _ _ h2
  exact ⟨by omega, by omega⟩
theorem pPart_up {c v : Nat → Nat} {S : Nat → Nat → zR zS} {b : Bool} (hS : pUp S) : pUp (pPart c v S b) := by
  intro t q t' q' f h
  rcases pPart_r h with ⟨_, t1, h1, _, rfl⟩ | ⟨_, _, rfl, rfl, _⟩
  · have a := hS _ _ _ _ _ h1
    exact ⟨by omega, by omega⟩
  · exact ⟨by omega, by omega⟩
theorem pNo_up {α : Type} : pUp (α := α) (fun t _ => .inl t) := by
  intro t q t' q' f h
  cases h
theorem pSum_up {c v : Nat → Nat} {F : Nat} : ∀ r, pUp (pSumD c v F r) := by
  intro r
  induction r with
  | zero => exact pChain_up (pChain_up (pPart_up pNo_up))
  | succ r ih => exact pChain_up (pChain_up (pPart_up ih))
theorem pNots_up {c : Nat → Nat} : ∀ n t b, t ≤ (pNots c n t b).1 := by
  intro n
  induction n with
  | zero => intro t b; exact Nat.le_refl _
  | succ n ih =>
    intro t b
    simp only [pNots]
    split
    · have := ih (t + 1) (!b)
      omega
    · exact Nat.le_refl _
theorem pPos_r {c : Nat → Nat} {S : Nat → Nat → zR zS} {T : Nat → Nat → zR zT} {b : Bool} {t q t' q' : Nat} {e : zT} (h : pPos c S T b t q = .inr (t', q', e)) : (c t = 140 ∧ ∃ t1, T (t + 1) q = .inr (t1, q', e) ∧ c t1 = 141 ∧ t' = t1 + 1) ∨ (c t ≠ 140 ∧ ∃ t1 q1 f g, S t q = .inr (t1, q1, f) ∧ (c t1 = 160 ∨ c t1 = 162 ∨ c t1 = 161) ∧ S (t1 + 1) q1 = .inr (t', q', g) ∧ e = dCmp (c t1) f g) := by
  simp only [pPos] at h
  by_cases h1 : c t = 140
  · rw [if_pos h1] at h
    by_cases hb : b = true
    · rw [if_pos hb] at h
      cases hT : T (t + 1) q with
      | inl e => rw [hT] at h; cases h
      | inr x =>
        obtain ⟨t1, q1, g⟩ := x
        rw [hT] at h
        simp only at h
        by_cases h3 : c t1 = 141
        · rw [if_pos h3] at h
          cases h
          exact Or.inl ⟨h1, t1, rfl, h3, rfl⟩
        · rw [if_neg h3] at h; cases h
    · rw [if_neg hb] at h; cases h
  · rw [if_neg h1] at h
    cases hS : S t q with
    | inl e => rw [hS] at h; cases h
    | inr x =>
      obtain ⟨t1, q1, f⟩ := x
      rw [hS] at h
      simp only at h
      by_cases h3 : c t1 = 160 ∨ c t1 = 162 ∨ c t1 = 161
      · rw [if_pos h3] at h
        cases hS2 : S (t1 + 1) q1 with
        | inl e => rw [hS2] at h; cases h
        | inr y =>
          obtain ⟨t2, q2, g⟩ := y
          rw [hS2] at h
          cases h
          exact Or.inr ⟨h1, t1, q1, f, g, rfl, h3, hS2, rfl⟩
      · rw [if_neg h3] at h; cases h
theorem pPlain_r {c : Nat → Nat} {S : Nat → Nat → zR zS} {T : Nat → Nat → zR zT} {b : Bool} {F t q t' q' : Nat} {e : zT} (h : pPlain c S T b F t q = .inr (t', q', e)) : ∃ e1, pPos c S T b (pNots c F t false).1 q = .inr (t', q', e1) ∧ e = dNot (pNots c F t false).2 e1 := by
  simp only [pPlain] at h
  cases hP : pPos c S T b (pNots c F t false).1 q with
  | inl e => rw [hP] at h; cases h
  | inr x =>
    obtain ⟨t1, q1, g⟩ := x
    rw [hP] at h
    cases h
    exact ⟨g, rfl, rfl⟩
theorem pPlain_up {c : Nat → Nat} {S : Nat → Nat → zR zS} {T : Nat → Nat → zR zT} {b : Bool} {F : Nat} (hS : pUp S) (hT : pUp T) : pUp (pPlain c S T b F) := by
  intro t q t' q' f h
  obtain ⟨e1, h1, _⟩ := pPlain_r h
  have n1 := pNots_up (c := c) F t false
  rcases pPos_r h1 with ⟨_, t1, h2, _, rfl⟩ | ⟨_, t1, q1, f, g, h2, _, h3, _⟩
  · have a := hT _ _ _ _ _ h2
    exact ⟨by omega, by omega⟩
  · have a := hS _ _ _ _ _ h2
    have b := hS _ _ _ _ _ h3
    exact ⟨by omega, by omega⟩
theorem pTest_up {c v : Nat → Nat} {F : Nat} : ∀ r, pUp (pTestD c v F r) := by
  intro r
  induction r with
  | zero => exact pChain_up (pChain_up (pPlain_up (pSum_up 0) pNo_up))
  | succ r ih => exact pChain_up (pChain_up (pPlain_up (pSum_up (r + 1)) ih))
