/-! what steps do -/
def Run (Y : Nat → Nat) (W : Nat → Int32) (E s e : Nat) (stk : List Int64) (o : Option Int64) : Prop := ∃ m, m ≤ e - s ∧ ∀ n, xr Y W E (n + m) s stk = match o with
  | none => none
  | some v => xr Y W E n e (v :: stk)
def CdS (X : Nat → Nat) (s e k : Nat) (f : zS) : Prop := (s < e ∧ 1 ≤ k) ∧ ∀ Y W E stk, (∀ j, s ≤ j → j < e → Y j = X j) → e ≤ E → stk.length + k ≤ 64 → Run Y W E s e stk (f W)
def bV (o : Option Bool) : Option Int64 := o.map (fun b => if b = true then 1 else 0)
def CdT (X : Nat → Nat) (s e k : Nat) (g : zT) : Prop := (s < e ∧ 1 ≤ k) ∧ ∀ Y W E stk, (∀ j, s ≤ j → j < e → Y j = X j) → e ≤ E → stk.length + k ≤ 64 → Run Y W E s e stk (bV (g W))
theorem CdS_c {X X' : Nat → Nat} {s e k : Nat} {f : zS} (h : CdS X s e k f) (hx : ∀ j, s ≤ j → j < e → X' j = X j) : CdS X' s e k f := ⟨h.1, fun Y W E stk hY hE hk => h.2 Y W E stk (fun j h1 h2 => (hY j h1 h2).trans (hx j h1 h2)) hE hk⟩
theorem CdT_c {X X' : Nat → Nat} {s e k : Nat} {g : zT} (h : CdT X s e k g) (hx : ∀ j, s ≤ j → j < e → X' j = X j) : CdT X' s e k g := ⟨h.1, fun Y W E stk hY hE hk => h.2 Y W E stk (fun j h1 h2 => (hY j h1 h2).trans (hx j h1 h2)) hE hk⟩
theorem xr_s {Y : Nat → Nat} {W : Nat → Int32} {E n pl : Nat} {stk : List Int64} (h : pl < E) : xr Y W E (n + 1) pl stk = match xS Y W pl stk with
  | none => none
  | some (pl', st') => xr Y W E n pl' st' := by
  rw [xr, if_pos h]
  cases xS Y W pl stk <;> rfl
theorem zPush_l {stk : List Int64} {v : Int64} (h : stk.length < 64) : zPush stk v = v :: stk := if_pos h
theorem Cd_num {X : Nat → Nat} {s v : Nat} (hX : X s = v) (hv : v ≤ 1000) : CdS X s (s + 1) 1 (fun _ => some (nI v).toInt64) := by
  refine ⟨⟨by omega, by omega⟩, ?_⟩
  intro Y W E stk hY hE hk
  refine ⟨1, by omega, fun n => ?_⟩
  have e1 : Y s = v := (hY s (by omega) (by omega)).trans hX
  have e2 : Y s / 4096 = 0 := by omega
  have e3 : Y s % 4096 = v := by omega
  rw [xr_s (by omega), xS, if_pos e2, e3, zPush_l (by omega)]
theorem Cd_word {X : Nat → Nat} {s w : Nat} (hX : X s = 4096 + w) (hw : w < 9) : CdS X s (s + 1) 1 (fun W => some (W w).toInt64) := by
  refine ⟨⟨by omega, by omega⟩, ?_⟩
  intro Y W E stk hY hE hk
  refine ⟨1, by omega, fun n => ?_⟩
  have e1 : Y s = 4096 + w := (hY s (by omega) (by omega)).trans hX
  have e0 : ¬ Y s / 4096 = 0 := by omega
  have e2 : Y s / 4096 = 1 := by omega
  have e3 : Y s % 4096 = w := by omega
  rw [xr_s (by omega), xS, if_neg e0, if_pos e2, e3, if_pos hw, zPush_l (by omega)]
theorem Cd_op {X : Nat → Nat} {s m e k1 k2 kk : Nat} {f g : zS} (hf : CdS X s m k1 f) (hg : CdS X m e k2 g) (hX : X e = kk * 4096) (h2 : 2 ≤ kk) (h5 : kk ≤ 5) : CdS X s (e + 1) (k1 + k2) (dOp (kk - 2) f g) := by
  obtain ⟨⟨f1, f2⟩, hf⟩ := hf
  obtain ⟨⟨g1, g2⟩, hg⟩ := hg
  refine ⟨⟨by omega, by omega⟩, ?_⟩
  intro Y W E stk hY hE hk
  obtain ⟨m1, l1, r1⟩ := hf Y W E stk (fun j a b => hY j a (by omega)) (by omega) (by omega)
  have e1 : Y e = kk * 4096 := (hY e (by omega) (by omega)).trans hX
  cases hfW : f W with
  | none =>
    rw [hfW] at r1
    have : dOp (kk - 2) f g W = none := by simp only [dOp, hfW]
    rw [this]
    exact ⟨m1, by omega, r1⟩
  | some a =>
    rw [hfW] at r1
    obtain ⟨m2, l2, r2⟩ := hg Y W E (a :: stk) (fun j a b => hY j (by omega) (by omega)) (by omega) (by simp only [List.length_cons]; omega)
    cases hgW : g W with
    | none =>
      rw [hgW] at r2
      have : dOp (kk - 2) f g W = none := by simp only [dOp, hfW, hgW]
      rw [this]
      refine ⟨m1 + m2, by omega, fun n => ?_⟩
      rw [show n + (m1 + m2) = n + m2 + m1 from by omega, r1]
      exact r2 n
    | some b =>
      rw [hgW] at r2
      have : dOp (kk - 2) f g W = zOp (kk - 2) a b := by simp only [dOp, hfW, hgW]
      rw [this]
      refine ⟨m1 + m2 + 1, by omega, fun n => ?_⟩
      have d0 : ¬ Y e / 4096 = 0 := by omega
      have d1 : ¬ Y e / 4096 = 1 := by omega
      have d9 : ¬ Y e / 4096 = 9 := by omega
      have d10 : ¬ Y e / 4096 = 10 := by omega
      have d11 : ¬ Y e / 4096 = 11 := by omega
      have dk : Y e / 4096 = kk := by omega
      rw [show n + (m1 + m2 + 1) = n + 1 + m2 + m1 from by omega, r1]
      simp only
      rw [r2]
      simp only
      rw [xr_s (by omega), xS, if_neg d0, if_neg d1, if_neg d9, if_neg d10, if_neg d11, dk, zJn, zJoin, if_pos (by omega)]
      cases zOp (kk - 2) a b with
      | none => rfl
      | some v => rfl
theorem Cd_cmp {X : Nat → Nat} {s m e k1 k2 kk cc : Nat} {f g : zS} (hf : CdS X s m k1 f) (hg : CdS X m e k2 g) (hX : X e = kk * 4096) (hkk : kk = 6 ∧ cc = 160 ∨ kk = 7 ∧ cc = 162 ∨ kk = 8 ∧ cc = 161) : CdT X s (e + 1) (k1 + k2) (dCmp cc f g) := by
  obtain ⟨⟨f1, f2⟩, hf⟩ := hf
  obtain ⟨⟨g1, g2⟩, hg⟩ := hg
  refine ⟨⟨by omega, by omega⟩, ?_⟩
  intro Y W E stk hY hE hk
  obtain ⟨m1, l1, r1⟩ := hf Y W E stk (fun j a b => hY j a (by omega)) (by omega) (by omega)
  have e1 : Y e = kk * 4096 := (hY e (by omega) (by omega)).trans hX
  cases hfW : f W with
  | none =>
    rw [hfW] at r1
    have : dCmp cc f g W = none := by simp only [dCmp, hfW]
    rw [this]
    exact ⟨m1, by omega, r1⟩
  | some a =>
    rw [hfW] at r1
    obtain ⟨m2, l2, r2⟩ := hg Y W E (a :: stk) (fun j a b => hY j (by omega) (by omega)) (by omega) (by simp only [List.length_cons]; omega)
    cases hgW : g W with
    | none =>
      rw [hgW] at r2
      have : dCmp cc f g W = none := by simp only [dCmp, hfW, hgW]
      rw [this]
      refine ⟨m1 + m2, by omega, fun n => ?_⟩
      rw [show n + (m1 + m2) = n + m2 + m1 from by omega, r1]
      exact r2 n
    | some b =>
      rw [hgW] at r2
      have : dCmp cc f g W = some (zCp cc a b) := by simp only [dCmp, hfW, hgW]
      rw [this]
      refine ⟨m1 + m2 + 1, by omega, fun n => ?_⟩
      have d0 : ¬ Y e / 4096 = 0 := by omega
      have d1 : ¬ Y e / 4096 = 1 := by omega
      have d9 : ¬ Y e / 4096 = 9 := by omega
      have d10 : ¬ Y e / 4096 = 10 := by omega
      have d11 : ¬ Y e / 4096 = 11 := by omega
      have dk : Y e / 4096 = kk := by omega
      rw [show n + (m1 + m2 + 1) = n + 1 + m2 + m1 from by omega, r1]
      simp only
      rw [r2]
      simp only
      rw [xr_s (by omega), xS, if_neg d0, if_neg d1, if_neg d9, if_neg d10, if_neg d11, dk, zJn, zJoin, if_neg (by omega)]
      simp only [bV, Option.map_some]
      rcases hkk with ⟨rfl, rfl⟩ | ⟨rfl, rfl⟩ | ⟨rfl, rfl⟩
      · simp only [zCp, if_true, decide_eq_true_eq]
      · simp only [zCp, Nat.reduceEqDiff, if_false, if_true, decide_eq_true_eq]
      · simp only [zCp, Nat.reduceEqDiff, if_false, decide_eq_true_eq]
theorem Cd_not {X : Nat → Nat} {s e k : Nat} {g : zT} (hg : CdT X s e k g) (hX : X e = 9 * 4096) : CdT X s (e + 1) k (dNot true g) := by
  obtain ⟨⟨g1, g2⟩, hg⟩ := hg
  refine ⟨⟨by omega, g2⟩, ?_⟩
  intro Y W E stk hY hE hk
  obtain ⟨m1, l1, r1⟩ := hg Y W E stk (fun j a b => hY j a (by omega)) (by omega) hk
  have e1 : Y e = 9 * 4096 := (hY e (by omega) (by omega)).trans hX
  cases hgW : g W with
  | none =>
    rw [hgW] at r1
    have : dNot true g W = none := by simp only [dNot, hgW, Option.map_none]
    rw [this]
    exact ⟨m1, by omega, r1⟩
  | some b =>
    rw [hgW] at r1
    have : dNot true g W = some (b != true) := by simp only [dNot, hgW, Option.map_some]
    rw [this]
    refine ⟨m1 + 1, by omega, fun n => ?_⟩
    have d0 : ¬ Y e / 4096 = 0 := by omega
    have d1 : ¬ Y e / 4096 = 1 := by omega
    have d9 : Y e / 4096 = 9 := by omega
    rw [show n + (m1 + 1) = n + 1 + m1 from by omega, r1]
    simp only [bV, Option.map_some]
    rw [xr_s (by omega), xS, if_neg d0, if_neg d1, if_pos d9]
    cases b
    · rfl
    · rfl
theorem Cd_not0 {X : Nat → Nat} {s e k : Nat} {g : zT} (hg : CdT X s e k g) : CdT X s e k (dNot false g) := by
  have : dNot false g = g := by
    funext W
    simp only [dNot]
    cases g W with
    | none => rfl
    | some b => cases b <;> rfl
  rw [this]
  exact hg
theorem Cd_and {X : Nat → Nat} {s m e k1 k2 : Nat} {f g : zT} (hf : CdT X s m k1 f) (hg : CdT X (m + 1) e k2 g) (hX : X m = 10 * 4096 + e) (he : e < 4096) : CdT X s e (k1 + k2) (dAnd f g) := by
  obtain ⟨⟨f1, f2⟩, hf⟩ := hf
  obtain ⟨⟨g1, g2⟩, hg⟩ := hg
  refine ⟨⟨by omega, by omega⟩, ?_⟩
  intro Y W E stk hY hE hk
  obtain ⟨m1, l1, r1⟩ := hf Y W E stk (fun j a b => hY j a (by omega)) (by omega) (by omega)
  have e1 : Y m = 10 * 4096 + e := (hY m (by omega) (by omega)).trans hX
  have d0 : ¬ Y m / 4096 = 0 := by omega
  have d1 : ¬ Y m / 4096 = 1 := by omega
  have d9 : ¬ Y m / 4096 = 9 := by omega
  have d10 : Y m / 4096 = 10 := by omega
  have dm : Y m % 4096 = e := by omega
  cases hfW : f W with
  | none =>
    rw [hfW] at r1
    have : dAnd f g W = none := by simp only [dAnd, hfW]
    rw [this]
    exact ⟨m1, by omega, r1⟩
  | some b =>
    rw [hfW] at r1
    cases b
    · have : dAnd f g W = some false := by simp only [dAnd, hfW]
      rw [this]
      refine ⟨m1 + 1, by omega, fun n => ?_⟩
      rw [show n + (m1 + 1) = n + 1 + m1 from by omega, r1]
      simp only [bV, Option.map_some, Bool.false_eq_true, if_false]
      rw [xr_s (by omega), xS, if_neg d0, if_neg d1, if_neg d9, if_pos d10, dm, zDec, if_pos rfl]
    · have : dAnd f g W = g W := by simp only [dAnd, hfW]
      rw [this]
      obtain ⟨m2, l2, r2⟩ := hg Y W E stk (fun j a b => hY j (by omega) b) hE (by omega)
      refine ⟨m1 + 1 + m2, by omega, fun n => ?_⟩
      rw [show n + (m1 + 1 + m2) = n + m2 + 1 + m1 from by omega, r1]
      simp only [bV, Option.map_some, if_true]
      rw [xr_s (by omega), xS, if_neg d0, if_neg d1, if_neg d9, if_pos d10, dm, zDec, if_neg (by decide)]
      exact r2 n
theorem Cd_or {X : Nat → Nat} {s m e k1 k2 : Nat} {f g : zT} (hf : CdT X s m k1 f) (hg : CdT X (m + 1) e k2 g) (hX : X m = 11 * 4096 + e) (he : e < 4096) : CdT X s e (k1 + k2) (dOr f g) := by
  obtain ⟨⟨f1, f2⟩, hf⟩ := hf
  obtain ⟨⟨g1, g2⟩, hg⟩ := hg
  refine ⟨⟨by omega, by omega⟩, ?_⟩
  intro Y W E stk hY hE hk
  obtain ⟨m1, l1, r1⟩ := hf Y W E stk (fun j a b => hY j a (by omega)) (by omega) (by omega)
  have e1 : Y m = 11 * 4096 + e := (hY m (by omega) (by omega)).trans hX
  have d0 : ¬ Y m / 4096 = 0 := by omega
  have d1 : ¬ Y m / 4096 = 1 := by omega
  have d9 : ¬ Y m / 4096 = 9 := by omega
  have d10 : ¬ Y m / 4096 = 10 := by omega
  have d11 : Y m / 4096 = 11 := by omega
  have dm : Y m % 4096 = e := by omega
  cases hfW : f W with
  | none =>
    rw [hfW] at r1
    have : dOr f g W = none := by simp only [dOr, hfW]
    rw [this]
    exact ⟨m1, by omega, r1⟩
  | some b =>
    rw [hfW] at r1
    cases b
    · have : dOr f g W = g W := by simp only [dOr, hfW]
      rw [this]
      obtain ⟨m2, l2, r2⟩ := hg Y W E stk (fun j a b => hY j (by omega) b) hE (by omega)
      refine ⟨m1 + 1 + m2, by omega, fun n => ?_⟩
      rw [show n + (m1 + 1 + m2) = n + m2 + 1 + m1 from by omega, r1]
      simp only [bV, Option.map_some, Bool.false_eq_true, if_false]
      rw [xr_s (by omega), xS, if_neg d0, if_neg d1, if_neg d9, if_neg d10, if_pos d11, dm, zDec, if_neg (by decide)]
      exact r2 n
    · have : dOr f g W = some true := by simp only [dOr, hfW]
      rw [this]
      refine ⟨m1 + 1, by omega, fun n => ?_⟩
      rw [show n + (m1 + 1) = n + 1 + m1 from by omega, r1]
      simp only [bV, Option.map_some, if_true]
      rw [xr_s (by omega), xS, if_neg d0, if_neg d1, if_neg d9, if_neg d10, if_pos d11, dm, zDec, if_pos rfl]
/-! clauses -/
theorem xr_e {Y : Nat → Nat} {W : Nat → Int32} {e n : Nat} {stk : List Int64} : xr Y W e n e stk = some stk := by
  cases n with
  | zero => rfl
  | succ n => rw [xr, if_neg (Nat.lt_irrefl _)]
theorem Cl_b {X : Nat → Nat} {s : Nat} : CdC X s s (false, false, (fun _ => some 0), fun _ => some true) := by
  intro W
  refine ⟨?_, fun _ h => absurd h (by simp)⟩
  rw [xr_e]
  rfl
theorem Cl_t {X : Nat → Nat} {s e k : Nat} {f : zS} (hf : CdS X s e k f) (hk : k ≤ 64) (he : e ≤ 400) : CdC X s e (true, false, f, fun _ => some true) := by
  intro W
  obtain ⟨m, l, r⟩ := hf.2 X W e [] (fun _ _ _ => rfl) (Nat.le_refl _) (by simpa using hk)
  have r' := r (400 - m)
  rw [show 400 - m + m = 400 from by omega] at r'
  cases hfW : f W with
  | none =>
    rw [hfW] at r'
    simp only at r'
    refine ⟨?_, ?_⟩
    · simp only [r', zOut, zHo, hfW, Option.isSome_none, Bool.false_and]
    · intro h
      simp only [zHo, hfW, Option.isSome_none, Bool.false_and] at h
      exact absurd h (by simp)
  | some v =>
    rw [hfW] at r'
    simp only [xr_e] at r'
    refine ⟨?_, fun _ _ => ⟨[], v, r', hfW⟩⟩
    simp only [r', zOut, zHo, hfW, Option.isSome_some, Bool.true_and, Bool.not_false, Bool.true_or, decide_true]
theorem Cl_bi {X : Nat → Nat} {s e k : Nat} {g : zT} (hg : CdT X s e k g) (hk : k ≤ 64) (he : e ≤ 400) : CdC X s e (false, true, (fun _ => some 0), g) := by
  intro W
  refine ⟨?_, fun _ h => absurd h (by simp)⟩
  obtain ⟨m, l, r⟩ := hg.2 X W e [] (fun _ _ _ => rfl) (Nat.le_refl _) (by simpa using hk)
  have r' := r (400 - m)
  rw [show 400 - m + m = 400 from by omega] at r'
  cases hgW : g W with
  | none =>
    rw [hgW] at r'
    simp only [bV, Option.map_none] at r'
    simp only [r', zOut, zHo, hgW]
    rfl
  | some b =>
    rw [hgW] at r'
    simp only [bV, Option.map_some, xr_e] at r'
    simp only [r', zOut, zHo, hgW]
    cases b <;> rfl
theorem Cl_ti {X : Nat → Nat} {s m0 e k1 k2 : Nat} {f : zS} {g : zT} (hf : CdS X s m0 k1 f) (hg : CdT X m0 e k2 g) (hk : k1 + k2 ≤ 64) (he : e ≤ 400) : CdC X s e (true, true, f, g) := by
  intro W
  have f1 := hf.1
  have g1 := hg.1
  obtain ⟨m1, l1, r1⟩ := hf.2 X W e [] (fun _ _ _ => rfl) (by omega) (by simp only [List.length_nil]; omega)
  cases hfW : f W with
  | none =>
    rw [hfW] at r1
    have r' := r1 (400 - m1)
    rw [show 400 - m1 + m1 = 400 from by omega] at r'
    simp only at r'
    refine ⟨?_, ?_⟩
    · simp only [r', zOut, zHo, hfW, Option.isSome_none, Bool.false_and]
    · intro h
      simp only [zHo, hfW, Option.isSome_none, Bool.false_and] at h
      exact absurd h (by simp)
  | some v =>
    rw [hfW] at r1
    obtain ⟨m2, l2, r2⟩ := hg.2 X W e [v] (fun _ _ _ => rfl) (Nat.le_refl _) (by simp only [List.length_cons, List.length_nil]; omega)
    have r' := r1 (400 - m1 - m2 + m2)
    simp only at r'
    rw [r2, show 400 - m1 - m2 + m2 + m1 = 400 from by omega] at r'
    cases hgW : g W with
    | none =>
      rw [hgW] at r'
      simp only [bV, Option.map_none] at r'
      refine ⟨?_, ?_⟩
      · simp only [r', zOut, zHo, hfW, hgW]
        rfl
      · intro h
        simp only [zHo, hfW, hgW] at h
        exact absurd h (by simp)
    | some b =>
      rw [hgW] at r'
      simp only [bV, Option.map_some, xr_e] at r'
      refine ⟨?_, fun _ _ => ⟨[_], v, r', hfW⟩⟩
      simp only [r', zOut, zHo, hfW, hgW]
      cases b <;> rfl
