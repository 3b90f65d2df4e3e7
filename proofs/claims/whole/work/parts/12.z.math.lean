/-! Math.max and Math.min: the machine's own -/
def o_mI (f : Int32 → Int32 → Int32) : gO := fun pc L st σ => match st with
  | .int y :: .int x :: t => if t.length ≤ 4 then some (.inl (pc + 3, L, .int (f x y) :: t, σ)) else none
  | _ => none
def o_mJ (f : Int64 → Int64 → Int64) : gO := fun pc L st σ => match st with
  | .long y :: .long x :: t => if t.length ≤ 4 then some (.inl (pc + 3, L, .long (f x y) :: t, σ)) else none
  | _ => none
theorem u_mI {pc : Nat} (f : Int32 → Int32 → Int32) : gUp pc (o_mI f) := by intro L st σ pc' L' st' σ' ho; unfold o_mI at ho; split at ho <;> (try split at ho) <;> cases ho <;> exact ⟨Nat.le_refl _, Nat.le_refl _, rfl⟩
theorem u_mJ {pc : Nat} (f : Int64 → Int64 → Int64) : gUp pc (o_mJ f) := by intro L st σ pc' L' st' σ' ho; unfold o_mJ at ho; split at ho <;> (try split at ho) <;> cases ho <;> exact ⟨Nat.le_refl _, Nat.le_refl _, rfl⟩
theorem k_mmax {G : gG} {MT : Nat → gM} {l : Launch} {M : gM} {pc : Nat} {i : Nat} (d : decode M.2.1 pc = .ok (.invokestatic i, 3)) (w : Cond.methodLink M.1.cls i Lib.Math.max.name ∈ gWS) (w1 : Cond.static Lib.Math.max.name ∈ gWS) (w2 : Cond.initialized "java/lang/Math" ∈ gWS) (w3 : Cond.code Lib.Math.max.name Lib.Math.max.code 2 (some .int) ∈ gWS) : gOk G MT l M pc (o_mI (fun x y => if x < y then y else x)) := by
  intro p e R s m args below meth c Q n0 w0 H locs ls L st σ x hc hn hw hR hS hl hL ho hk
  obtain ⟨hx, hb, hml, hown, hts, hr, hlk, hWd, hnm, hfr, hlo⟩ := hc
  unfold o_mI at ho
  split at ho
  · next y0 x0 t =>
    split at ho
    · next ht =>
      cases ho
      obtain ⟨⟨hk1, hk1b⟩, hk2⟩ := hk
      have hcat := g_cat t
      exact va_mmax hx hb (by rw [hl.1, hL, hml]) hown (hts _ w) (hts _ w1) (hts _ w2) (hts _ w3) hfr (by omega) (by omega) (by omega) d (hk2 H locs ls hR hS hl)
    · cases ho
  · cases ho
theorem k_mmin {G : gG} {MT : Nat → gM} {l : Launch} {M : gM} {pc : Nat} {i : Nat} (d : decode M.2.1 pc = .ok (.invokestatic i, 3)) (w : Cond.methodLink M.1.cls i Lib.Math.min.name ∈ gWS) (w1 : Cond.static Lib.Math.min.name ∈ gWS) (w2 : Cond.initialized "java/lang/Math" ∈ gWS) (w3 : Cond.code Lib.Math.min.name Lib.Math.min.code 2 (some .int) ∈ gWS) : gOk G MT l M pc (o_mI (fun x y => if y < x then y else x)) := by
  intro p e R s m args below meth c Q n0 w0 H locs ls L st σ x hc hn hw hR hS hl hL ho hk
  obtain ⟨hx, hb, hml, hown, hts, hr, hlk, hWd, hnm, hfr, hlo⟩ := hc
  unfold o_mI at ho
  split at ho
  · next y0 x0 t =>
    split at ho
    · next ht =>
      cases ho
      obtain ⟨⟨hk1, hk1b⟩, hk2⟩ := hk
      have hcat := g_cat t
      exact va_mmin hx hb (by rw [hl.1, hL, hml]) hown (hts _ w) (hts _ w1) (hts _ w2) (hts _ w3) hfr (by omega) (by omega) (by omega) d (hk2 H locs ls hR hS hl)
    · cases ho
  · cases ho
theorem k_mmaxJ {G : gG} {MT : Nat → gM} {l : Launch} {M : gM} {pc : Nat} {i : Nat} (d : decode M.2.1 pc = .ok (.invokestatic i, 3)) (w : Cond.methodLink M.1.cls i Lib.MathLoose.max_long.x ∈ gWS) (w1 : Cond.static Lib.MathLoose.max_long.x ∈ gWS) (w2 : Cond.initialized "java/lang/Math" ∈ gWS) (w3 : Cond.code Lib.MathLoose.max_long.x Lib.MathLoose.max_long.code 4 (some .long) ∈ gWS) : gOk G MT l M pc (o_mJ (fun x y => if y < x then x else y)) := by
  intro p e R s m args below meth c Q n0 w0 H locs ls L st σ x hc hn hw hR hS hl hL ho hk
  obtain ⟨hx, hb, hml, hown, hts, hr, hlk, hWd, hnm, hfr, hlo⟩ := hc
  unfold o_mJ at ho
  split at ho
  · next y0 x0 t =>
    split at ho
    · next ht =>
      cases ho
      obtain ⟨⟨hk1, hk1b⟩, hk2⟩ := hk
      have hcat := g_cat t
      exact va_mmax_long hx hb (by rw [hl.1, hL, hml]) hown (hts _ w) (hts _ w1) (hts _ w2) (hts _ w3) hfr (by omega) (by omega) (by omega) d (hk2 H locs ls hR hS hl)
    · cases ho
  · cases ho
theorem k_mminJ {G : gG} {MT : Nat → gM} {l : Launch} {M : gM} {pc : Nat} {i : Nat} (d : decode M.2.1 pc = .ok (.invokestatic i, 3)) (w : Cond.methodLink M.1.cls i Lib.MathLoose.min_long.x ∈ gWS) (w1 : Cond.static Lib.MathLoose.min_long.x ∈ gWS) (w2 : Cond.initialized "java/lang/Math" ∈ gWS) (w3 : Cond.code Lib.MathLoose.min_long.x Lib.MathLoose.min_long.code 4 (some .long) ∈ gWS) : gOk G MT l M pc (o_mJ (fun x y => if y < x then y else x)) := by
  intro p e R s m args below meth c Q n0 w0 H locs ls L st σ x hc hn hw hR hS hl hL ho hk
  obtain ⟨hx, hb, hml, hown, hts, hr, hlk, hWd, hnm, hfr, hlo⟩ := hc
  unfold o_mJ at ho
  split at ho
  · next y0 x0 t =>
    split at ho
    · next ht =>
      cases ho
      obtain ⟨⟨hk1, hk1b⟩, hk2⟩ := hk
      have hcat := g_cat t
      exact va_mmin_long hx hb (by rw [hl.1, hL, hml]) hown (hts _ w) (hts _ w1) (hts _ w2) (hts _ w3) hfr (by omega) (by omega) (by omega) d (hk2 H locs ls hR hS hl)
    · cases ho
  · cases ho
