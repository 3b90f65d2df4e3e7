/-! what only grows; a method's run; all methods -/
theorem u_ld {pc : Nat} {o : gO} (h : ∀ (L : gL) (st : List Value) (σ : gS) (pc' : Nat) (L' : gL) (st' : List Value) (σ' : gS), o pc L st σ = some (.inl (pc', L', st', σ')) → σ' = σ ∧ L'.length = L.length) : gUp pc o := by
  intro L st σ pc' L' st' σ' ho
  obtain ⟨rfl, h2⟩ := h L st σ pc' L' st' σ' ho
  exact ⟨Nat.le_refl _, Nat.le_refl _, h2⟩
theorem u_push {pc : Nat} (v : Value) (n : Nat) : gUp pc (o_push v n) := by intro L st σ pc' L' st' σ' ho; cases ho; exact ⟨Nat.le_refl _, Nat.le_refl _, rfl⟩
theorem u_str {pc : Nat} (j n : Nat) : gUp pc (o_str j n) := by intro L st σ pc' L' st' σ' ho; cases ho; exact ⟨Nat.le_refl _, Nat.le_refl _, rfl⟩
theorem u_iload {pc : Nat} (k n : Nat) : gUp pc (o_iload k n) := by intro L st σ pc' L' st' σ' ho; unfold o_iload at ho; split at ho <;> cases ho; exact ⟨Nat.le_refl _, Nat.le_refl _, rfl⟩
theorem u_lload {pc : Nat} (k n : Nat) : gUp pc (o_lload k n) := by intro L st σ pc' L' st' σ' ho; unfold o_lload at ho; split at ho <;> cases ho; exact ⟨Nat.le_refl _, Nat.le_refl _, rfl⟩
theorem u_aload {pc : Nat} (k n : Nat) : gUp pc (o_aload k n) := by intro L st σ pc' L' st' σ' ho; unfold o_aload at ho; split at ho <;> cases ho <;> exact ⟨Nat.le_refl _, Nat.le_refl _, rfl⟩
theorem u_istore {pc : Nat} (k n : Nat) : gUp pc (o_istore k n) := by intro L st σ pc' L' st' σ' ho; unfold o_istore at ho; split at ho <;> (try split at ho) <;> cases ho <;> exact ⟨Nat.le_refl _, Nat.le_refl _, by simp⟩
theorem u_lstore {pc : Nat} (k n : Nat) : gUp pc (o_lstore k n) := by intro L st σ pc' L' st' σ' ho; unfold o_lstore at ho; split at ho <;> (try split at ho) <;> cases ho <;> exact ⟨Nat.le_refl _, Nat.le_refl _, by simp⟩
theorem u_astore {pc : Nat} (k n : Nat) : gUp pc (o_astore k n) := by intro L st σ pc' L' st' σ' ho; unfold o_astore at ho; split at ho <;> (try split at ho) <;> cases ho <;> exact ⟨Nat.le_refl _, Nat.le_refl _, by simp⟩
theorem u_iinc {pc : Nat} (k : Nat) (v : Int32) : gUp pc (o_iinc k v) := by intro L st σ pc' L' st' σ' ho; unfold o_iinc at ho; split at ho <;> (try split at ho) <;> cases ho <;> exact ⟨Nat.le_refl _, Nat.le_refl _, by simp⟩
theorem u_bI {pc : Nat} (f : Int32 → Int32 → Int32) : gUp pc (o_bI f) := by intro L st σ pc' L' st' σ' ho; unfold o_bI at ho; split at ho <;> cases ho; exact ⟨Nat.le_refl _, Nat.le_refl _, rfl⟩
theorem u_bId {pc : Nat} (f : Int32 → Int32 → Int32) : gUp pc (o_bId f) := by intro L st σ pc' L' st' σ' ho; unfold o_bId at ho; split at ho <;> (try split at ho) <;> cases ho; exact ⟨Nat.le_refl _, Nat.le_refl _, rfl⟩
theorem u_uI {pc : Nat} (f : Int32 → Int32) : gUp pc (o_uI f) := by intro L st σ pc' L' st' σ' ho; unfold o_uI at ho; split at ho <;> cases ho; exact ⟨Nat.le_refl _, Nat.le_refl _, rfl⟩
theorem u_bJ {pc : Nat} (f : Int64 → Int64 → Int64) : gUp pc (o_bJ f) := by intro L st σ pc' L' st' σ' ho; unfold o_bJ at ho; split at ho <;> cases ho; exact ⟨Nat.le_refl _, Nat.le_refl _, rfl⟩
theorem u_bJd {pc : Nat} (f : Int64 → Int64 → Int64) : gUp pc (o_bJd f) := by intro L st σ pc' L' st' σ' ho; unfold o_bJd at ho; split at ho <;> (try split at ho) <;> cases ho; exact ⟨Nat.le_refl _, Nat.le_refl _, rfl⟩
theorem u_lcmp {pc : Nat} : gUp pc o_lcmp := by intro L st σ pc' L' st' σ' ho; unfold o_lcmp at ho; split at ho <;> cases ho; exact ⟨Nat.le_refl _, Nat.le_refl _, rfl⟩
theorem u_i2l {pc : Nat} : gUp pc o_i2l := by intro L st σ pc' L' st' σ' ho; unfold o_i2l at ho; split at ho <;> cases ho; exact ⟨Nat.le_refl _, Nat.le_refl _, rfl⟩
theorem u_l2i {pc : Nat} : gUp pc o_l2i := by intro L st σ pc' L' st' σ' ho; unfold o_l2i at ho; split at ho <;> cases ho; exact ⟨Nat.le_refl _, Nat.le_refl _, rfl⟩
theorem u_dup {pc : Nat} : gUp pc o_dup := by intro L st σ pc' L' st' σ' ho; unfold o_dup at ho; split at ho <;> cases ho <;> exact ⟨Nat.le_refl _, Nat.le_refl _, rfl⟩
theorem u_dup2 {pc : Nat} : gUp pc o_dup2 := by intro L st σ pc' L' st' σ' ho; unfold o_dup2 at ho; split at ho <;> cases ho <;> exact ⟨Nat.le_refl _, Nat.le_refl _, rfl⟩
theorem u_pop {pc : Nat} : gUp pc o_pop := by intro L st σ pc' L' st' σ' ho; unfold o_pop at ho; split at ho <;> cases ho <;> exact ⟨Nat.le_refl _, Nat.le_refl _, rfl⟩
theorem u_if {pc : Nat} (f : Int32 → Bool) (t : Nat) : gUp pc (o_if f t) := by intro L st σ pc' L' st' σ' ho; unfold o_if at ho; split at ho <;> (try split at ho) <;> cases ho <;> exact ⟨Nat.le_refl _, Nat.le_refl _, rfl⟩
theorem u_icmp {pc : Nat} (f : Int32 → Int32 → Bool) (t : Nat) : gUp pc (o_icmp f t) := by intro L st σ pc' L' st' σ' ho; unfold o_icmp at ho; split at ho <;> (try split at ho) <;> cases ho <;> exact ⟨Nat.le_refl _, Nat.le_refl _, rfl⟩
theorem u_goto {pc : Nat} (t : Nat) : gUp pc (o_goto t) := by intro L st σ pc' L' st' σ' ho; cases ho; exact ⟨Nat.le_refl _, Nat.le_refl _, rfl⟩
theorem u_tsw {pc : Nat} (lo hi : Int) (tg : List Nat) (df : Nat) : gUp pc (o_tsw lo hi tg df) := by intro L st σ pc' L' st' σ' ho; unfold o_tsw at ho; split at ho <;> (try split at ho) <;> (try split at ho) <;> cases ho <;> exact ⟨Nat.le_refl _, Nat.le_refl _, rfl⟩
theorem u_ifnull {pc : Nat} (t : Nat) : gUp pc (o_ifnull t) := by intro L st σ pc' L' st' σ' ho; unfold o_ifnull at ho; split at ho <;> cases ho <;> exact ⟨Nat.le_refl _, Nat.le_refl _, rfl⟩
theorem u_ifnonnull {pc : Nat} (t : Nat) : gUp pc (o_ifnonnull t) := by intro L st σ pc' L' st' σ' ho; unfold o_ifnonnull at ho; split at ho <;> cases ho <;> exact ⟨Nat.le_refl _, Nat.le_refl _, rfl⟩
theorem u_getI {pc : Nat} (c k : Nat) : gUp pc (o_getI c k) := by intro L st σ pc' L' st' σ' ho; unfold o_getI at ho; split at ho <;> (try split at ho) <;> cases ho <;> exact ⟨Nat.le_refl _, Nat.le_refl _, rfl⟩
theorem u_getJ {pc : Nat} (c k : Nat) : gUp pc (o_getJ c k) := by intro L st σ pc' L' st' σ' ho; unfold o_getJ at ho; split at ho <;> (try split at ho) <;> cases ho <;> exact ⟨Nat.le_refl _, Nat.le_refl _, rfl⟩
theorem u_getR {pc : Nat} (c k : Nat) : gUp pc (o_getR c k) := by intro L st σ pc' L' st' σ' ho; unfold o_getR at ho; split at ho <;> (try split at ho) <;> (try split at ho) <;> cases ho <;> exact ⟨Nat.le_refl _, Nat.le_refl _, rfl⟩
theorem u_sval {pc : Nat} : gUp pc o_sval := by intro L st σ pc' L' st' σ' ho; unfold o_sval at ho; split at ho <;> (try split at ho) <;> (try split at ho) <;> cases ho <;> exact ⟨Nat.le_refl _, Nat.le_refl _, rfl⟩
theorem u_scod {pc : Nat} : gUp pc o_scod := by intro L st σ pc' L' st' σ' ho; unfold o_scod at ho; split at ho <;> (try split at ho) <;> (try split at ho) <;> cases ho <;> exact ⟨Nat.le_refl _, Nat.le_refl _, rfl⟩
theorem u_putI {pc : Nat} (c k : Nat) : gUp pc (o_putI c k) := by intro L st σ pc' L' st' σ' ho; unfold o_putI at ho; split at ho <;> (try split at ho) <;> cases ho <;> exact ⟨Nat.le_refl _, Nat.le_refl _, rfl⟩
theorem u_putZ {pc : Nat} (c k : Nat) : gUp pc (o_putZ c k) := by intro L st σ pc' L' st' σ' ho; unfold o_putZ at ho; split at ho <;> (try split at ho) <;> cases ho <;> exact ⟨Nat.le_refl _, Nat.le_refl _, rfl⟩
theorem u_putJ {pc : Nat} (c k : Nat) : gUp pc (o_putJ c k) := by intro L st σ pc' L' st' σ' ho; unfold o_putJ at ho; split at ho <;> (try split at ho) <;> cases ho <;> exact ⟨Nat.le_refl _, Nat.le_refl _, rfl⟩
theorem u_putR {pc : Nat} (c k : Nat) : gUp pc (o_putR c k) := by intro L st σ pc' L' st' σ' ho; unfold o_putR at ho; split at ho <;> (try split at ho) <;> cases ho <;> exact ⟨Nat.le_refl _, Nat.le_refl _, rfl⟩
theorem u_iald {pc : Nat} : gUp pc o_iald := by intro L st σ pc' L' st' σ' ho; unfold o_iald at ho; split at ho <;> (try split at ho) <;> cases ho <;> exact ⟨Nat.le_refl _, Nat.le_refl _, rfl⟩
theorem u_bald {pc : Nat} : gUp pc o_bald := by intro L st σ pc' L' st' σ' ho; unfold o_bald at ho; split at ho <;> (try split at ho) <;> (try split at ho) <;> (try split at ho) <;> cases ho <;> exact ⟨Nat.le_refl _, Nat.le_refl _, rfl⟩
theorem u_lald {pc : Nat} : gUp pc o_lald := by intro L st σ pc' L' st' σ' ho; unfold o_lald at ho; split at ho <;> (try split at ho) <;> cases ho <;> exact ⟨Nat.le_refl _, Nat.le_refl _, rfl⟩
theorem u_aald {pc : Nat} : gUp pc o_aald := by intro L st σ pc' L' st' σ' ho; unfold o_aald at ho; split at ho <;> (try split at ho) <;> (try split at ho) <;> cases ho <;> exact ⟨Nat.le_refl _, Nat.le_refl _, rfl⟩
theorem u_iast {pc : Nat} : gUp pc o_iast := by intro L st σ pc' L' st' σ' ho; unfold o_iast at ho; split at ho <;> (try split at ho) <;> cases ho <;> exact ⟨Nat.le_refl _, Nat.le_refl _, rfl⟩
theorem u_bast {pc : Nat} : gUp pc o_bast := by intro L st σ pc' L' st' σ' ho; unfold o_bast at ho; split at ho <;> (try split at ho) <;> (try split at ho) <;> cases ho <;> exact ⟨Nat.le_refl _, Nat.le_refl _, rfl⟩
theorem u_last {pc : Nat} : gUp pc o_last := by intro L st σ pc' L' st' σ' ho; unfold o_last at ho; split at ho <;> (try split at ho) <;> cases ho <;> exact ⟨Nat.le_refl _, Nat.le_refl _, rfl⟩
theorem u_aast {pc : Nat} : gUp pc o_aast := by intro L st σ pc' L' st' σ' ho; unfold o_aast at ho; split at ho <;> (try split at ho) <;> cases ho <;> exact ⟨Nat.le_refl _, Nat.le_refl _, rfl⟩
theorem u_alen {pc : Nat} : gUp pc o_alen := by intro L st σ pc' L' st' σ' ho; unfold o_alen at ho; split at ho <;> (try split at ho) <;> (try split at ho) <;> cases ho <;> exact ⟨Nat.le_refl _, Nat.le_refl _, rfl⟩
theorem u_sNw (σ : gS) (k n w : Nat) : gn σ ≤ gn (sNw σ k n w) ∧ gw σ ≤ gw (sNw σ k n w) := ⟨Nat.le_succ _, Nat.le_add_right _ _⟩
theorem u_newa {pc : Nat} (k : Nat) : gUp pc (o_newa k) := by intro L st σ pc' L' st' σ' ho; unfold o_newa at ho; split at ho <;> (try split at ho) <;> cases ho <;> exact ⟨(u_sNw _ _ _ _).1, (u_sNw _ _ _ _).2, rfl⟩
theorem u_newq {pc : Nat} (k : Nat) : gUp pc (o_newq k) := by intro L st σ pc' L' st' σ' ho; unfold o_newq at ho; split at ho <;> (try split at ho) <;> cases ho <;> exact ⟨(u_sNw _ _ _ _).1, (u_sNw _ _ _ _).2, rfl⟩
theorem u_new {pc : Nat} (c w : Nat) : gUp pc (o_new c w) := by intro L st σ pc' L' st' σ' ho; cases ho; exact ⟨(u_sNw _ _ _ _).1, (u_sNw _ _ _ _).2, rfl⟩
theorem u_copy {pc : Nat} : gUp pc o_copy := by intro L st σ pc' L' st' σ' ho; unfold o_copy at ho; split at ho <;> (try split at ho) <;> cases ho <;> exact ⟨Nat.le_refl _, Nat.le_refl _, rfl⟩
theorem u_obj {pc : Nat} : gUp pc o_obj := by intro L st σ pc' L' st' σ' ho; unfold o_obj at ho; split at ho <;> (try split at ho) <;> cases ho <;> exact ⟨Nat.le_refl _, Nat.le_refl _, rfl⟩
theorem u_callS {pc : Nat} (j n : Nat) : gUp pc (o_callS j n) := by intro L st σ pc' L' st' σ' ho; unfold o_callS at ho; split at ho <;> cases ho
theorem u_callV {pc : Nat} (j n c : Nat) : gUp pc (o_callV j n c) := by intro L st σ pc' L' st' σ' ho; unfold o_callV at ho; split at ho <;> (try split at ho) <;> cases ho
theorem u_callT {pc : Nat} (j n : Nat) : gUp pc (o_callT j n) := by intro L st σ pc' L' st' σ' ho; unfold o_callT at ho; split at ho <;> (try split at ho) <;> cases ho
theorem u_callI {pc : Nat} (j n : Nat) : gUp pc (o_callI j n) := by intro L st σ pc' L' st' σ' ho; unfold o_callI at ho; split at ho <;> (try split at ho) <;> cases ho
theorem u_ret {pc : Nat} : gUp pc o_ret := by intro L st σ pc' L' st' σ' ho; unfold o_ret at ho; split at ho <;> cases ho
theorem u_iret {pc : Nat} : gUp pc o_iret := by intro L st σ pc' L' st' σ' ho; unfold o_iret at ho; split at ho <;> cases ho
theorem u_zret {pc : Nat} : gUp pc o_zret := by intro L st σ pc' L' st' σ' ho; unfold o_zret at ho; split at ho <;> (try split at ho) <;> cases ho
theorem u_tret {pc : Nat} (ty : FieldType) : gUp pc (o_tret ty) := by intro L st σ pc' L' st' σ' ho; unfold o_tret at ho; split at ho <;> (try split at ho) <;> cases ho
theorem u_lret {pc : Nat} : gUp pc o_lret := by intro L st σ pc' L' st' σ' ho; unfold o_lret at ho; split at ho <;> cases ho
theorem u_aret {pc : Nat} : gUp pc o_aret := by intro L st σ pc' L' st' σ' ho; unfold o_aret at ho; split at ho <;> cases ho
/-- both: sound, and it only grows -/
def gOk2 (MT : Nat → gM) (l : Launch) (M : gM) (pc : Nat) (o : gO) : Prop := (∀ G : gG, gOk G MT l M pc o) ∧ gUp pc o
theorem gRun_up {X : Nat → List Value → gS → Option (Option Value × gS)} {P : Nat → Option gO} (hX : ∀ j As σ r σ', X j As σ = some (r, σ') → gn σ ≤ gn σ' ∧ gw σ ≤ gw σ') (hP : ∀ pc o, P pc = some o → gUp pc o) :
    ∀ (n pc : Nat) (L : gL) (st : List Value) (σ : gS) (r : Option Value) (σ1 : gS), gRun X P n pc L st σ = some (r, σ1) → gn σ ≤ gn σ1 ∧ gw σ ≤ gw σ1 := by
  intro n
  induction n with
  | zero => intro pc L st σ r σ1 h; cases h
  | succ n ih =>
    intro pc L st σ r σ1 h
    unfold gRun at h
    cases hp : P pc with
    | none => rw [hp] at h; cases h
    | some o =>
      rw [hp] at h
      simp only at h
      cases ho : o pc L st σ with
      | none => rw [ho] at h; cases h
      | some x =>
        rw [ho] at h
        rcases x with ⟨pc', L', st', σ'⟩ | ⟨⟨j, As, rest⟩ | rv⟩
        · obtain ⟨h1, h2, -⟩ := hP pc o hp L st σ pc' L' st' σ' ho
          obtain ⟨h3, h4⟩ := ih pc' L' st' σ' r σ1 h
          exact ⟨Nat.le_trans h1 h3, Nat.le_trans h2 h4⟩
        · simp only at h
          cases hx : X j As σ with
          | none => rw [hx] at h; cases h
          | some y =>
            obtain ⟨r2, σ2⟩ := y
            rw [hx] at h
            obtain ⟨h1, h2⟩ := hX j As σ r2 σ2 hx
            obtain ⟨h3, h4⟩ := ih _ _ _ _ r σ1 h
            exact ⟨Nat.le_trans h1 h3, Nat.le_trans h2 h4⟩
        · simp only at h
          cases h
          exact ⟨Nat.le_refl _, Nat.le_refl _⟩
theorem gRun_W {G : gG} {MT : Nat → gM} {l : Launch} {M : gM} {d : Nat} {X : Nat → List Value → gS → Option (Option Value × gS)} {P : Nat → Option gO}
    (hX : ∀ j As σ r σ', X j As σ = some (r, σ') → gMet G l (MT j) d As σ r σ' ∧ gn σ ≤ gn σ' ∧ gw σ ≤ gw σ') (hP : ∀ pc o, P pc = some o → gOk2 MT l M pc o)
    {p : Program} {e : Env} {R : Room} {s : State} {m : MethodId} {args : Array Value} {below : List Frame} {meth : Method} {c : Code} {Q : State → Prop} {n0 w0 : Nat} {r : Option Value} {σ1 : gS}
    (hc : gCx G M p R s m args meth c) (hd : d + 1 ≤ R.frames ∧ 60 * d + 60 ≤ R.locals) (hf : gn σ1 ≤ n0 + R.cells ∧ gw σ1 ≤ w0 + R.slots)
    (hQ : ∃ Qc : Array Value → State → Outcome → State → Prop, Q = MQ below Qc args s (gn σ1 - n0) (gw σ1 - w0) (gA G) ∧ ∀ (t : State) (locs : List Loc), gRep G σ1 t.heap → va_S (gA G) s.heap t.heap locs → Qc args s (.returned r) t) :
    ∀ (n pc : Nat) (L : gL) (st : List Value) (σ : gS) (H : Heap) (locs : List Loc) (ls : Array Slot), gRun X P n pc L st σ = some (r, σ1) → n0 ≤ gn σ → w0 ≤ gw σ → gRep G σ H → va_S (gA G) s.heap H locs → gLr L ls → L.length = M.2.2.1 →
      W p l e R s m args below meth c H locs (gn σ - n0) (gw σ - w0) Q (F0 m pc ls st) := by
  intro n
  induction n with
  | zero => intro pc L st σ H locs ls h; cases h
  | succ n ih =>
    intro pc L st σ H locs ls h hn hw hR hS hl hL
    have hUp := gRun_up (X := X) (P := P) (fun j As σ r σ' h => (hX j As σ r σ' h).2) (fun pc o h => (hP pc o h).2)
    unfold gRun at h
    cases hp : P pc with
    | none => rw [hp] at h; cases h
    | some o =>
      rw [hp] at h
      simp only at h
      cases ho : o pc L st σ with
      | none => rw [ho] at h; cases h
      | some x =>
        rw [ho] at h
        refine (hP pc o hp).1 G p e R s m args below meth c Q n0 w0 H locs ls L st σ x hc hn hw hR hS hl hL ho ?_
        rcases x with ⟨pc', L', st', σ'⟩ | ⟨⟨j, As, rest⟩ | rv⟩
        · obtain ⟨h1, h2, h5⟩ := (hP pc o hp).2 L st σ pc' L' st' σ' ho
          obtain ⟨h3, h4⟩ := hUp _ _ _ _ _ _ _ h
          exact ⟨⟨Nat.le_trans h3 hf.1, Nat.le_trans h4 hf.2⟩, fun H' locs' ls' hR' hS' hl' => ih pc' L' st' σ' H' locs' ls' h (Nat.le_trans hn h1) (Nat.le_trans hw h2) hR' hS' hl' (h5.trans hL)⟩
        · simp only at h
          cases hx : X j As σ with
          | none => rw [hx] at h; cases h
          | some y =>
            obtain ⟨r2, σ2⟩ := y
            rw [hx] at h
            obtain ⟨hM, h1, h2⟩ := hX j As σ r2 σ2 hx
            obtain ⟨h3, h4⟩ := hUp _ _ _ _ _ _ _ h
            exact ⟨d, r2, σ2, hM, hd, ⟨h1, h2⟩, ⟨Nat.le_trans h3 hf.1, Nat.le_trans h4 hf.2⟩, fun H' locs' hR' hS' => ih _ _ _ _ H' locs' ls h (Nat.le_trans hn h1) (Nat.le_trans hw h2) hR' hS' hl hL⟩
        · simp only at h
          cases h
          exact hQ
/-- the tables of a program: every method's steps are sound -/
def gPg (l : Launch) (MT : Nat → gM) (Pg : Nat → Nat → Option gO) : Prop := ∀ i : Nat, (∀ pc, Pg i pc = none) ∨ ((plainName (MT i).1.cls = true ∧ (MT i).2.2.1 ≤ 40 ∧ Cond.code (MT i).1 (MT i).2.1 (MT i).2.2.1 (MT i).2.2.2 ∈ gWS) ∧ ∀ pc o, Pg i pc = some o → gOk2 MT l (MT i) pc o)
theorem gEx_up {l : Launch} {MT : Nat → gM} {Pg : Nat → Nat → Option gO} {F : Nat} (hPg : gPg l MT Pg) : ∀ (d i : Nat) (As : List Value) (σ : gS) (r : Option Value) (σ' : gS), gEx Pg (fun i => (MT i).2.2.1) F d i As σ = some (r, σ') → gn σ ≤ gn σ' ∧ gw σ ≤ gw σ' := by
  intro d
  induction d with
  | zero => intro i As σ r σ' h; cases h
  | succ d ih =>
    intro i As σ r σ' h
    unfold gEx at h
    split at h
    · refine gRun_up ih (fun pc o hp => ?_) F 0 _ _ _ _ _ h
      rcases hPg i with h0 | h0
      · rw [h0 pc] at hp; cases hp
      · exact (h0.2 pc o hp).2
    · cases h
theorem gEx_met {l : Launch} {MT : Nat → gM} {Pg : Nat → Nat → Option gO} {F : Nat} (hPg : gPg l MT Pg) (G : gG) : ∀ (d i : Nat) (As : List Value) (σ : gS) (r : Option Value) (σ' : gS), gEx Pg (fun i => (MT i).2.2.1) F d i As σ = some (r, σ') → gMet G l (MT i) d As σ r σ' := by
  intro d
  induction d with
  | zero => intro i As σ r σ' h; cases h
  | succ d ih =>
    intro i As σ r σ' h
    have hup := gEx_up hPg (d + 1) i As σ r σ' h
    unfold gEx at h
    split at h
    · next hA =>
      rcases hPg i with h0 | ⟨⟨hy, hml40, hcd⟩, h0⟩
      · cases hF : F with
        | zero => rw [hF] at h; cases h
        | succ n =>
          rw [hF] at h
          unfold gRun at h
          rw [h0 0] at h
          cases h
      · refine Met.ofW (cc := (MT i).2.1) (maxL := (MT i).2.2.1) (ret := (MT i).2.2.2) hy rfl ?_
        intro p e s m args below meth c s₁ B hml hv
        obtain ⟨rfl, hR, hWd⟩ := hv
        have hts : ∀ w ∈ gws (MT i), w.before As.toArray s = true := atoms_spec (ws := gws (MT i)) B.pre
        have hcx : gCx G (MT i) p (headSpec (gws (MT i)) (gRm (d + 1) σ σ')).room s m As.toArray meth c :=
          ⟨B.exec, B.bytes, hml, findClass_of_methodNamed B.named, fun w hw => hts w (List.mem_cons_of_mem _ hw), B.returns, B.notSynchronized, hWd, (name_of_methodNamed B.named B.method).1, Nat.le_add_left _ _, by show 60 ≤ 60 * (d + 1); omega⟩
        rw [lg_entry_eq]
        have hle := lv_entry As (n := (MT i).2.2.1) hA
        have hK := gRun_W (G := G) (MT := MT) (l := l) (M := MT i) (d := d) (X := gEx Pg (fun i => (MT i).2.2.1) F d) (P := Pg i) (fun j As σ r σ' h => ⟨ih j As σ r σ' h, gEx_up hPg d j As σ r σ' h⟩) h0 (e := e) (below := below) (Q := MQ below (gPost G r σ') As.toArray s (gn σ' - gn σ) (gw σ' - gw σ) (gA G)) (n0 := gn σ) (w0 := gw σ) (r := r) (σ1 := σ')
          hcx ⟨Nat.le_refl _, by show 60 * d + 60 ≤ 60 * (d + 1); omega⟩ ⟨by show _ ≤ gn σ + (gn σ' - gn σ); omega, by show _ ≤ gw σ + (gw σ' - gw σ); omega⟩
          ⟨gPost G r σ', rfl, fun t locs g1 g2 => ⟨rfl, g1, g2.1, g2.2.1⟩⟩ F 0 (gLoc (MT i).2.2.1 As) [] σ s.heap [] _ h (Nat.le_refl _) (Nat.le_refl _) hR va_S.rf (gLoc_has hle) (by simp [gLoc])
        rw [Nat.sub_self, Nat.sub_self] at hK
        exact hK
    · cases h
theorem u_fmt {pc : Nat} : gUp pc o_fmt := by intro L st σ pc' L' st' σ' ho; unfold o_fmt at ho; split at ho <;> cases ho <;> exact ⟨Nat.le_refl _, Nat.le_refl _, rfl⟩
theorem u_cast {pc : Nat} : gUp pc o_cast := by intro L st σ pc' L' st' σ' ho; unfold o_cast at ho; split at ho <;> (try split at ho) <;> cases ho <;> exact ⟨Nat.le_refl _, Nat.le_refl _, rfl⟩
theorem u_clone {pc : Nat} : gUp pc o_clone := by intro L st σ pc' L' st' σ' ho; unfold o_clone at ho; split at ho <;> (try split at ho) <;> cases ho <;> exact ⟨Nat.le_succ _, Nat.le_add_right _ _, rfl⟩
