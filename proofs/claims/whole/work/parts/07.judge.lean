/-! the judgement of an instruction -/
/-- the words on nest mates that the tables hold -/
def gNW : List Cond := (lw_tbl.filter (fun w => match w with | .methodLinkNest .. => true | _ => false))
def gWd (G : gG) (U : State) : Prop :=
  va_K (gD G) vwCl (gTys G) U ∧ va_X (gb G) (gLn G) (gxs G) U U.heap ∧ vk_S 15 gSlL gSbL (gaK G) (gaV G) (gA G) U U.heap ∧
  (∀ j : Nat, j < 15 → vk_R RX6 (gSx.getD j 0) (gSs.getD j "") (gaK G j) U) ∧ (∀ w ∈ gNW, va_Nw w U) ∧ va_AO RX3 U ∧ va_AO RX10 U ∧ va_Z RJ0 "COMPACT_STRINGS" "Z" (.int 1) (gA G) U U.heap ∧ gB G ≤ U.heap.size ∧ gb G < gB G ∧ va_Z RJ3 "SIOOBE_FORMATTER" "Ljava/util/function/BiFunction;" (gFm (gaK G 15)) (gA G) U U.heap ∧ va_Nw (.castable "[I" "java/lang/Cloneable") U
theorem gNW_form {w : Cond} (h : w ∈ gNW) : ∃ (a : String) (i : Nat) (x : MethodName) (h : String), w = .methodLinkNest a i x h := by
  have := (List.mem_filter.mp h).2
  cases w <;> first | exact ⟨_, _, _, _, rfl⟩ | cases this
theorem gWd_move {G : gG} {s U : State} {H : Heap} {locs : List Loc} (hW : s.WarmedH U.vm) (hU : U.heap = H) (hS : va_S (gA G) s.heap H locs) (h : gWd G s) : gWd G U := by
  obtain ⟨h1, h2, h3, h4, h5, h6, h7, h8, h9, h10, h11, h12⟩ := h
  have ha := hW.alike
  have hq : ∀ a : Nat, a < s.heap.size → ¬ gA G a → U.heap[a]? = s.heap[a]? := fun a g1 g2 => by rw [hU]; exact hS.2.1 a g1 g2
  refine ⟨h1.moved ha, ((h2.kept (H1 := U.heap) (hq _ (Nat.lt_of_lt_of_le h10 h9) (Nat.not_le.mpr h10))).moved ha), ((h3.moved ha).kept hq), fun j hj => (h4 j hj).warm hW, fun w hw => ?_, h6.moved ha, h7.moved ha, (h8.moved ha).kept hq, by rw [hU]; exact Nat.le_trans h9 hS.1, h10, (h11.moved ha).kept hq, va_Nw.warmC hW h12⟩
  obtain ⟨a, i, x, g, rfl⟩ := gNW_form hw
  exact va_Nw.warmM hW (h5 _ hw)
theorem gWd_call {G : gG} {U : State} {g : JFrame} {mk : MethodId} {a : Array Value} (h : gWd G U) : gWd G (U.calling g mk a) := by
  obtain ⟨h1, h2, h3, h4, h5, h6, h7, h8, h9, h10, h11, h12⟩ := h
  have ha : U.vm.Alike (U.calling g mk a).vm := Vm.Alike.refl U.vm
  refine ⟨h1.moved ha, h2.moved ha, h3.moved ha, fun j hj => (h4 j hj).same rfl, fun w hw => ?_, h6.moved ha, h7.moved ha, h8.moved ha, h9, h10, h11.moved ha, va_Nw.same rfl rfl h12⟩
  obtain ⟨a, i, x, g, rfl⟩ := gNW_form hw
  exact va_Nw.same rfl rfl (h5 _ hw)
/-- a method: name, code, words of locals, return type -/
abbrev gM : Type := MethodName × ByteArray × Nat × Option FieldType
def gws (M : gM) : List Cond := Cond.code M.1 M.2.1 M.2.2.1 M.2.2.2 :: gWS
def gRm (d : Nat) (σ σ' : gS) : Room := { frames := d, cells := gn σ' - gn σ, slots := gw σ' - gw σ, locals := 60 * d }
def gPre (G : gG) (σ : gS) (U : State) : Prop := gRep G σ U.heap ∧ gWd G U
def gPost (G : gG) (r : Option Value) (σ' : gS) : Array Value → State → Outcome → State → Prop := fun _ st oc t => oc = .returned r ∧ gRep G σ' t.heap ∧ va_F (gA G) st t
def gMet (G : gG) (l : Launch) (M : gM) (d : Nat) (As : List Value) (σ : gS) (r : Option Value) (σ' : gS) : Prop :=
  Met l M.1 (gws M) (gRm d σ σ') (va_Pc As (gPre G σ)) (gPost G r σ') (gn σ' - gn σ) (gw σ' - gw σ) (gA G)
def gCx (G : gG) (M : gM) (p : Program) (R : Room) (s : State) (m : MethodId) (args : Array Value) (meth : Method) (c : Code) : Prop :=
  p.tables.exec = Jvm.exec ∧ c.code = M.2.1 ∧ c.maxLocals = M.2.2.1 ∧ s.vm.findClass M.1.cls = some m.cls ∧ (∀ w ∈ gWS, w.before args s = true) ∧ meth.sig.returnType = M.2.2.2 ∧ meth.locks = false ∧ gWd G s ∧ meth.name = M.1.name ∧ 1 ≤ R.frames ∧ 60 ≤ R.locals
/-- what must hold behind an instruction -/
def gKont (G : gG) (MT : Nat → gM) (l : Launch) (p : Program) (e : Env) (R : Room) (s : State) (m : MethodId) (args : Array Value) (below : List Frame) (meth : Method) (c : Code) (Q : State → Prop) (n0 w0 pc : Nat) (ls : Array Slot) (σ : gS) : gX → Prop
  | .inl (pc', L', st', σ') => (gn σ' ≤ n0 + R.cells ∧ gw σ' ≤ w0 + R.slots) ∧ ∀ (H' : Heap) (locs' : List Loc) (ls' : Array Slot), gRep G σ' H' → va_S (gA G) s.heap H' locs' → gLr L' ls' → W p l e R s m args below meth c H' locs' (gn σ' - n0) (gw σ' - w0) Q (F0 m pc' ls' st')
  | .inr (.inl (j, As, rest)) => ∃ (d : Nat) (r : Option Value) (σ' : gS), gMet G l (MT j) d As σ r σ' ∧ (d + 1 ≤ R.frames ∧ 60 * d + 60 ≤ R.locals) ∧ (gn σ ≤ gn σ' ∧ gw σ ≤ gw σ') ∧ (gn σ' ≤ n0 + R.cells ∧ gw σ' ≤ w0 + R.slots) ∧
      ∀ (H' : Heap) (locs' : List Loc), gRep G σ' H' → va_S (gA G) s.heap H' locs' → W p l e R s m args below meth c H' locs' (gn σ' - n0) (gw σ' - w0) Q (F0 m (pc + 3) ls (r.toList ++ rest))
  | .inr (.inr r) => ∃ Qc : Array Value → State → Outcome → State → Prop, Q = MQ below Qc args s (gn σ - n0) (gw σ - w0) (gA G) ∧ ∀ (t : State) (locs : List Loc), gRep G σ t.heap → va_S (gA G) s.heap t.heap locs → Qc args s (.returned r) t
def gOk (G : gG) (MT : Nat → gM) (l : Launch) (M : gM) (pc : Nat) (o : gO) : Prop :=
  ∀ (p : Program) (e : Env) (R : Room) (s : State) (m : MethodId) (args : Array Value) (below : List Frame) (meth : Method) (c : Code) (Q : State → Prop) (n0 w0 : Nat) (H : Heap) (locs : List Loc) (ls : Array Slot) (L : gL) (st : List Value) (σ : gS) (x : gX),
    gCx G M p R s m args meth c → n0 ≤ gn σ → w0 ≤ gw σ → gRep G σ H → va_S (gA G) s.heap H locs → gLr L ls → L.length = M.2.2.1 → o pc L st σ = some x → gKont G MT l p e R s m args below meth c Q n0 w0 pc ls σ x →
    W p l e R s m args below meth c H locs (gn σ - n0) (gw σ - w0) Q (F0 m pc ls st)
/-- the cells and slots only grow, the locals' number stays -/
def gUp (pc : Nat) (o : gO) : Prop := ∀ (L : gL) (st : List Value) (σ : gS) (pc' : Nat) (L' : gL) (st' : List Value) (σ' : gS), o pc L st σ = some (.inl (pc', L', st', σ')) → gn σ ≤ gn σ' ∧ gw σ ≤ gw σ' ∧ L'.length = L.length
theorem g_go {p : Program} {l : Launch} {e : Env} {R : Room} {s : State} {m : MethodId} {args : Array Value} {below : List Frame} {meth : Method} {c : Code} {H : Heap} {locs : List Loc} {cells slots mc ms : Nat} {Q : State → Prop} {pc : Nat} {ls : Array Slot} {st0 rest : List Value} {Qa : State → Outcome → State → Prop} {free : Addr → Prop}
    (hr : va_Run p l e R s m args below meth c H locs cells slots mc ms (F0 m pc ls st0) rest Qa free)
    (kk : ∀ (v : Option Value) (st₀ t : State) (L : List Loc), st₀.heap = H → Qa st₀ (.returned v) t → (∀ q ∈ L, free q.base) → W p l e R s m args below meth c t.heap (locs ++ L) (cells + mc) (slots + ms) Q (F0 m (pc + 3) ls (v.toList ++ rest))) :
    W p l e R s m args below meth c H locs cells slots Q (F0 m pc ls st0) := by
  intro T hT X
  obtain ⟨v, st₀, t, T', L, h0, X', hL, e1, e2, hq, st⟩ := hr T hT X
  obtain ⟨t2, a1, b1⟩ := kk v st₀ t L h0 hq hL T' e1 X'
  exact ⟨t2, st t2 a1, b1⟩
theorem gPre_blind {G : gG} {As : List Value} {σ : gS} : FrameBlind (va_Pc As (gPre G σ)) := fun a U g mk h => ⟨h.1, h.2.1, gWd_call h.2.2⟩
theorem gPre_at {G : gG} {As : List Value} {σ : gS} {s : State} {H : Heap} {locs : List Loc} (hR : gRep G σ H) (hS : va_S (gA G) s.heap H locs) (hWd : gWd G s) : ∀ U : State, U.heap = H → s.WarmedH U.vm → va_Pc As (gPre G σ) As.toArray U :=
  fun U hU hW => ⟨rfl, by rw [hU]; exact hR, gWd_move hW hU hS hWd⟩
/-- behind a call: the world goes on -/
theorem g_behind {G : gG} {σ σ' : gS} {s : State} {H : Heap} {locs L : List Loc} {st₀ t : State} {As : Array Value} {r v : Option Value} (hS : va_S (gA G) s.heap H locs) (h0 : st₀.heap = H) (hq : gPost G r σ' As st₀ (.returned v) t) (hL : ∀ q ∈ L, gA G q.base) :
    v = r ∧ gRep G σ' t.heap ∧ va_S (gA G) s.heap t.heap (locs ++ L) := by
  obtain ⟨h1, h2, h3, h4⟩ := hq
  refine ⟨Outcome.returned.inj h1, h2, ⟨Nat.le_trans hS.1 (by rw [← h0]; exact h3), fun q g1 g2 => ?_, fun q hq => ?_⟩⟩
  · rw [h4 q (by rw [h0]; exact Nat.lt_of_lt_of_le g1 hS.1) g2, h0]
    exact hS.2.1 q g1 g2
  · rcases List.mem_append.mp hq with h | h
    · exact hS.2.2 q h
    · exact hL q h
theorem gws_good {M : gM} (h : Cond.code M.1 M.2.1 M.2.2.1 M.2.2.2 ∈ gWS) : GoodIn gWS (gws M) := by
  intro w hw
  rcases List.mem_cons.mp hw with rfl | hw
  · exact ⟨h, gWS_good h⟩
  · exact ⟨hw, gWS_good hw⟩
