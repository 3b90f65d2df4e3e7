/-! copies, calls, returns -/
theorem g_cat (t : List Value) : (t.map fun v => v.category).sum ≤ 2 * t.length := by
  induction t with
  | nil => simp
  | cons v t ih =>
    have : v.category ≤ 2 := by rcases lv_cat v with h | h <;> omega
    simp only [List.map_cons, List.sum_cons, List.length_cons]
    omega
theorem g_nn {z : Int32} (hz : ¬ z < 0) : z.toInt = (z.toNatClampNeg : Int) := by
  have hz0 : (0 : Int) ≤ z.toInt := by
    have := Int32.not_lt.mp hz
    simpa using Int32.le_iff_toInt_le.mp this
  show z.toInt = ((z.toInt.toNat : Nat) : Int)
  omega
theorem k_obj {G : gG} {MT : Nat → gM} {l : Launch} {M : gM} {pc : Nat} {i : Nat} (d : decode M.2.1 pc = .ok (.invokespecial i, 3)) (w : Cond.methodLink M.1.cls i objectInit ∈ gWS) (w1 : Cond.instanceMethod objectInit ∈ gWS) (w2 : Cond.code objectInit ⟨#[0xb1]⟩ 1 none ∈ gWS) : gOk G MT l M pc o_obj := by
  intro p e R s m args below meth c Q n0 w0 H locs ls L st σ x hc hn hw hR hS hl hL ho hk
  obtain ⟨hx, hb, hml, hown, hts, hr, hlk, hWd, hnm, hfr, hlo⟩ := hc
  unfold o_obj at ho
  split at ho
  · next a t =>
    split at ho
    · next ht =>
      cases ho
      obtain ⟨hk1, hk2⟩ := hk
      have := g_cat t
      exact W.objInit hx hb hown (hts _ w) (hts _ w1) (hts _ w2) rfl (by show ls.size = _; rw [hl.1, hL, hml]) rfl d hfr (by show 2 * 0 + _ + 12 ≤ _; omega) (hk2 H locs ls hR hS hl)
    · cases ho
  · cases ho

theorem k_copy {G : gG} {MT : Nat → gM} {l : Launch} {M : gM} {pc : Nat} {i : Nat} (d : decode M.2.1 pc = .ok (.invokestatic i, 3)) (w : Cond.methodLink M.1.cls i arraycopyName ∈ gWS) (w1 : Cond.native arraycopyName ∈ gWS) (w2 : Cond.static arraycopyName ∈ gWS) (w3 : Cond.initialized "java/lang/System" ∈ gWS) : gOk G MT l M pc o_copy := by
  intro p e R s m args below meth c Q n0 w0 H locs ls L st σ x hc hn hw hR hS hl hL ho hk
  obtain ⟨hx, hb, hml, hown, hts, hr, hlk, hWd, hnm, hfr, hlo⟩ := hc
  unfold o_copy at ho
  split at ho
  · next n dp a sp a0 t =>
    split at ho
    · next hh =>
      obtain ⟨⟨hK0, hK, ht⟩, ⟨h1, h2, h3⟩, h4, h5⟩ := hh
      cases ho
      obtain ⟨hk1, hk2⟩ := hk
      have hcat := g_cat t
      have hnw : nativeFrameWords "java/lang/System" "arraycopy" 5 ≤ 30 := by decide
      intro T hT X
      have hc0 := (hR.2.2.1 a0 1 (by decide) hK0).2
      have hc1 := (hR.2.2.1 a 1 (by decide) hK).2
      obtain ⟨-, k0, hk0, cm0, hkk0⟩ := (hWd.1.2 1 _ (gTys_at G (by decide))).1 (gN σ a0) (gAv σ 1 a0)
      have hk1' : s.vm.classes[(arrV (gY G 1) (gN σ a) (gAv σ 1 a)).cls]? = some k0 := hk0
      obtain ⟨vm', X', step⟩ := X.arraycopy hx hown (hts _ w) (hts _ w1) (hts _ w2) (hts _ w3) (src := a0) (dst := a) (cs := arrV (gY G 1) (gN σ a0) (gAv σ 1 a0)) (cd := arrV (gY G 1) (gN σ a) (gAv σ 1 a)) (srcPos := sp) (destPos := dp) (n := n) (by rw [hT]; exact hc0) (by rw [hT]; exact hc1)
        (fun _ h => by cases h) (fun _ h => by cases h) (fun h => by cases h) (fun h => by cases h) hk0 hk1' hkk0 hkk0 (by simp [refKind, gTy]) h1 h2 h3
        (by rw [g_nn h1, g_nn h3, arrV_size]; omega) (by rw [g_nn h2, g_nn h3, arrV_size]; omega)
        (fun vm₁ _ j hj => by
          have e : (arrV (gY G 1) (gN σ a0) (gAv σ 1 a0)).slots.getD (sp.toNatClampNeg + j) .null = .int (gI σ a0 (sp.toNatClampNeg + j)) := by
            rw [Array.getD_eq_getD_getElem?, arrV_read _ _ (by omega)]
            rfl
          refine ⟨?_, ?_⟩
          · rw [e]; rfl
          · rw [e]; exact trivial)
        (g := F0 m pc ls (.int n :: .int dp :: .ref a :: .int sp :: .ref a0 :: t)) rfl (by show ls.size = _; rw [hl.1, hL, hml]) (rest := t) rfl (by rw [hb]; exact d) hfr (by show 2 * 0 + _ + (nativeFrameWords "java/lang/System" "arraycopy" 5 + 11) ≤ _; omega)
      have e1 : copied (arrV (gY G 1) (gN σ a0) (gAv σ 1 a0)) (arrV (gY G 1) (gN σ a) (gAv σ 1 a)) sp dp n = arrV (gY G 1) (gN σ a) (fun j => .int (va_cpy (gI σ a0) (gI σ a) sp.toNatClampNeg dp.toNatClampNeg n.toNatClampNeg j)) := va_copied (fun z => .int z) (gY G 1) (gY G 1) (gI σ a0) (gI σ a) h4
      rw [e1] at X' step
      have hla : a < H.size := (Array.getElem?_eq_some_iff.mp hc1).1
      generalize hcel : arrV (gY G 1) (gN σ a) (fun j => .int (va_cpy (gI σ a0) (gI σ a) sp.toNatClampNeg dp.toNatClampNeg n.toNatClampNeg j)) = cel at X' step
      have hheap : ((T.setVm vm').setCell a cel).heap = H.setIfInBounds a cel := by rw [← hT]; rfl
      have oq : ∀ q : Nat, q ≠ a → (H.setIfInBounds a cel)[q]? = H[q]? := fun q hq => by simp [Array.getElem?_setIfInBounds, Ne.symm hq]
      have hB := (hR.2.2.1 a 1 (by decide) hK).1
      obtain ⟨t2, a1, b1⟩ := hk2 (H.setIfInBounds a cel) _ ls (by
          refine gRep_upd hR a (Or.inr ⟨1, by decide, hK⟩) rfl rfl rfl rfl (fun b j hb => by simp [gI, sIr, gUr, hb]) (fun _ _ _ => rfl) (fun _ _ _ => rfl) (by simp) oq (fun c hc h => by omega) (fun t1 ht1 h => ?_)
          have : t1 = 1 := by omega
          subst this
          rw [← hcel]
          simp only [Array.getElem?_setIfInBounds_self, hla, if_true]
          congr 2
          funext j
          simp [gAv, gVt, gTy, gI, sIr, gUr]) ⟨by simp; exact hS.1, fun q g1 g2 => by
            rw [oq q (fun e => g2 (by rw [e]; exact hB))]
            exact hS.2.1 q g1 g2, fun q hq => by
            rcases List.mem_append.mp hq with h | h
            · exact hS.2.2 q h
            · obtain ⟨z, -, hz⟩ := List.mem_map.mp h
              rw [← hz]
              exact hB⟩ hl _ hheap X'
      exact ⟨t2, step t2 a1, b1⟩
    · cases ho
  · cases ho

theorem k_fmt {G : gG} {MT : Nat → gM} {l : Launch} {M : gM} {pc : Nat} {i : Nat} (d : decode M.2.1 pc = .ok (.getstatic i, 3)) (w : Cond.fieldLink M.1.cls i RJ3 "SIOOBE_FORMATTER" "Ljava/util/function/BiFunction;" ∈ gWS) : gOk G MT l M pc o_fmt := by
  intro p e R s m args below meth c Q n0 w0 H locs ls L st σ x hc hn hw hR hS hl hL ho hk
  obtain ⟨hx, hb, hml, hown, hts, hr, hlk, hWd, hnm, hfr, hlo⟩ := hc
  have hT : gT σ 15 = gaK G 15 := hR.2.2.2.2.2.1 15 (by decide)
  have hZ := hWd.2.2.2.2.2.2.2.2.2.2.1
  unfold o_fmt at ho
  split at ho
  · next e0 =>
    cases ho
    obtain ⟨hk1, hk2⟩ := hk
    rw [← hT, e0] at hZ
    exact va_gets hx hb hZ hS hown (hts _ w) (fun _ h => h) d (hk2 H locs ls hR hS hl)
  · next e0 =>
    cases ho
    obtain ⟨hk1, hk2⟩ := hk
    rw [← hT, e0] at hZ
    exact va_gets hx hb hZ hS hown (hts _ w) (fun _ h => h) d (hk2 H locs ls hR hS hl)

theorem k_cast {G : gG} {MT : Nat → gM} {l : Launch} {M : gM} {pc : Nat} {i : Nat} (d : decode M.2.1 pc = .ok (.checkcast i, 3)) (w : Cond.classLink M.1.cls i "[I" ∈ gWS) : gOk G MT l M pc o_cast := by
  intro p e R s m args below meth c Q n0 w0 H locs ls L st σ x hc hn hw hR hS hl hL ho hk
  obtain ⟨hx, hb, hml, hown, hts, hr, hlk, hWd, hnm, hfr, hlo⟩ := hc
  unfold o_cast at ho
  split at ho
  · next a t =>
    split at ho
    · next hK =>
      cases ho
      obtain ⟨hk1, hk2⟩ := hk
      obtain ⟨g1, g2⟩ := g_arr hR hWd (t := 1) (by decide) hK
      have hnm : s.vm.findClass "[I" = some (gY G 1) := (hWd.1.2 1 _ (gTys_at G (by decide))).2
      intro T hT X
      obtain ⟨vm', X', stp⟩ := X.checkcastYes hx hown (hts _ w) (by rw [hT]; exact g1) rfl hnm (va_asg _ _) (g := F0 m pc ls (.ref a :: t)) rfl rfl (by rw [hb]; exact d)
      obtain ⟨t2, a1, b1⟩ := hk2 H locs ls hR hS hl (T.setVm vm') hT X'
      exact ⟨t2, stp t2 a1, b1⟩
    · cases ho
  · cases ho

theorem k_clone {G : gG} {MT : Nat → gM} {l : Launch} {M : gM} {pc : Nat} {i : Nat} (d : decode M.2.1 pc = .ok (.invokevirtual i, 3)) (w : Cond.methodLink M.1.cls i ⟨"[I", "clone", "()Ljava/lang/Object;"⟩ ∈ gWS) (w1 : Cond.sameMethod "[I" "java/lang/Object" "clone" "()Ljava/lang/Object;" ∈ gWS) (w2 : Cond.native ⟨"java/lang/Object", "clone", "()Ljava/lang/Object;"⟩ ∈ gWS) (w3 : Cond.instanceMethod ⟨"java/lang/Object", "clone", "()Ljava/lang/Object;"⟩ ∈ gWS) (w4 : Cond.selects "[I" ⟨"[I", "clone", "()Ljava/lang/Object;"⟩ ⟨"java/lang/Object", "clone", "()Ljava/lang/Object;"⟩ ∈ gWS) : gOk G MT l M pc o_clone := by
  intro p e R s m args below meth c Q n0 w0 H locs ls L st σ x hc hn hw hR hS hl hL ho hk
  obtain ⟨hx, hb, hml, hown, hts, hr, hlk, hWd, hnm, hfr, hlo⟩ := hc
  unfold o_clone at ho
  split at ho
  · next a t =>
    split at ho
    · next hh =>
      obtain ⟨hK, ht⟩ := hh
      cases ho
      obtain ⟨⟨hk1, hk1b⟩, hk2⟩ := hk
      have hcat := g_cat t
      have hsz : H.size = gn σ := hR.1.1
      have e1 : gn (sIr (sNw σ 21 (gN σ a) (gN σ a)) (gn σ) (gI σ a)) = gn σ + 1 := rfl
      have e2 : gw (sIr (sNw σ 21 (gN σ a) (gN σ a)) (gn σ) (gI σ a)) = gw σ + gN σ a := rfl
      rw [e1] at hk1 hk2
      rw [e2] at hk1b hk2
      rw [Nat.sub_add_comm hn, Nat.sub_add_comm hw] at hk2
      obtain ⟨g1, g2⟩ := g_arr hR hWd (t := 1) (by decide) hK
      have hnm : s.vm.findClass "[I" = some (gY G 1) := (hWd.1.2 1 _ (gTys_at G (by decide))).2
      obtain ⟨c0, t0, f1, f2, f3⟩ := Cond.castable_spec (va_Nw.use (A := args) rfl hWd.2.2.2.2.2.2.2.2.2.2.2)
      cases hnm.symm.trans f1
      intro T hT X
      obtain ⟨-, kA, hkA, comp, hkind⟩ := State.isArrayOf_alike X.warmed.alike ((hWd.1.2 1 _ (gTys_at G (by decide))).1 0 (fun _ => .null))
      obtain ⟨-, kS, hkS, compS, hkindS⟩ := (hWd.1.2 1 _ (gTys_at G (by decide))).1 0 (fun _ => .null)
      obtain ⟨vm', X', stp⟩ := X.cloneArray hx hown (hts _ w) (hts _ w1) (hts _ w2) (hts _ w3) (hts _ w4) (a := a) (cell := arrV (gY G 1) (gN σ a) (gAv σ 1 a)) (by rw [hT]; exact g1) (fun k h => by cases h) (fun h => by cases h) hnm f2 f3
        (fun q v hv => by
          have hk' : T.vm.classes[gY G 1]? = some kA := hkA
          have hfit : fits (gTy 1) v = true := va_fit (fun i _ => rfl) q v hv
          simpa [State.fitsSlot, State.slotType?, arrV, hk', hkind] using hfit)
        (g := F0 m pc ls (.ref a :: t)) rfl (by show ls.size = _; rw [hl.1, hL, hml]) rfl (by rw [hb]; exact d) hfr (by show 2 * 0 + _ + 14 ≤ _; omega) (by omega) (by rw [arrV_size]; omega) (hloader := Vm.clonesLoader_of_array hkS hkindS)
      have hcellE : ({ cls := (arrV (gY G 1) (gN σ a) (gAv σ 1 a)).cls, slots := (arrV (gY G 1) (gN σ a) (gAv σ 1 a)).slots } : Cell) = arrV (gY G 1) (gN σ a) (gAv σ 1 a) := rfl
      rw [hcellE, arrV_size] at X'
      have hR1 : gRep G (sNw σ 21 (gN σ a) (gN σ a)) (H.push (arrV (gY G 1) (gN σ a) (fun _ => .int 0))) := by
        refine gRep_new hR (Or.inr ⟨1, by decide, rfl⟩) (by rw [Array.size_push]) (fun q hq => by rw [Array.getElem?_push, if_neg (Nat.ne_of_lt hq)]) (fun c hc h => by omega) (fun t1 ht1 h => ?_)
        have : t1 = 1 := by omega
        subst this
        rw [Array.getElem?_push_size]
        rfl
      have hKn : gK (sNw σ 21 (gN σ a) (gN σ a)) (gn σ) = 21 := va_up_self _ _ _
      have hNn : gN (sNw σ 21 (gN σ a) (gN σ a)) (gn σ) = gN σ a := va_up_self _ _ _
      have hR2 : gRep G (sIr (sNw σ 21 (gN σ a) (gN σ a)) (gn σ) (gI σ a)) (H.push (arrV (gY G 1) (gN σ a) (gAv σ 1 a))) := by
        refine gRep_upd hR1 (gn σ) (Or.inr ⟨1, by decide, hKn⟩) rfl rfl rfl rfl (fun b j hb => by simp [gI, sIr, gUr, hb]) (fun _ _ _ => rfl) (fun _ _ _ => rfl) (by rw [Array.size_push, Array.size_push]) (fun q hq => by rw [Array.getElem?_push, Array.getElem?_push, if_neg (by rw [hsz]; exact hq), if_neg (by rw [hsz]; exact hq)]) (fun c hc h => by omega) (fun t1 ht1 h => ?_)
        have : t1 = 1 := by omega
        subst this
        rw [← hsz, Array.getElem?_push_size, hsz, hNn]
        congr 2
        funext j
        simp [gAv, gVt, gTy, gI, sIr, gUr]
      have hS2 : va_S (gA G) s.heap (H.push (arrV (gY G 1) (gN σ a) (gAv σ 1 a))) locs := ⟨Nat.le_trans hS.1 (by rw [Array.size_push]; omega), fun q g1 g2 => by
          rw [Array.getElem?_push, if_neg (by have := hS.1; omega)]
          exact hS.2.1 q g1 g2, hS.2.2⟩
      obtain ⟨t2, a1, b1⟩ := hk2 _ locs ls hR2 hS2 hl ((T.setVm vm').pushCell (arrV (gY G 1) (gN σ a) (gAv σ 1 a))) (by rw [← hT]; rfl) X'
      refine ⟨t2, stp t2 ?_, b1⟩
      rw [hcellE, hT, hsz]
      exact a1
    · cases ho
  · cases ho

theorem k_callS {G : gG} {MT : Nat → gM} {l : Launch} {M : gM} {pc : Nat} {i : Nat} (j n : Nat) {y : MethodName} {bc : ByteArray} {nL : Nat} {rt : Option FieldType} (hj : MT j = (y, bc, nL, rt)) (hnL : nL ≤ 40) (hn0 : y.cls ≠ "java/lang/invoke/MethodHandle" ∧ y.cls ≠ "java/lang/invoke/VarHandle" ∧ (parseMethodDescriptor y.desc).map (fun d => d.parameters.length) = some n) (d : decode M.2.1 pc = .ok (.invokestatic i, 3)) (wc : Cond.code y bc nL rt ∈ gWS) (w : Cond.methodLink M.1.cls i y ∈ gWS) (ws : Cond.static y ∈ gWS) (wi : Cond.initialized y.cls ∈ gWS) : gOk G MT l M pc (o_callS j n) := by
  intro p e R s m args below meth c Q n0 w0 H locs ls L st σ x hc hn hw hR hS hl hL ho hk
  obtain ⟨hx, hb, hml, hown, hts, hr, hlk, hWd, hnm, hfr, hlo⟩ := hc
  unfold o_callS at ho
  split at ho
  · next hh =>
      obtain ⟨h1, h2⟩ := hh
      cases ho
      obtain ⟨dd, r, σ', hM, ⟨hd1, hd2⟩, ⟨hu1, hu2⟩, ⟨hf1, hf2⟩, hk3⟩ := hk
      unfold gMet at hM
      rw [hj] at hM
      have hgood : GoodIn gWS (gws (y, bc, nL, _)) := gws_good wc
      have hroom : (gRm dd σ σ').frames + 1 ≤ R.frames ∧ 8 + (nL + 11) + (gRm dd σ σ').locals ≤ R.locals := ⟨hd1, by show 8 + (nL + 11) + 60 * dd ≤ _; omega⟩
      have hcat := g_cat (st.drop n)
      have hrun := va_runS (c := c) (below := below) (e := e) (meth := meth) (H := H) (locs := locs) (cells := gn σ - n0) (slots := gw σ - w0) (As := (st.take n).reverse) (rest := st.drop n) (g := F0 m pc ls st) (nL := M.2.2.1) ⟨hx, hb, hml, hown, hts⟩ hM ⟨callB_of n hts hgood rfl rfl rfl (hts _ wi) (hts _ w) hn0 hroom, hts _ ws⟩ ⟨gPre_blind, gPre_at hR hS hWd⟩ rfl (by simp; omega) (by show ls.size = _; rw [hl.1, hL]) (by simp) (lv_room (by omega)) d ⟨by omega, by omega⟩
      refine g_go hrun (fun v st₀ t2 L2 h0 hq hL2 => ?_)
      obtain ⟨rfl, g1, g2⟩ := g_behind (σ := σ) hS h0 hq hL2
      have := hk3 t2.heap (locs ++ L2) g1 g2
      rw [show gn σ - n0 + (gn σ' - gn σ) = gn σ' - n0 by omega, show gw σ - w0 + (gw σ' - gw σ) = gw σ' - w0 by omega]
      exact this
  · cases ho

theorem k_callN {G : gG} {MT : Nat → gM} {l : Launch} {M : gM} {pc : Nat} {i : Nat} (j n : Nat) {y : MethodName} {bc : ByteArray} {nL : Nat} {rt : Option FieldType} (hj : MT j = (y, bc, nL, rt)) (hnL : nL ≤ 40) (hn0 : y.cls ≠ "java/lang/invoke/MethodHandle" ∧ y.cls ≠ "java/lang/invoke/VarHandle" ∧ (parseMethodDescriptor y.desc).map (fun d => d.parameters.length) = some n) (d : decode M.2.1 pc = .ok (.invokestatic i, 3)) (wc : Cond.code y bc nL rt ∈ gWS) {hst : String} (w : Cond.methodLinkNest M.1.cls i y hst ∈ gNW) (ws : Cond.static y ∈ gWS) (wi : Cond.initialized y.cls ∈ gWS) : gOk G MT l M pc (o_callS j n) := by
  intro p e R s m args below meth c Q n0 w0 H locs ls L st σ x hc hn hw hR hS hl hL ho hk
  obtain ⟨hx, hb, hml, hown, hts, hr, hlk, hWd, hnm, hfr, hlo⟩ := hc
  unfold o_callS at ho
  split at ho
  · next hh =>
      obtain ⟨h1, h2⟩ := hh
      cases ho
      obtain ⟨dd, r, σ', hM, ⟨hd1, hd2⟩, ⟨hu1, hu2⟩, ⟨hf1, hf2⟩, hk3⟩ := hk
      unfold gMet at hM
      rw [hj] at hM
      have hgood : GoodIn gWS (gws (y, bc, nL, _)) := gws_good wc
      have hroom : (gRm dd σ σ').frames + 1 ≤ R.frames ∧ 8 + (nL + 11) + (gRm dd σ σ').locals ≤ R.locals := ⟨hd1, by show 8 + (nL + 11) + 60 * dd ≤ _; omega⟩
      have hcat := g_cat (st.drop n)
      have hrun := va_runSN (c := c) (below := below) (e := e) (meth := meth) (H := H) (locs := locs) (cells := gn σ - n0) (slots := gw σ - w0) (As := (st.take n).reverse) (rest := st.drop n) (g := F0 m pc ls st) (nL := M.2.2.1) ⟨hx, hb, hml, hown, hts⟩ hM ⟨va_cnB n hts hgood rfl rfl rfl (hWd.2.2.2.2.1 _ w) (hts _ wi) hn0 hroom, hts _ ws, trivial⟩ ⟨gPre_blind, gPre_at hR hS hWd⟩ rfl (by simp; omega) (by show ls.size = _; rw [hl.1, hL]) (by simp) (lv_room (by omega)) d ⟨by omega, by omega⟩
      refine g_go hrun (fun v st₀ t2 L2 h0 hq hL2 => ?_)
      obtain ⟨rfl, g1, g2⟩ := g_behind (σ := σ) hS h0 hq hL2
      have := hk3 t2.heap (locs ++ L2) g1 g2
      rw [show gn σ - n0 + (gn σ' - gn σ) = gn σ' - n0 by omega, show gw σ - w0 + (gw σ' - gw σ) = gw σ' - w0 by omega]
      exact this
  · cases ho

theorem k_callI {G : gG} {MT : Nat → gM} {l : Launch} {M : gM} {pc : Nat} {i : Nat} (j n : Nat) {y : MethodName} {bc : ByteArray} {nL : Nat} {rt : Option FieldType} (hj : MT j = (y, bc, nL, rt)) (hnL : nL ≤ 40) (hn0 : y.cls ≠ "java/lang/invoke/MethodHandle" ∧ y.cls ≠ "java/lang/invoke/VarHandle" ∧ (parseMethodDescriptor y.desc).map (fun d => d.parameters.length) = some n) (d : decode M.2.1 pc = .ok (.invokespecial i, 3)) (wc : Cond.code y bc nL rt ∈ gWS) (w : Cond.methodLink M.1.cls i y ∈ gWS) (hrt : rt = none) (hy : y.name = "<init>") (ws : Cond.instanceMethod y ∈ gWS) (wi : Cond.initialized y.cls ∈ gWS) : gOk G MT l M pc (o_callI j n) := by
  intro p e R s m args below meth c Q n0 w0 H locs ls L st σ x hc hn hw hR hS hl hL ho hk
  obtain ⟨hx, hb, hml, hown, hts, hr, hlk, hWd, hnm, hfr, hlo⟩ := hc
  subst hrt
  unfold o_callI at ho
  split at ho
  · next a t heq =>
    split at ho
    · next hh =>
      obtain ⟨h1, h2⟩ := hh
      cases ho
      obtain ⟨dd, r, σ', hM, ⟨hd1, hd2⟩, ⟨hu1, hu2⟩, ⟨hf1, hf2⟩, hk3⟩ := hk
      unfold gMet at hM
      rw [hj] at hM
      have hgood : GoodIn gWS (gws (y, bc, nL, _)) := gws_good wc
      have hroom : (gRm dd σ σ').frames + 1 ≤ R.frames ∧ 8 + (nL + 11) + (gRm dd σ σ').locals ≤ R.locals := ⟨hd1, by show 8 + (nL + 11) + 60 * dd ≤ _; omega⟩
      have hcat := g_cat t
      have hrun := va_runI (c := c) (below := below) (e := e) (meth := meth) (H := H) (locs := locs) (cells := gn σ - n0) (slots := gw σ - w0) (b := a) (As := (st.take n).reverse) (rest := t) (g := F0 m pc ls st) (nL := M.2.2.1) ⟨hx, hb, hml, hown, hts⟩ hM ⟨callB_of n hts hgood rfl rfl rfl (hts _ wi) (hts _ w) hn0 hroom, hy, hts _ ws⟩ ⟨gPre_blind, gPre_at hR hS hWd⟩ rfl (by simp; omega) (by show ls.size = _; rw [hl.1, hL]) (by show st = _; rw [List.reverse_reverse, ← heq, List.take_append_drop]) (lv_room (by omega)) d ⟨by omega, by omega⟩
      refine g_go hrun (fun v st₀ t2 L2 h0 hq hL2 => ?_)
      obtain ⟨rfl, g1, g2⟩ := g_behind (σ := σ) hS h0 hq hL2
      have := hk3 t2.heap (locs ++ L2) g1 g2
      rw [show gn σ - n0 + (gn σ' - gn σ) = gn σ' - n0 by omega, show gw σ - w0 + (gw σ' - gw σ) = gw σ' - w0 by omega]
      exact this
    · cases ho
  · cases ho

theorem k_callV {G : gG} {MT : Nat → gM} {l : Launch} {M : gM} {pc : Nat} {i : Nat} (j n : Nat) {y : MethodName} {bc : ByteArray} {nL : Nat} {rt : Option FieldType} (hj : MT j = (y, bc, nL, rt)) (hnL : nL ≤ 40) (hn0 : y.cls ≠ "java/lang/invoke/MethodHandle" ∧ y.cls ≠ "java/lang/invoke/VarHandle" ∧ (parseMethodDescriptor y.desc).map (fun d => d.parameters.length) = some n) (d : decode M.2.1 pc = .ok (.invokevirtual i, 3)) (wc : Cond.code y bc nL rt ∈ gWS) (cc : Nat) (hcc : cc < 13) (hcy : y.cls = (gC cc).1) (w : Cond.methodLink M.1.cls i y ∈ gWS) (ws : Cond.instanceMethod y ∈ gWS) (wz : Cond.selects y.cls y y ∈ gWS) (wi : Cond.initialized y.cls ∈ gWS) : gOk G MT l M pc (o_callV j n cc) := by
  intro p e R s m args below meth c Q n0 w0 H locs ls L st σ x hc hn hw hR hS hl hL ho hk
  obtain ⟨hx, hb, hml, hown, hts, hr, hlk, hWd, hnm, hfr, hlo⟩ := hc
  unfold o_callV at ho
  split at ho
  · next a t heq =>
    split at ho
    · next hh =>
      obtain ⟨h1, hKa, h2⟩ := hh
      cases ho
      obtain ⟨dd, r, σ', hM, ⟨hd1, hd2⟩, ⟨hu1, hu2⟩, ⟨hf1, hf2⟩, hk3⟩ := hk
      unfold gMet at hM
      rw [hj] at hM
      have hgood : GoodIn gWS (gws (y, bc, nL, _)) := gws_good wc
      have hroom : (gRm dd σ σ').frames + 1 ≤ R.frames ∧ 8 + (nL + 11) + (gRm dd σ σ').locals ≤ R.locals := ⟨hd1, by show 8 + (nL + 11) + 60 * dd ≤ _; omega⟩
      have hcat := g_cat t
      obtain ⟨-, cell, q1, q2, q3, q4⟩ := hR.2.1 a cc hcc hKa
      have hcls := (hWd.1.1 cc _ (gC_at hcc)).2
      have hrun := va_runV (C := y.cls) (c := c) (below := below) (e := e) (meth := meth) (H := H) (locs := locs) (cells := gn σ - n0) (slots := gw σ - w0) (b := a) (As := (st.take n).reverse) (rest := t) (g := F0 m pc ls st) (nL := M.2.2.1) ⟨hx, hb, hml, hown, hts⟩ hM ⟨callB_of n hts hgood rfl rfl rfl (hts _ wi) (hts _ w) hn0 hroom, hts _ ws, hts _ wz⟩ ⟨gPre_blind, ⟨cell, q1, by rw [q3]; rfl, by rw [hcy, q2]; exact hcls.1⟩, gPre_at hR hS hWd⟩ rfl (by simp; omega) (by show ls.size = _; rw [hl.1, hL]) (by show st = _; rw [List.reverse_reverse, ← heq, List.take_append_drop]) (lv_room (by omega)) d ⟨by omega, by omega⟩
      refine g_go hrun (fun v st₀ t2 L2 h0 hq hL2 => ?_)
      obtain ⟨rfl, g1, g2⟩ := g_behind (σ := σ) hS h0 hq hL2
      have := hk3 t2.heap (locs ++ L2) g1 g2
      rw [show gn σ - n0 + (gn σ' - gn σ) = gn σ' - n0 by omega, show gw σ - w0 + (gw σ' - gw σ) = gw σ' - w0 by omega]
      exact this
    · cases ho
  · cases ho

theorem k_callT {G : gG} {MT : Nat → gM} {l : Launch} {M : gM} {pc : Nat} {i : Nat} (j n : Nat) {y : MethodName} {bc : ByteArray} {nL : Nat} {rt : Option FieldType} (hj : MT j = (y, bc, nL, rt)) (hnL : nL ≤ 40) (hn0 : y.cls ≠ "java/lang/invoke/MethodHandle" ∧ y.cls ≠ "java/lang/invoke/VarHandle" ∧ (parseMethodDescriptor y.desc).map (fun d => d.parameters.length) = some n) (d : decode M.2.1 pc = .ok (.invokevirtual i, 3)) (wc : Cond.code y bc nL rt ∈ gWS) (hcy : y.cls = "java/lang/String") (w : Cond.methodLink M.1.cls i y ∈ gWS) (ws : Cond.instanceMethod y ∈ gWS) (wz : Cond.selects y.cls y y ∈ gWS) (wi : Cond.initialized y.cls ∈ gWS) : gOk G MT l M pc (o_callT j n) := by
  intro p e R s m args below meth c Q n0 w0 H locs ls L st σ x hc hn hw hR hS hl hL ho hk
  obtain ⟨hx, hb, hml, hown, hts, hr, hlk, hWd, hnm, hfr, hlo⟩ := hc
  unfold o_callT at ho
  split at ho
  · next a t heq =>
    split at ho
    · next hh =>
      obtain ⟨h1, hKa, h2⟩ := hh
      cases ho
      obtain ⟨dd, r, σ', hM, ⟨hd1, hd2⟩, ⟨hu1, hu2⟩, ⟨hf1, hf2⟩, hk3⟩ := hk
      unfold gMet at hM
      rw [hj] at hM
      have hgood : GoodIn gWS (gws (y, bc, nL, _)) := gws_good wc
      have hroom : (gRm dd σ σ').frames + 1 ≤ R.frames ∧ 8 + (nL + 11) + (gRm dd σ σ').locals ≤ R.locals := ⟨hd1, by show 8 + (nL + 11) + 60 * dd ≤ _; omega⟩
      have hcat := g_cat t
      obtain ⟨q, hq⟩ := Option.isSome_iff_exists.mp hKa
      obtain ⟨h3, h4⟩ := gFs_at hq
      have hrc := vk_recv (i := q) hWd.2.2.1 h3 hS
      rw [← hR.2.2.2.2.2.1 q (by omega), h4] at hrc
      have hrun := va_runV (C := y.cls) (c := c) (below := below) (e := e) (meth := meth) (H := H) (locs := locs) (cells := gn σ - n0) (slots := gw σ - w0) (b := a) (As := (st.take n).reverse) (rest := t) (g := F0 m pc ls st) (nL := M.2.2.1) ⟨hx, hb, hml, hown, hts⟩ hM ⟨callB_of n hts hgood rfl rfl rfl (hts _ wi) (hts _ w) hn0 hroom, hts _ ws, hts _ wz⟩ ⟨gPre_blind, by rw [hcy]; exact hrc, gPre_at hR hS hWd⟩ rfl (by simp; omega) (by show ls.size = _; rw [hl.1, hL]) (by show st = _; rw [List.reverse_reverse, ← heq, List.take_append_drop]) (lv_room (by omega)) d ⟨by omega, by omega⟩
      refine g_go hrun (fun v st₀ t2 L2 h0 hq hL2 => ?_)
      obtain ⟨rfl, g1, g2⟩ := g_behind (σ := σ) hS h0 hq hL2
      have := hk3 t2.heap (locs ++ L2) g1 g2
      rw [show gn σ - n0 + (gn σ' - gn σ) = gn σ' - n0 by omega, show gw σ - w0 + (gw σ' - gw σ) = gw σ' - w0 by omega]
      exact this
    · cases ho
  · cases ho

theorem k_ret {G : gG} {MT : Nat → gM} {l : Launch} {M : gM} {pc : Nat} (d : decode M.2.1 pc = .ok (.return_, 1)) (hrt : M.2.2.2 = none) : gOk G MT l M pc o_ret := by
  intro p e R s m args below meth c Q n0 w0 H locs ls L st σ x hc hn hw hR hS hl hL ho hk
  obtain ⟨hx, hb, hml, hown, hts, hr, hlk, hWd, hnm, hfr, hlo⟩ := hc
  unfold o_ret at ho
  split at ho
  · cases ho
    obtain ⟨Qc, rfl, hk2⟩ := hk
    exact W.vret hx hb (hr.trans hrt) (fun t ht _ => hk2 t locs (by rw [ht]; exact hR) (by rw [ht]; exact hS)) hS.2.2 d hlk
  · cases ho

theorem k_iret {G : gG} {MT : Nat → gM} {l : Launch} {M : gM} {pc : Nat} (d : decode M.2.1 pc = .ok (.ireturn, 1)) (hrt : M.2.2.2 = some .int) : gOk G MT l M pc o_iret := by
  intro p e R s m args below meth c Q n0 w0 H locs ls L st σ x hc hn hw hR hS hl hL ho hk
  obtain ⟨hx, hb, hml, hown, hts, hr, hlk, hWd, hnm, hfr, hlo⟩ := hc
  unfold o_iret at ho
  split at ho
  · cases ho
    obtain ⟨Qc, rfl, hk2⟩ := hk
    exact W.iret hx hb (hr.trans hrt) (fun t ht _ => hk2 t locs (by rw [ht]; exact hR) (by rw [ht]; exact hS)) hS.2.2 d hlk
  · cases ho

theorem k_zret {G : gG} {MT : Nat → gM} {l : Launch} {M : gM} {pc : Nat} (d : decode M.2.1 pc = .ok (.ireturn, 1)) (hrt : M.2.2.2 = some .boolean) : gOk G MT l M pc o_zret := by
  intro p e R s m args below meth c Q n0 w0 H locs ls L st σ x hc hn hw hR hS hl hL ho hk
  obtain ⟨hx, hb, hml, hown, hts, hr, hlk, hWd, hnm, hfr, hlo⟩ := hc
  unfold o_zret at ho
  split at ho
  · split at ho
    · next hv =>
      cases ho
      obtain ⟨Qc, rfl, hk2⟩ := hk
      exact W.zret hx hb (hr.trans hrt) (by rcases hv with rfl | rfl <;> rfl) (fun t ht _ => hk2 t locs (by rw [ht]; exact hR) (by rw [ht]; exact hS)) hS.2.2 d hlk
    · cases ho
  · cases ho

theorem k_tret {G : gG} {MT : Nat → gM} {l : Launch} {M : gM} {pc : Nat} (ty : FieldType) (d : decode M.2.1 pc = .ok (.ireturn, 1)) (hrt : M.2.2.2 = some ty) : gOk G MT l M pc (o_tret ty) := by
  intro p e R s m args below meth c Q n0 w0 H locs ls L st σ x hc hn hw hR hS hl hL ho hk
  obtain ⟨hx, hb, hml, hown, hts, hr, hlk, hWd, hnm, hfr, hlo⟩ := hc
  unfold o_tret at ho
  split at ho
  · split at ho
    · next hv =>
      cases ho
      obtain ⟨Qc, rfl, hk2⟩ := hk
      exact W.zret hx hb (hr.trans hrt) hv (fun t ht _ => hk2 t locs (by rw [ht]; exact hR) (by rw [ht]; exact hS)) hS.2.2 d hlk
    · cases ho
  · cases ho

theorem k_lret {G : gG} {MT : Nat → gM} {l : Launch} {M : gM} {pc : Nat} (d : decode M.2.1 pc = .ok (.lreturn, 1)) (hrt : M.2.2.2 = some .long) : gOk G MT l M pc o_lret := by
  intro p e R s m args below meth c Q n0 w0 H locs ls L st σ x hc hn hw hR hS hl hL ho hk
  obtain ⟨hx, hb, hml, hown, hts, hr, hlk, hWd, hnm, hfr, hlo⟩ := hc
  unfold o_lret at ho
  split at ho
  · cases ho
    obtain ⟨Qc, rfl, hk2⟩ := hk
    exact W.lret hx hb (hr.trans hrt) (fun t ht _ => hk2 t locs (by rw [ht]; exact hR) (by rw [ht]; exact hS)) hS.2.2 d hlk
  · cases ho

theorem k_aret {G : gG} {MT : Nat → gM} {l : Launch} {M : gM} {pc : Nat} {rt : FieldType} (d : decode M.2.1 pc = .ok (.areturn, 1)) (hrt : M.2.2.2 = some rt) (hrf : (∃ n, rt = .object n) ∨ ∃ t, rt = .array t) : gOk G MT l M pc o_aret := by
  intro p e R s m args below meth c Q n0 w0 H locs ls L st σ x hc hn hw hR hS hl hL ho hk
  obtain ⟨hx, hb, hml, hown, hts, hr, hlk, hWd, hnm, hfr, hlo⟩ := hc
  unfold o_aret at ho
  split at ho
  · cases ho
    obtain ⟨Qc, rfl, hk2⟩ := hk
    exact W.aret hx hb (hr.trans hrt) hrf (Or.inr ⟨_, rfl⟩) (fun t ht _ => hk2 t locs (by rw [ht]; exact hR) (by rw [ht]; exact hS)) hS.2.2 d hlk
  · cases ho
    obtain ⟨Qc, rfl, hk2⟩ := hk
    exact W.aret hx hb (hr.trans hrt) hrf (Or.inl rfl) (fun t ht _ => hk2 t locs (by rw [ht]; exact hR) (by rw [ht]; exact hS)) hS.2.2 d hlk
  · cases ho
