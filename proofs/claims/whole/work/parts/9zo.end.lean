/-! the end -/
theorem hAll (G : gG) : gObs (Inv LSx CVx MVx G) (gb G) (gB G) (gB G + 54) := ⟨ob_house, ob_of, ob_rank, ob_stand, ob_at, ob_terms, ob_door, ob_wall, ob_feed, ob_end, ob_row, ob_ruin, ob_law, ob_fault, ob_force, ob_touch, ob_visit CVx_l, ob_visits CVx_l, ob_comes CVx_l (fun _ _ => Iff.rfl), ob_way CVx_l (fun _ _ => Iff.rfl), ob_parts CVx_l, ob_holders CVx_l, ob_cut CVx_l, ob_wish, ob_clear, ob_doors CVx_l (fun _ _ => Iff.rfl), ob_news CVx_l, ob_log, ob_forget, ob_wrong CVx_l, ob_fits CVx_l (fun _ _ => Iff.rfl), ob_round CVx_l (fun _ _ => Iff.rfl) (fun _ _ => Iff.rfl), ob_stop CVx_l (fun _ _ => Iff.rfl) (fun _ _ => Iff.rfl), ob_meet CVx_l (fun _ _ => Iff.rfl), ob_site, ob_flood CVx_l, ob_flooded, ob_image, ob_back, ob_count, ob_status⟩
def gPureT : Prop := ∀ G : gG, gLn G ≤ 3072 → gb G < gB G → (∀ i j : Nat, i < 15 → j < 15 → gaK G i = gaK G j → i = j) → (∀ i j : Nat, i < 15 → j < 15 → gaV G i = gaV G j → i = j) → (∀ j, j < 15 → gaV G j < gB G ∧ gaV G j ≠ gb G) →
  wp 1000 pr_L (fun r σ => r = some (.int 1) ∧ gn σ ≤ gB G + 600000 ∧ gw σ ≤ 7302250) 0 [some (.ref (gb G)), none, none, none] [] (gS0 G)
set_option maxHeartbeats 4000000 in
set_option maxRecDepth 20000 in
theorem pureT : gPureT := by
  intro G hL hb hK hV hA
  have hI := Inv_0 (CV := CVx) G hb hK hV hA
  have e0 : gn (gS0 G) = gB G := rfl
  have k1 : gK (sNw (gS0 G) 12 0 15) (gB G) = 12 := va_up_self _ _ _
  have e1 : gn (sNw (gS0 G) 12 0 15) = gB G + 1 := rfl
  have e2 : gn (i_113 (sNw (gS0 G) 12 0 15) (gB G)) = gB G + 54 := by rw [n_113, e1]
  have k2 : gK (sNw (i_113 (sNw (gS0 G) 12 0 15) (gB G)) 13 0 50) (gB G + 54) = 13 := by rw [← e2]; exact va_up_self _ _ _
  have e3 : gn (sNw (i_113 (sNw (gS0 G) 12 0 15) (gB G)) 13 0 50) = gB G + 55 := by rw [n_n_N, e2]
  rw [e_L_0, e_L_3n, e_L_4, e0]
  refine ⟨Nat.le_of_ble_eq_true rfl, ?_⟩
  refine t_i_113 (d := 997) k1 (by rw [e1]; omega) ?_
  simp only [Option.toList_none, List.nil_append, e_L_7, gPv_r, true_and]
  rw [e_L_8, e_L_11n, e_L_12, e2]
  refine ⟨Nat.le_of_ble_eq_true rfl, ?_⟩
  refine (s_i_168 (d := 999) k2 (by rw [e3]; omega)).mpr ?_
  simp only [Option.toList_none, List.nil_append, e_L_15, e_L_16, e_L_17, gPv_r, true_and]
  refine law_loop (Inv := Inv LSx CVx MVx G) hL ?_ (fun σ k h => Inv_up h) ?_ (hAll G) (gLn G + 1) 0 0 (gS1 G) (by omega) rfl (by omega) hI
  · intro σ k h
    have hv := Inv_Sh h
    obtain ⟨own, i1, _⟩ := h
    exact ⟨i1.2.2.1, i1.2.2.2.1, sk_0 hv⟩
  · intro σ k h hk
    obtain ⟨own, i1, i2, _⟩ := h
    obtain ⟨_, l, s, _, _, _, s11, _, w⟩ := i2
    have n := i1.2.2.2.2.2.2.2
    refine ⟨rfl, by omega, ?_⟩
    have : s * 2 ^ s ≤ 11 * 2 ^ 11 := Nat.mul_le_mul s11 (Nat.pow_le_pow_right (by omega) s11)
    omega
theorem g_apart {G : gG} {s : State} (h : gWd G s) : ∀ j, j < 15 → gaV G j < gB G ∧ gaV G j ≠ gb G := by
  intro j hj
  obtain ⟨c1, a1, a2, a3, a4, a5, a6, a7⟩ := (h.2.2.1.1 j hj).2.2.2
  obtain ⟨c2, b1, b2, b3⟩ := h.2.1
  refine ⟨Nat.lt_of_not_le a7, fun e => ?_⟩
  rw [e] at a1
  cases a1.symm.trans b1
  obtain ⟨_, k1, hk1, m1, hd1⟩ := a2
  obtain ⟨_, k2, hk2, m2, hd2⟩ := b2
  cases hk1.symm.trans hk2
  cases hd1.symm.trans hd2
theorem whole_startT {p : Program} {e : Env} {s : State} {m : MethodId} {below : List Frame} {meth : Method} {c : Code} (hp : gPureT) (l : Launch) {b L : Nat} {xs : Nat → Int32} (hL : L ≤ 3072) (C0 : lw_At p s m meth c b L xs) : W p l e room_1 s m #[Value.ref b] below meth c s.heap [] 0 0 (lw_Z below #[Value.ref b] s) (entryFrame m ([Value.ref b] : List Value).toArray 4) := by
  obtain ⟨G, hWd, eB, eb, eL, ex⟩ := g_world C0
  obtain ⟨hx, hb, hr, hml, hown, hts, hX, hbl, hlocks, hgv, hnm⟩ := C0
  have hbB : gb G < gB G := by rw [eb, eB]; exact hbl
  obtain ⟨F, n, r, σ1, hrun, h1, h2, h3⟩ := hp G (by rw [eL]; exact hL) hbB hWd.2.2.1.2 (g_inj hWd) (g_apart hWd)
  subst h1
  have hcx : gCx G mt_L p room_1 s m #[Value.ref b] meth c := ⟨hx, hb, hml, hown, fun w hw => hts w (gWS_lw w hw), hr, hlocks, hWd, hnm, by decide, by decide⟩
  rw [lg_entry_eq]
  have hle := lv_entry ([.ref b]) (n := 4) (Nat.le_of_ble_eq_true rfl)
  have hls := gLoc_has hle
  rw [eb] at hrun
  have hK := gRun_W (G := G) (MT := gMT) (l := l) (M := mt_L) (d := 1000) (X := gEx gPr gml F 1000) (P := gFind pr_L) (fun j As σ r σ' h => ⟨gEx_met (gPg_ok l) G 1000 j As σ r σ' h, gEx_up (gPg_ok l) 1000 j As σ r σ' h⟩) (fun pc o h => gAll_find (ok_L l) h) (e := e) (below := below)
    (Q := MQ below (fun _ _ oc _ => oc = .returned (some (.int 1))) #[Value.ref b] s (gn σ1 - gB G) (gw σ1 - 0) (gA G)) (n0 := gB G) (w0 := 0) (r := some (.int 1)) (σ1 := σ1) hcx ⟨by decide, by decide⟩ ⟨h2, by rw [Nat.zero_add]; exact h3⟩ ⟨_, rfl, fun _ _ _ _ => rfl⟩ n 0 _ [] (gS0 G) s.heap [] _ hrun (Nat.le_refl _) (Nat.le_refl _) (gS0_rep eB hbB) va_S.rf hls rfl
  have e1 : gn (gS0 G) - gB G = 0 := Nat.sub_self _
  have e2 : gw (gS0 G) - 0 = 0 := rfl
  rw [e1, e2] at hK
  intro T hT X
  obtain ⟨t, st, oc, q1, q2, q3, Ls, ⟨f1, f2, f3⟩, hfree⟩ := hK T hT X
  refine ⟨t, st, oc, q1, q2, q3, f1, f2, ?_⟩
  obtain ⟨g1, g2, g3, g4, g5, g6⟩ := f3
  refine ⟨g1, g2, Nat.le_trans g3 (by omega), g4, Nat.le_trans g5 (by omega), fun a c ha => ?_⟩
  obtain ⟨c2, k1, k2, k3, k4⟩ := g6 a c ha
  refine ⟨c2, k1, k2, k3, fun i _ => k4 i (fun hm => ?_)⟩
  have h5 : gB G ≤ a := hfree _ hm
  have h6 : a < s.heap.size := (Array.getElem?_eq_some_iff.mp ha).1
  rw [eB] at h5
  exact absurd h6 (Nat.not_lt.mpr h5)

set_option maxHeartbeats 4000000 in
theorem lw_walkT (hp : gPureT) (l : Launch) (b : Addr) (xs : List Int32) : MetFree l x (headSpec (Jvm.Cond.code x code maxLocals ret :: tables_1) room_1) (lw_P b xs) (fun _ _ _ _ _ => True) lw_Q := by
  refine MetFree.of_bodyS (code := code) (maxLocals := maxLocals) (ret := ret) (by decide) ?_ ?_
  · intro args s m h hn
    obtain ⟨meth, c, h1, h2, h3, h4, h5, h6, -, -⟩ := Cond.code_spec hn (atoms_spec (ws := Jvm.Cond.code x code maxLocals ret :: tables_1) h _ List.mem_cons_self)
    exact ⟨meth, c, h1, h2, h3, h4, h5, h6⟩
  · intro p e s m args below meth c s₁ B hml0 hP _
    obtain ⟨rfl, hx, hbd, hgv⟩ := hP
    obtain ⟨scr, harrAt, hlist, hof, hsmall⟩ := hx
    obtain ⟨hcb, hkn, -, -⟩ := State.arrayAt?_spec harrAt
    have hown : s.vm.findClass R_law = some m.cls := findClass_of_methodNamed B.named
    have hts0 : ∀ c ∈ (Jvm.Cond.code x code maxLocals ret :: tables_1), c.before #[Value.ref b] s = true := atoms_spec (ws := Jvm.Cond.code x code maxLocals ret :: tables_1) B.pre
    have hts : ∀ w ∈ lw_tbl, w.before #[Value.ref b] s = true := k2_hts_sels lw_privs (fun w hw => hts0 w (List.mem_cons_of_mem _ hw)) lw_privs_ok
    have hml : c.maxLocals = 4 := B.maxLocals_eq (hts0 _ List.mem_cons_self)
    have X₀ : Stand p l e room_1 s m #[Value.ref b] below meth c s₁ [] 0 0 := Stand.of_body B
    have hh0 : s₁.heap = s.heap := by rw [B.state]; rfl
    have hsz : scr.slots.size = xs.length := by rw [← Array.length_toList, hlist, List.length_map]
    have hval : ∀ j : Nat, j < xs.length → scr.slots[j]? = some (.int (xs.getD j 0)) := fun j hj => by
      rw [← Array.getElem?_toList, hlist]
      simp [hj]
    have hbl : b < s.heap.size := (Array.getElem?_eq_some_iff.mp hcb).1
    have hX : va_X b xs.length (fun j => xs.getD j 0) s s.heap := ⟨scr, hcb, hof, hkn, hsz, hval⟩
    have K : W p l e room_1 s m #[Value.ref b] below meth c s₁.heap [] 0 0 (lw_Z below #[Value.ref b] s) (entryFrame m ([Value.ref b] : List Value).toArray 4) := by
      rw [hh0]
      exact whole_startT (hp := hp) l hbd ⟨B.exec, B.bytes, B.returns, hml, hown, hts, hX, hbl, B.notSynchronized, hgv, (name_of_methodNamed B.named B.method).1⟩
    obtain ⟨t, a1, o, b1, b2, b3⟩ := K s₁ rfl X₀
    exact ⟨t, o, a1, b1, b2, b3⟩
theorem lw_comesT (hp : gPureT) (l : Launch) : Comes l x (Jvm.Cond.code x code maxLocals ret :: tables_1) room_1 (fun tb e args s => Calls_1 tb e args s ∧ rest_1 tb e args s ∧ Pre_1 tb e args s)
    (fun _ _ args s o t => lw_Q args s o t) := by
  intro p e ha hc hk s m args below hf hfit hheap happ hpre
  obtain ⟨b, xs, hP⟩ := lw_pre_spec hpre.2.2 hpre.2.1
  obtain ⟨k, o, h1, h2, h3, hQ⟩ := lw_walkT hp l b xs p e ha hc hk s m args below hf ((Spec.applies_iff_loose hf).mp happ).1 hP trivial
  exact ⟨k, o, h1, h2, h3, hQ⟩
theorem lw_limbT (hp : gPureT) (L : Cond) (hL : ∀ (args : Array Value) (s t : State), L.after args s (.returned (some (.int 1))) t = true) :
    ArmFor flags0 classFile x code maxLocals ret World_1 tables_1 room_1 Calls_1 rest_1 Pre_1
      (fun tb e a s o t => postC L tb e a s o t ∧ Framed s o t (fieldLocs frame_1_writes a s ++ arrayLocs frame_1_arrays a s ++ staticLocs frame_1_statics s) 600000 7302250) := by
  intro l _ _ _ p e ha hc hk s m args below hf hfit hheap happ hpre
  obtain ⟨k, o, h1, h2, h3, rfl, hF⟩ := lw_comesT hp l p e ha hc hk s m args below hf hfit hheap happ hpre
  exact ⟨k, _, h1, h2, h3, hL args s _, lw_frame hF⟩
theorem whole_ofT (hp : gPureT) : Claimed_1_1 ∧ Claimed_1_2 := ⟨lw_limbT hp limb_1_1 (fun args s t => by simp [limb_1_1, Cond.after, Cond.holds, Cond.value]), lw_limbT hp limb_1_2 (fun args s t => Cond.after_iff.mpr (by
  first | (rw [show limb_1_2 = Cond.eq .result (.int 1) from rfl, Cond.eq_ints (x := 1) (y := 1) rfl rfl]; simp; done) | (simp [limb_1_2, Cond.value, Term.eval]; done)))⟩
theorem i_vc : Claimed_1_1 ∧ Claimed_1_2 := whole_ofT pureT
