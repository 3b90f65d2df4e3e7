theorem k_iconst {G : gG} {MT : Nat → gM} {l : Launch} {M : gM} {pc : Nat} {n : Int} {v : Int32} (d : decode M.2.1 pc = .ok (.iconst n, 1)) (hv : Int32.ofInt n = v) : gOk G MT l M pc (o_push (.int v) 1) := by
  intro p e R s m args below meth c Q n0 w0 H locs ls L st σ x hc hn hw hR hS hl hL ho hk
  obtain ⟨hx, hb, hml, hown, hts, hr, hlk, hWd, hnm, hfr, hlo⟩ := hc
  cases ho
  obtain ⟨hk1, hk2⟩ := hk
  exact lv_iconst hx hb d hv (hk2 H locs ls hR hS hl)

theorem k_bipush {G : gG} {MT : Nat → gM} {l : Launch} {M : gM} {pc : Nat} {n : Int} {v : Int32} (d : decode M.2.1 pc = .ok (.bipush n, 2)) (hv : (Int8.ofInt n).toInt32 = v) : gOk G MT l M pc (o_push (.int v) 2) := by
  intro p e R s m args below meth c Q n0 w0 H locs ls L st σ x hc hn hw hR hS hl hL ho hk
  obtain ⟨hx, hb, hml, hown, hts, hr, hlk, hWd, hnm, hfr, hlo⟩ := hc
  cases ho
  obtain ⟨hk1, hk2⟩ := hk
  exact lv_bipush hx hb d hv (hk2 H locs ls hR hS hl)

theorem k_sipush {G : gG} {MT : Nat → gM} {l : Launch} {M : gM} {pc : Nat} {n : Int} {v : Int32} (d : decode M.2.1 pc = .ok (.sipush n, 3)) (hv : (Int16.ofInt n).toInt32 = v) : gOk G MT l M pc (o_push (.int v) 3) := by
  intro p e R s m args below meth c Q n0 w0 H locs ls L st σ x hc hn hw hR hS hl hL ho hk
  obtain ⟨hx, hb, hml, hown, hts, hr, hlk, hWd, hnm, hfr, hlo⟩ := hc
  cases ho
  obtain ⟨hk1, hk2⟩ := hk
  exact lv_sipush hx hb d hv (hk2 H locs ls hR hS hl)

theorem k_lconst {G : gG} {MT : Nat → gM} {l : Launch} {M : gM} {pc : Nat} {n : Fin 2} {v : Int64} (d : decode M.2.1 pc = .ok (.lconst n, 1)) (hv : Int64.ofNat (n : Nat) = v) : gOk G MT l M pc (o_push (.long v) 1) := by
  intro p e R s m args below meth c Q n0 w0 H locs ls L st σ x hc hn hw hR hS hl hL ho hk
  obtain ⟨hx, hb, hml, hown, hts, hr, hlk, hWd, hnm, hfr, hlo⟩ := hc
  cases ho
  obtain ⟨hk1, hk2⟩ := hk
  exact lv_lconst hx hb d hv (hk2 H locs ls hR hS hl)

theorem k_ldc {G : gG} {MT : Nat → gM} {l : Launch} {M : gM} {pc : Nat} {i : Nat} {v : Int32} (d : decode M.2.1 pc = .ok (.ldc i, 2)) (w : Cond.constant M.1.cls i v ∈ gWS) : gOk G MT l M pc (o_push (.int v) 2) := by
  intro p e R s m args below meth c Q n0 w0 H locs ls L st σ x hc hn hw hR hS hl hL ho hk
  obtain ⟨hx, hb, hml, hown, hts, hr, hlk, hWd, hnm, hfr, hlo⟩ := hc
  cases ho
  obtain ⟨hk1, hk2⟩ := hk
  exact lv_ldc hx hb hown (hts _ w) d (hk2 H locs ls hR hS hl)

theorem k_ldcw {G : gG} {MT : Nat → gM} {l : Launch} {M : gM} {pc : Nat} {i : Nat} {v : Int32} (d : decode M.2.1 pc = .ok (.ldc_w i, 3)) (w : Cond.constant M.1.cls i v ∈ gWS) : gOk G MT l M pc (o_push (.int v) 3) := by
  intro p e R s m args below meth c Q n0 w0 H locs ls L st σ x hc hn hw hR hS hl hL ho hk
  obtain ⟨hx, hb, hml, hown, hts, hr, hlk, hWd, hnm, hfr, hlo⟩ := hc
  cases ho
  obtain ⟨hk1, hk2⟩ := hk
  exact lv_ldcw hx hb hown (hts _ w) d (hk2 H locs ls hR hS hl)

theorem k_ldc2 {G : gG} {MT : Nat → gM} {l : Launch} {M : gM} {pc : Nat} {i : Nat} {v : Int64} (d : decode M.2.1 pc = .ok (.ldc2_w i, 3)) (w : Cond.constantLong M.1.cls i v ∈ gWS) : gOk G MT l M pc (o_push (.long v) 3) := by
  intro p e R s m args below meth c Q n0 w0 H locs ls L st σ x hc hn hw hR hS hl hL ho hk
  obtain ⟨hx, hb, hml, hown, hts, hr, hlk, hWd, hnm, hfr, hlo⟩ := hc
  cases ho
  obtain ⟨hk1, hk2⟩ := hk
  exact lv_ldc2 hx hb hown (hts _ w) d (hk2 H locs ls hR hS hl)

theorem k_null {G : gG} {MT : Nat → gM} {l : Launch} {M : gM} {pc : Nat} (d : decode M.2.1 pc = .ok (.aconst_null, 1)) : gOk G MT l M pc (o_push .null 1) := by
  intro p e R s m args below meth c Q n0 w0 H locs ls L st σ x hc hn hw hR hS hl hL ho hk
  obtain ⟨hx, hb, hml, hown, hts, hr, hlk, hWd, hnm, hfr, hlo⟩ := hc
  cases ho
  obtain ⟨hk1, hk2⟩ := hk
  exact lv_null hx hb d (hk2 H locs ls hR hS hl)

theorem k_str {G : gG} {MT : Nat → gM} {l : Launch} {M : gM} {pc : Nat} (j : Nat) (hj : j < 15) (hM : M.1.cls = RX6) (d : decode M.2.1 pc = .ok (.ldc (gSx.getD j 0), 2)) : gOk G MT l M pc (o_str j 2) := by
  intro p e R s m args below meth c Q n0 w0 H locs ls L st σ x hc hn hw hR hS hl hL ho hk
  obtain ⟨hx, hb, hml, hown, hts, hr, hlk, hWd, hnm, hfr, hlo⟩ := hc
  cases ho
  obtain ⟨hk1, hk2⟩ := hk
  rw [hM] at hown
  have e : gT σ j = gaK G j := hR.2.2.2.2.2.1 j (by omega)
  rw [e] at hk2
  exact va_ldcS hx hb hown (hWd.2.2.2.1 j hj) d (hk2 H locs ls hR hS hl)

theorem k_gets1 {G : gG} {MT : Nat → gM} {l : Launch} {M : gM} {pc : Nat} {i : Nat} (d : decode M.2.1 pc = .ok (.getstatic i, 3)) (w : Cond.fieldLink M.1.cls i RJ0 "COMPACT_STRINGS" "Z" ∈ gWS) : gOk G MT l M pc (o_push (.int 1) 3) := by
  intro p e R s m args below meth c Q n0 w0 H locs ls L st σ x hc hn hw hR hS hl hL ho hk
  obtain ⟨hx, hb, hml, hown, hts, hr, hlk, hWd, hnm, hfr, hlo⟩ := hc
  cases ho
  obtain ⟨hk1, hk2⟩ := hk
  exact va_gets hx hb hWd.2.2.2.2.2.2.2.1 hS hown (hts _ w) (fun _ h => h) d (hk2 H locs ls hR hS hl)

theorem k_iload {G : gG} {MT : Nat → gM} {l : Launch} {M : gM} {pc : Nat} {k : Nat} (d : decode M.2.1 pc = .ok (.iload k, 2)) : gOk G MT l M pc (o_iload k 2) := by
  intro p e R s m args below meth c Q n0 w0 H locs ls L st σ x hc hn hw hR hS hl hL ho hk
  obtain ⟨hx, hb, hml, hown, hts, hr, hlk, hWd, hnm, hfr, hlo⟩ := hc
  unfold o_iload at ho
  split at ho
  · next v heq =>
    cases ho
    obtain ⟨hk1, hk2⟩ := hk
    exact lv_iload hx hb d (hl.2.2 k _ heq) (hk2 H locs ls hR hS hl)
  · cases ho

theorem k_iload_n {G : gG} {MT : Nat → gM} {l : Launch} {M : gM} {pc : Nat} {q : Fin 4} {k : Nat} (d : decode M.2.1 pc = .ok (.iload_n q, 1)) (hq : (q : Nat) = k) : gOk G MT l M pc (o_iload k 1) := by
  intro p e R s m args below meth c Q n0 w0 H locs ls L st σ x hc hn hw hR hS hl hL ho hk
  obtain ⟨hx, hb, hml, hown, hts, hr, hlk, hWd, hnm, hfr, hlo⟩ := hc
  unfold o_iload at ho
  split at ho
  · next v heq =>
    cases ho
    obtain ⟨hk1, hk2⟩ := hk
    exact lv_iload_n hx hb d hq (hl.2.2 k _ heq) (hk2 H locs ls hR hS hl)
  · cases ho

theorem k_lload {G : gG} {MT : Nat → gM} {l : Launch} {M : gM} {pc : Nat} {k : Nat} (d : decode M.2.1 pc = .ok (.lload k, 2)) : gOk G MT l M pc (o_lload k 2) := by
  intro p e R s m args below meth c Q n0 w0 H locs ls L st σ x hc hn hw hR hS hl hL ho hk
  obtain ⟨hx, hb, hml, hown, hts, hr, hlk, hWd, hnm, hfr, hlo⟩ := hc
  unfold o_lload at ho
  split at ho
  · next v heq =>
    cases ho
    obtain ⟨hk1, hk2⟩ := hk
    exact lv_lload hx hb d (hl.2.2 k _ heq) (hk2 H locs ls hR hS hl)
  · cases ho

theorem k_lload_n {G : gG} {MT : Nat → gM} {l : Launch} {M : gM} {pc : Nat} {q : Fin 4} {k : Nat} (d : decode M.2.1 pc = .ok (.lload_n q, 1)) (hq : (q : Nat) = k) : gOk G MT l M pc (o_lload k 1) := by
  intro p e R s m args below meth c Q n0 w0 H locs ls L st σ x hc hn hw hR hS hl hL ho hk
  obtain ⟨hx, hb, hml, hown, hts, hr, hlk, hWd, hnm, hfr, hlo⟩ := hc
  unfold o_lload at ho
  split at ho
  · next v heq =>
    cases ho
    obtain ⟨hk1, hk2⟩ := hk
    exact lv_lload_n hx hb d hq (hl.2.2 k _ heq) (hk2 H locs ls hR hS hl)
  · cases ho

theorem k_aload {G : gG} {MT : Nat → gM} {l : Launch} {M : gM} {pc : Nat} {k : Nat} (d : decode M.2.1 pc = .ok (.aload k, 2)) : gOk G MT l M pc (o_aload k 2) := by
  intro p e R s m args below meth c Q n0 w0 H locs ls L st σ x hc hn hw hR hS hl hL ho hk
  obtain ⟨hx, hb, hml, hown, hts, hr, hlk, hWd, hnm, hfr, hlo⟩ := hc
  unfold o_aload at ho
  split at ho
  · next v heq =>
    cases ho
    obtain ⟨hk1, hk2⟩ := hk
    exact lv_aload hx hb d (hl.2.2 k _ heq) (hk2 H locs ls hR hS hl)
  · next heq =>
    cases ho
    obtain ⟨hk1, hk2⟩ := hk
    exact lv_aloadN hx hb d (hl.2.2 k _ heq) (hk2 H locs ls hR hS hl)
  · cases ho

theorem k_aload_n {G : gG} {MT : Nat → gM} {l : Launch} {M : gM} {pc : Nat} {q : Fin 4} {k : Nat} (d : decode M.2.1 pc = .ok (.aload_n q, 1)) (hq : (q : Nat) = k) : gOk G MT l M pc (o_aload k 1) := by
  intro p e R s m args below meth c Q n0 w0 H locs ls L st σ x hc hn hw hR hS hl hL ho hk
  obtain ⟨hx, hb, hml, hown, hts, hr, hlk, hWd, hnm, hfr, hlo⟩ := hc
  unfold o_aload at ho
  split at ho
  · next v heq =>
    cases ho
    obtain ⟨hk1, hk2⟩ := hk
    exact lv_aload_n hx hb d hq (hl.2.2 k _ heq) (hk2 H locs ls hR hS hl)
  · next heq =>
    cases ho
    obtain ⟨hk1, hk2⟩ := hk
    exact lv_aload_nN hx hb d hq (hl.2.2 k _ heq) (hk2 H locs ls hR hS hl)
  · cases ho

theorem k_istore {G : gG} {MT : Nat → gM} {l : Launch} {M : gM} {pc : Nat} {k : Nat} (d : decode M.2.1 pc = .ok (.istore k, 2)) : gOk G MT l M pc (o_istore k 2) := by
  intro p e R s m args below meth c Q n0 w0 H locs ls L st σ x hc hn hw hR hS hl hL ho hk
  obtain ⟨hx, hb, hml, hown, hts, hr, hlk, hWd, hnm, hfr, hlo⟩ := hc
  unfold o_istore at ho
  split at ho
  · split at ho
    · next hc =>
      cases ho
      obtain ⟨hk1, hk2⟩ := hk
      exact lv_istore hx hb d (gLr_has hl) hc.2 rfl (fun ls1 hl1 => hk2 H locs ls1 hR hS (gLr_set1 hl1 hc.1))
    · cases ho
  · cases ho

theorem k_istore_n {G : gG} {MT : Nat → gM} {l : Launch} {M : gM} {pc : Nat} {q : Fin 4} {k : Nat} (d : decode M.2.1 pc = .ok (.istore_n q, 1)) (hq : (q : Nat) = k) : gOk G MT l M pc (o_istore k 1) := by
  intro p e R s m args below meth c Q n0 w0 H locs ls L st σ x hc hn hw hR hS hl hL ho hk
  obtain ⟨hx, hb, hml, hown, hts, hr, hlk, hWd, hnm, hfr, hlo⟩ := hc
  unfold o_istore at ho
  split at ho
  · split at ho
    · next hc =>
      cases ho
      obtain ⟨hk1, hk2⟩ := hk
      exact lv_istore_n hx hb d hq (gLr_has hl) hc.2 rfl (fun ls1 hl1 => hk2 H locs ls1 hR hS (gLr_set1 hl1 hc.1))
    · cases ho
  · cases ho

theorem k_lstore {G : gG} {MT : Nat → gM} {l : Launch} {M : gM} {pc : Nat} {k : Nat} (d : decode M.2.1 pc = .ok (.lstore k, 2)) : gOk G MT l M pc (o_lstore k 2) := by
  intro p e R s m args below meth c Q n0 w0 H locs ls L st σ x hc hn hw hR hS hl hL ho hk
  obtain ⟨hx, hb, hml, hown, hts, hr, hlk, hWd, hnm, hfr, hlo⟩ := hc
  unfold o_lstore at ho
  split at ho
  · split at ho
    · next hc =>
      cases ho
      obtain ⟨hk1, hk2⟩ := hk
      exact lv_lstore hx hb d (gLr_has hl) hc.2 rfl (fun ls1 hl1 => hk2 H locs ls1 hR hS (gLr_set2 hl1 hc.1))
    · cases ho
  · cases ho

theorem k_lstore_n {G : gG} {MT : Nat → gM} {l : Launch} {M : gM} {pc : Nat} {q : Fin 4} {k : Nat} (d : decode M.2.1 pc = .ok (.lstore_n q, 1)) (hq : (q : Nat) = k) : gOk G MT l M pc (o_lstore k 1) := by
  intro p e R s m args below meth c Q n0 w0 H locs ls L st σ x hc hn hw hR hS hl hL ho hk
  obtain ⟨hx, hb, hml, hown, hts, hr, hlk, hWd, hnm, hfr, hlo⟩ := hc
  unfold o_lstore at ho
  split at ho
  · split at ho
    · next hc =>
      cases ho
      obtain ⟨hk1, hk2⟩ := hk
      exact lv_lstore_n hx hb d hq (gLr_has hl) hc.2 rfl (fun ls1 hl1 => hk2 H locs ls1 hR hS (gLr_set2 hl1 hc.1))
    · cases ho
  · cases ho

theorem k_astore {G : gG} {MT : Nat → gM} {l : Launch} {M : gM} {pc : Nat} {k : Nat} (d : decode M.2.1 pc = .ok (.astore k, 2)) : gOk G MT l M pc (o_astore k 2) := by
  intro p e R s m args below meth c Q n0 w0 H locs ls L st σ x hc hn hw hR hS hl hL ho hk
  obtain ⟨hx, hb, hml, hown, hts, hr, hlk, hWd, hnm, hfr, hlo⟩ := hc
  unfold o_astore at ho
  split at ho
  · split at ho
    · next hc =>
      cases ho
      obtain ⟨hk1, hk2⟩ := hk
      exact lv_astore hx hb d (gLr_has hl) hc.2 rfl (fun ls1 hl1 => hk2 H locs ls1 hR hS (gLr_set1 hl1 hc.1))
    · cases ho
  · split at ho
    · next hc =>
      cases ho
      obtain ⟨hk1, hk2⟩ := hk
      exact lv_astoreN hx hb d (gLr_has hl) hc.2 rfl (fun ls1 hl1 => hk2 H locs ls1 hR hS (gLr_set1 hl1 hc.1))
    · cases ho
  · cases ho

theorem k_astore_n {G : gG} {MT : Nat → gM} {l : Launch} {M : gM} {pc : Nat} {q : Fin 4} {k : Nat} (d : decode M.2.1 pc = .ok (.astore_n q, 1)) (hq : (q : Nat) = k) : gOk G MT l M pc (o_astore k 1) := by
  intro p e R s m args below meth c Q n0 w0 H locs ls L st σ x hc hn hw hR hS hl hL ho hk
  obtain ⟨hx, hb, hml, hown, hts, hr, hlk, hWd, hnm, hfr, hlo⟩ := hc
  unfold o_astore at ho
  split at ho
  · split at ho
    · next hc =>
      cases ho
      obtain ⟨hk1, hk2⟩ := hk
      exact lv_astore_n hx hb d hq (gLr_has hl) hc.2 rfl (fun ls1 hl1 => hk2 H locs ls1 hR hS (gLr_set1 hl1 hc.1))
    · cases ho
  · split at ho
    · next hc =>
      cases ho
      obtain ⟨hk1, hk2⟩ := hk
      exact lv_astore_nN hx hb d hq (gLr_has hl) hc.2 rfl (fun ls1 hl1 => hk2 H locs ls1 hR hS (gLr_set1 hl1 hc.1))
    · cases ho
  · cases ho

theorem k_iinc {G : gG} {MT : Nat → gM} {l : Launch} {M : gM} {pc : Nat} {k : Nat} {n : Int} {v : Int32} (d : decode M.2.1 pc = .ok (.iinc k n, 3)) (hv : Int32.ofInt n = v) : gOk G MT l M pc (o_iinc k v) := by
  intro p e R s m args below meth c Q n0 w0 H locs ls L st σ x hc hn hw hR hS hl hL ho hk
  obtain ⟨hx, hb, hml, hown, hts, hr, hlk, hWd, hnm, hfr, hlo⟩ := hc
  unfold o_iinc at ho
  split at ho
  · next y heq =>
    split at ho
    · next hc =>
      cases ho
      obtain ⟨hk1, hk2⟩ := hk
      obtain ⟨j, hj⟩ := List.getElem?_of_mem (gPairs_mem.mpr heq)
      exact lv_iinc hx hb d (gLr_has hl) hj (by rw [hv]) (List.getElem?_eq_some_iff.mp heq).1 rfl (fun ls1 hl1 => hk2 H locs ls1 hR hS (gLr_set1 hl1 hc))
    · cases ho
  · cases ho

theorem k_iadd {G : gG} {MT : Nat → gM} {l : Launch} {M : gM} {pc : Nat} (d : decode M.2.1 pc = .ok (.iadd, 1)) : gOk G MT l M pc (o_bI (fun x y => x + y)) := by
  intro p e R s m args below meth c Q n0 w0 H locs ls L st σ x hc hn hw hR hS hl hL ho hk
  obtain ⟨hx, hb, hml, hown, hts, hr, hlk, hWd, hnm, hfr, hlo⟩ := hc
  unfold o_bI at ho
  split at ho
  · cases ho
    obtain ⟨hk1, hk2⟩ := hk
    exact lv_iadd hx hb d (hk2 H locs ls hR hS hl)
  · cases ho

theorem k_isub {G : gG} {MT : Nat → gM} {l : Launch} {M : gM} {pc : Nat} (d : decode M.2.1 pc = .ok (.isub, 1)) : gOk G MT l M pc (o_bI (fun x y => x - y)) := by
  intro p e R s m args below meth c Q n0 w0 H locs ls L st σ x hc hn hw hR hS hl hL ho hk
  obtain ⟨hx, hb, hml, hown, hts, hr, hlk, hWd, hnm, hfr, hlo⟩ := hc
  unfold o_bI at ho
  split at ho
  · cases ho
    obtain ⟨hk1, hk2⟩ := hk
    exact lv_isub hx hb d (hk2 H locs ls hR hS hl)
  · cases ho

theorem k_imul {G : gG} {MT : Nat → gM} {l : Launch} {M : gM} {pc : Nat} (d : decode M.2.1 pc = .ok (.imul, 1)) : gOk G MT l M pc (o_bI (fun x y => x * y)) := by
  intro p e R s m args below meth c Q n0 w0 H locs ls L st σ x hc hn hw hR hS hl hL ho hk
  obtain ⟨hx, hb, hml, hown, hts, hr, hlk, hWd, hnm, hfr, hlo⟩ := hc
  unfold o_bI at ho
  split at ho
  · cases ho
    obtain ⟨hk1, hk2⟩ := hk
    exact lv_imul hx hb d (hk2 H locs ls hR hS hl)
  · cases ho

theorem k_iand {G : gG} {MT : Nat → gM} {l : Launch} {M : gM} {pc : Nat} (d : decode M.2.1 pc = .ok (.iand, 1)) : gOk G MT l M pc (o_bI (fun x y => x &&& y)) := by
  intro p e R s m args below meth c Q n0 w0 H locs ls L st σ x hc hn hw hR hS hl hL ho hk
  obtain ⟨hx, hb, hml, hown, hts, hr, hlk, hWd, hnm, hfr, hlo⟩ := hc
  unfold o_bI at ho
  split at ho
  · cases ho
    obtain ⟨hk1, hk2⟩ := hk
    exact lv_iand hx hb d (hk2 H locs ls hR hS hl)
  · cases ho

theorem k_ior {G : gG} {MT : Nat → gM} {l : Launch} {M : gM} {pc : Nat} (d : decode M.2.1 pc = .ok (.ior, 1)) : gOk G MT l M pc (o_bI (fun x y => x ||| y)) := by
  intro p e R s m args below meth c Q n0 w0 H locs ls L st σ x hc hn hw hR hS hl hL ho hk
  obtain ⟨hx, hb, hml, hown, hts, hr, hlk, hWd, hnm, hfr, hlo⟩ := hc
  unfold o_bI at ho
  split at ho
  · cases ho
    obtain ⟨hk1, hk2⟩ := hk
    exact lv_ior hx hb d (hk2 H locs ls hR hS hl)
  · cases ho

theorem k_ixor {G : gG} {MT : Nat → gM} {l : Launch} {M : gM} {pc : Nat} (d : decode M.2.1 pc = .ok (.ixor, 1)) : gOk G MT l M pc (o_bI (fun x y => x ^^^ y)) := by
  intro p e R s m args below meth c Q n0 w0 H locs ls L st σ x hc hn hw hR hS hl hL ho hk
  obtain ⟨hx, hb, hml, hown, hts, hr, hlk, hWd, hnm, hfr, hlo⟩ := hc
  unfold o_bI at ho
  split at ho
  · cases ho
    obtain ⟨hk1, hk2⟩ := hk
    exact lv_ixor hx hb d (hk2 H locs ls hR hS hl)
  · cases ho

theorem k_ishl {G : gG} {MT : Nat → gM} {l : Launch} {M : gM} {pc : Nat} (d : decode M.2.1 pc = .ok (.ishl, 1)) : gOk G MT l M pc (o_bI (fun x y => x <<< (y &&& 31))) := by
  intro p e R s m args below meth c Q n0 w0 H locs ls L st σ x hc hn hw hR hS hl hL ho hk
  obtain ⟨hx, hb, hml, hown, hts, hr, hlk, hWd, hnm, hfr, hlo⟩ := hc
  unfold o_bI at ho
  split at ho
  · cases ho
    obtain ⟨hk1, hk2⟩ := hk
    exact lv_ishl hx hb d (hk2 H locs ls hR hS hl)
  · cases ho

theorem k_ishr {G : gG} {MT : Nat → gM} {l : Launch} {M : gM} {pc : Nat} (d : decode M.2.1 pc = .ok (.ishr, 1)) : gOk G MT l M pc (o_bI (fun x y => x >>> (y &&& 31))) := by
  intro p e R s m args below meth c Q n0 w0 H locs ls L st σ x hc hn hw hR hS hl hL ho hk
  obtain ⟨hx, hb, hml, hown, hts, hr, hlk, hWd, hnm, hfr, hlo⟩ := hc
  unfold o_bI at ho
  split at ho
  · cases ho
    obtain ⟨hk1, hk2⟩ := hk
    exact lv_ishr hx hb d (hk2 H locs ls hR hS hl)
  · cases ho

theorem k_iushr {G : gG} {MT : Nat → gM} {l : Launch} {M : gM} {pc : Nat} (d : decode M.2.1 pc = .ok (.iushr, 1)) : gOk G MT l M pc (o_bI (fun x y => (x.toUInt32 >>> (y.toUInt32 &&& Int32.toUInt32 31)).toInt32)) := by
  intro p e R s m args below meth c Q n0 w0 H locs ls L st σ x hc hn hw hR hS hl hL ho hk
  obtain ⟨hx, hb, hml, hown, hts, hr, hlk, hWd, hnm, hfr, hlo⟩ := hc
  unfold o_bI at ho
  split at ho
  · cases ho
    obtain ⟨hk1, hk2⟩ := hk
    exact lv_iushr hx hb d rfl (hk2 H locs ls hR hS hl)
  · cases ho

theorem k_idiv {G : gG} {MT : Nat → gM} {l : Launch} {M : gM} {pc : Nat} (d : decode M.2.1 pc = .ok (.idiv, 1)) : gOk G MT l M pc (o_bId (fun x y => x / y)) := by
  intro p e R s m args below meth c Q n0 w0 H locs ls L st σ x hc hn hw hR hS hl hL ho hk
  obtain ⟨hx, hb, hml, hown, hts, hr, hlk, hWd, hnm, hfr, hlo⟩ := hc
  unfold o_bId at ho
  split at ho
  · split at ho
    · cases ho
    · next hz =>
      cases ho
      obtain ⟨hk1, hk2⟩ := hk
      exact lv_idiv hx hb d hz (hk2 H locs ls hR hS hl)
  · cases ho

theorem k_irem {G : gG} {MT : Nat → gM} {l : Launch} {M : gM} {pc : Nat} (d : decode M.2.1 pc = .ok (.irem, 1)) : gOk G MT l M pc (o_bId (fun x y => x - x / y * y)) := by
  intro p e R s m args below meth c Q n0 w0 H locs ls L st σ x hc hn hw hR hS hl hL ho hk
  obtain ⟨hx, hb, hml, hown, hts, hr, hlk, hWd, hnm, hfr, hlo⟩ := hc
  unfold o_bId at ho
  split at ho
  · split at ho
    · cases ho
    · next hz =>
      cases ho
      obtain ⟨hk1, hk2⟩ := hk
      exact lv_irem hx hb d hz (hk2 H locs ls hR hS hl)
  · cases ho

theorem k_ldiv {G : gG} {MT : Nat → gM} {l : Launch} {M : gM} {pc : Nat} (d : decode M.2.1 pc = .ok (.ldiv, 1)) : gOk G MT l M pc (o_bJd (fun x y => x / y)) := by
  intro p e R s m args below meth c Q n0 w0 H locs ls L st σ x hc hn hw hR hS hl hL ho hk
  obtain ⟨hx, hb, hml, hown, hts, hr, hlk, hWd, hnm, hfr, hlo⟩ := hc
  unfold o_bJd at ho
  split at ho
  · split at ho
    · cases ho
    · next hz =>
      cases ho
      obtain ⟨hk1, hk2⟩ := hk
      exact lv_ldiv hx hb d hz (hk2 H locs ls hR hS hl)
  · cases ho

theorem k_lrem {G : gG} {MT : Nat → gM} {l : Launch} {M : gM} {pc : Nat} (d : decode M.2.1 pc = .ok (.lrem, 1)) : gOk G MT l M pc (o_bJd (fun x y => x - x / y * y)) := by
  intro p e R s m args below meth c Q n0 w0 H locs ls L st σ x hc hn hw hR hS hl hL ho hk
  obtain ⟨hx, hb, hml, hown, hts, hr, hlk, hWd, hnm, hfr, hlo⟩ := hc
  unfold o_bJd at ho
  split at ho
  · split at ho
    · cases ho
    · next hz =>
      cases ho
      obtain ⟨hk1, hk2⟩ := hk
      exact lv_lrem hx hb d hz (hk2 H locs ls hR hS hl)
  · cases ho

theorem k_ineg {G : gG} {MT : Nat → gM} {l : Launch} {M : gM} {pc : Nat} (d : decode M.2.1 pc = .ok (.ineg, 1)) : gOk G MT l M pc (o_uI (fun x => -x)) := by
  intro p e R s m args below meth c Q n0 w0 H locs ls L st σ x hc hn hw hR hS hl hL ho hk
  obtain ⟨hx, hb, hml, hown, hts, hr, hlk, hWd, hnm, hfr, hlo⟩ := hc
  unfold o_uI at ho
  split at ho
  · cases ho
    obtain ⟨hk1, hk2⟩ := hk
    exact lv_ineg hx hb d (hk2 H locs ls hR hS hl)
  · cases ho

theorem k_i2b {G : gG} {MT : Nat → gM} {l : Launch} {M : gM} {pc : Nat} (d : decode M.2.1 pc = .ok (.i2b, 1)) : gOk G MT l M pc (o_uI (fun x => x.toInt8.toInt32)) := by
  intro p e R s m args below meth c Q n0 w0 H locs ls L st σ x hc hn hw hR hS hl hL ho hk
  obtain ⟨hx, hb, hml, hown, hts, hr, hlk, hWd, hnm, hfr, hlo⟩ := hc
  unfold o_uI at ho
  split at ho
  · cases ho
    obtain ⟨hk1, hk2⟩ := hk
    exact lv_i2b hx hb d rfl (hk2 H locs ls hR hS hl)
  · cases ho

theorem k_i2c {G : gG} {MT : Nat → gM} {l : Launch} {M : gM} {pc : Nat} (d : decode M.2.1 pc = .ok (.i2c, 1)) : gOk G MT l M pc (o_uI (fun x => (x.toUInt32 % 65536).toInt32)) := by
  intro p e R s m args below meth c Q n0 w0 H locs ls L st σ x hc hn hw hR hS hl hL ho hk
  obtain ⟨hx, hb, hml, hown, hts, hr, hlk, hWd, hnm, hfr, hlo⟩ := hc
  unfold o_uI at ho
  split at ho
  · cases ho
    obtain ⟨hk1, hk2⟩ := hk
    exact lv_i2c hx hb d rfl (hk2 H locs ls hR hS hl)
  · cases ho

theorem k_ladd {G : gG} {MT : Nat → gM} {l : Launch} {M : gM} {pc : Nat} (d : decode M.2.1 pc = .ok (.ladd, 1)) : gOk G MT l M pc (o_bJ (fun x y => x + y)) := by
  intro p e R s m args below meth c Q n0 w0 H locs ls L st σ x hc hn hw hR hS hl hL ho hk
  obtain ⟨hx, hb, hml, hown, hts, hr, hlk, hWd, hnm, hfr, hlo⟩ := hc
  unfold o_bJ at ho
  split at ho
  · cases ho
    obtain ⟨hk1, hk2⟩ := hk
    exact lv_ladd hx hb d (hk2 H locs ls hR hS hl)
  · cases ho

theorem k_lsub {G : gG} {MT : Nat → gM} {l : Launch} {M : gM} {pc : Nat} (d : decode M.2.1 pc = .ok (.lsub, 1)) : gOk G MT l M pc (o_bJ (fun x y => x - y)) := by
  intro p e R s m args below meth c Q n0 w0 H locs ls L st σ x hc hn hw hR hS hl hL ho hk
  obtain ⟨hx, hb, hml, hown, hts, hr, hlk, hWd, hnm, hfr, hlo⟩ := hc
  unfold o_bJ at ho
  split at ho
  · cases ho
    obtain ⟨hk1, hk2⟩ := hk
    exact lv_lsub hx hb d (hk2 H locs ls hR hS hl)
  · cases ho

theorem k_lmul {G : gG} {MT : Nat → gM} {l : Launch} {M : gM} {pc : Nat} (d : decode M.2.1 pc = .ok (.lmul, 1)) : gOk G MT l M pc (o_bJ (fun x y => x * y)) := by
  intro p e R s m args below meth c Q n0 w0 H locs ls L st σ x hc hn hw hR hS hl hL ho hk
  obtain ⟨hx, hb, hml, hown, hts, hr, hlk, hWd, hnm, hfr, hlo⟩ := hc
  unfold o_bJ at ho
  split at ho
  · cases ho
    obtain ⟨hk1, hk2⟩ := hk
    exact lv_lmul hx hb d (hk2 H locs ls hR hS hl)
  · cases ho

theorem k_lcmp {G : gG} {MT : Nat → gM} {l : Launch} {M : gM} {pc : Nat} (d : decode M.2.1 pc = .ok (.lcmp, 1)) : gOk G MT l M pc (o_lcmp) := by
  intro p e R s m args below meth c Q n0 w0 H locs ls L st σ x hc hn hw hR hS hl hL ho hk
  obtain ⟨hx, hb, hml, hown, hts, hr, hlk, hWd, hnm, hfr, hlo⟩ := hc
  unfold o_lcmp at ho
  split at ho
  · cases ho
    obtain ⟨hk1, hk2⟩ := hk
    exact W.lcmp hx hb d (hk2 H locs ls hR hS hl)
  · cases ho

theorem k_i2l {G : gG} {MT : Nat → gM} {l : Launch} {M : gM} {pc : Nat} (d : decode M.2.1 pc = .ok (.i2l, 1)) : gOk G MT l M pc (o_i2l) := by
  intro p e R s m args below meth c Q n0 w0 H locs ls L st σ x hc hn hw hR hS hl hL ho hk
  obtain ⟨hx, hb, hml, hown, hts, hr, hlk, hWd, hnm, hfr, hlo⟩ := hc
  unfold o_i2l at ho
  split at ho
  · cases ho
    obtain ⟨hk1, hk2⟩ := hk
    exact lv_i2l hx hb d rfl (hk2 H locs ls hR hS hl)
  · cases ho

theorem k_l2i {G : gG} {MT : Nat → gM} {l : Launch} {M : gM} {pc : Nat} (d : decode M.2.1 pc = .ok (.l2i, 1)) : gOk G MT l M pc (o_l2i) := by
  intro p e R s m args below meth c Q n0 w0 H locs ls L st σ x hc hn hw hR hS hl hL ho hk
  obtain ⟨hx, hb, hml, hown, hts, hr, hlk, hWd, hnm, hfr, hlo⟩ := hc
  unfold o_l2i at ho
  split at ho
  · cases ho
    obtain ⟨hk1, hk2⟩ := hk
    exact lv_l2i hx hb d rfl (hk2 H locs ls hR hS hl)
  · cases ho

theorem k_dup {G : gG} {MT : Nat → gM} {l : Launch} {M : gM} {pc : Nat} (d : decode M.2.1 pc = .ok (.dup, 1)) : gOk G MT l M pc (o_dup) := by
  intro p e R s m args below meth c Q n0 w0 H locs ls L st σ x hc hn hw hR hS hl hL ho hk
  obtain ⟨hx, hb, hml, hown, hts, hr, hlk, hWd, hnm, hfr, hlo⟩ := hc
  unfold o_dup at ho
  split at ho
  · cases ho
    obtain ⟨hk1, hk2⟩ := hk
    exact lv_dup hx hb d rfl (hk2 H locs ls hR hS hl)
  · cases ho
    obtain ⟨hk1, hk2⟩ := hk
    exact lv_dup hx hb d rfl (hk2 H locs ls hR hS hl)
  · cases ho

theorem k_dup2 {G : gG} {MT : Nat → gM} {l : Launch} {M : gM} {pc : Nat} (d : decode M.2.1 pc = .ok (.dup2, 1)) : gOk G MT l M pc (o_dup2) := by
  intro p e R s m args below meth c Q n0 w0 H locs ls L st σ x hc hn hw hR hS hl hL ho hk
  obtain ⟨hx, hb, hml, hown, hts, hr, hlk, hWd, hnm, hfr, hlo⟩ := hc
  unfold o_dup2 at ho
  split at ho
  · cases ho
    obtain ⟨hk1, hk2⟩ := hk
    exact lv_dup2_11 hx hb d rfl rfl (hk2 H locs ls hR hS hl)
  · cases ho

theorem k_pop {G : gG} {MT : Nat → gM} {l : Launch} {M : gM} {pc : Nat} (d : decode M.2.1 pc = .ok (.pop, 1)) : gOk G MT l M pc (o_pop) := by
  intro p e R s m args below meth c Q n0 w0 H locs ls L st σ x hc hn hw hR hS hl hL ho hk
  obtain ⟨hx, hb, hml, hown, hts, hr, hlk, hWd, hnm, hfr, hlo⟩ := hc
  unfold o_pop at ho
  split at ho
  · cases ho
    obtain ⟨hk1, hk2⟩ := hk
    exact lv_pop hx hb d rfl (hk2 H locs ls hR hS hl)
  · cases ho
    obtain ⟨hk1, hk2⟩ := hk
    exact lv_pop hx hb d rfl (hk2 H locs ls hR hS hl)
  · cases ho

theorem k_ifeq {G : gG} {MT : Nat → gM} {l : Launch} {M : gM} {pc : Nat} {off : Int} {tgt : Nat} (d : decode M.2.1 pc = .ok (.ifCond .eq off, 3)) (ht : (pc : Int) + off = (tgt : Int)) : gOk G MT l M pc (o_if (fun x => decide (x = 0)) tgt) := by
  intro p e R s m args below meth c Q n0 w0 H locs ls L st σ x hc hn hw hR hS hl hL ho hk
  obtain ⟨hx, hb, hml, hown, hts, hr, hlk, hWd, hnm, hfr, hlo⟩ := hc
  unfold o_if at ho
  split at ho
  · split at ho
    · next h =>
      cases ho
      obtain ⟨hk1, hk2⟩ := hk
      exact lv_if_eq hx hb d ht (fun _ => (hk2 H locs ls hR hS hl)) (fun h2 => absurd (of_decide_eq_true h) h2)
    · next h =>
      cases ho
      obtain ⟨hk1, hk2⟩ := hk
      exact lv_if_eq hx hb d ht (fun h2 => absurd (decide_eq_true h2) h) (fun _ => (hk2 H locs ls hR hS hl))
  · cases ho

theorem k_iceq {G : gG} {MT : Nat → gM} {l : Launch} {M : gM} {pc : Nat} {off : Int} {tgt : Nat} (d : decode M.2.1 pc = .ok (.if_icmp .eq off, 3)) (ht : (pc : Int) + off = (tgt : Int)) : gOk G MT l M pc (o_icmp (fun x y => decide (x = y)) tgt) := by
  intro p e R s m args below meth c Q n0 w0 H locs ls L st σ x hc hn hw hR hS hl hL ho hk
  obtain ⟨hx, hb, hml, hown, hts, hr, hlk, hWd, hnm, hfr, hlo⟩ := hc
  unfold o_icmp at ho
  split at ho
  · split at ho
    · next h =>
      cases ho
      obtain ⟨hk1, hk2⟩ := hk
      exact lv_icmp_eq hx hb d ht (fun _ => (hk2 H locs ls hR hS hl)) (fun h2 => absurd (of_decide_eq_true h) h2)
    · next h =>
      cases ho
      obtain ⟨hk1, hk2⟩ := hk
      exact lv_icmp_eq hx hb d ht (fun h2 => absurd (decide_eq_true h2) h) (fun _ => (hk2 H locs ls hR hS hl))
  · cases ho

theorem k_ifne {G : gG} {MT : Nat → gM} {l : Launch} {M : gM} {pc : Nat} {off : Int} {tgt : Nat} (d : decode M.2.1 pc = .ok (.ifCond .ne off, 3)) (ht : (pc : Int) + off = (tgt : Int)) : gOk G MT l M pc (o_if (fun x => decide (x ≠ 0)) tgt) := by
  intro p e R s m args below meth c Q n0 w0 H locs ls L st σ x hc hn hw hR hS hl hL ho hk
  obtain ⟨hx, hb, hml, hown, hts, hr, hlk, hWd, hnm, hfr, hlo⟩ := hc
  unfold o_if at ho
  split at ho
  · split at ho
    · next h =>
      cases ho
      obtain ⟨hk1, hk2⟩ := hk
      exact lv_if_ne hx hb d ht (fun _ => (hk2 H locs ls hR hS hl)) (fun h2 => absurd h2 (of_decide_eq_true h))
    · next h =>
      cases ho
      obtain ⟨hk1, hk2⟩ := hk
      exact lv_if_ne hx hb d ht (fun h2 => absurd (decide_eq_true h2) h) (fun _ => (hk2 H locs ls hR hS hl))
  · cases ho

theorem k_icne {G : gG} {MT : Nat → gM} {l : Launch} {M : gM} {pc : Nat} {off : Int} {tgt : Nat} (d : decode M.2.1 pc = .ok (.if_icmp .ne off, 3)) (ht : (pc : Int) + off = (tgt : Int)) : gOk G MT l M pc (o_icmp (fun x y => decide (x ≠ y)) tgt) := by
  intro p e R s m args below meth c Q n0 w0 H locs ls L st σ x hc hn hw hR hS hl hL ho hk
  obtain ⟨hx, hb, hml, hown, hts, hr, hlk, hWd, hnm, hfr, hlo⟩ := hc
  unfold o_icmp at ho
  split at ho
  · split at ho
    · next h =>
      cases ho
      obtain ⟨hk1, hk2⟩ := hk
      exact lv_icmp_ne hx hb d ht (fun _ => (hk2 H locs ls hR hS hl)) (fun h2 => absurd h2 (of_decide_eq_true h))
    · next h =>
      cases ho
      obtain ⟨hk1, hk2⟩ := hk
      exact lv_icmp_ne hx hb d ht (fun h2 => absurd (decide_eq_true h2) h) (fun _ => (hk2 H locs ls hR hS hl))
  · cases ho

theorem k_iflt {G : gG} {MT : Nat → gM} {l : Launch} {M : gM} {pc : Nat} {off : Int} {tgt : Nat} (d : decode M.2.1 pc = .ok (.ifCond .lt off, 3)) (ht : (pc : Int) + off = (tgt : Int)) : gOk G MT l M pc (o_if (fun x => decide (x < 0)) tgt) := by
  intro p e R s m args below meth c Q n0 w0 H locs ls L st σ x hc hn hw hR hS hl hL ho hk
  obtain ⟨hx, hb, hml, hown, hts, hr, hlk, hWd, hnm, hfr, hlo⟩ := hc
  unfold o_if at ho
  split at ho
  · split at ho
    · next h =>
      cases ho
      obtain ⟨hk1, hk2⟩ := hk
      exact lv_if_lt hx hb d ht (fun _ => (hk2 H locs ls hR hS hl)) (fun h2 => absurd (of_decide_eq_true h) h2)
    · next h =>
      cases ho
      obtain ⟨hk1, hk2⟩ := hk
      exact lv_if_lt hx hb d ht (fun h2 => absurd (decide_eq_true h2) h) (fun _ => (hk2 H locs ls hR hS hl))
  · cases ho

theorem k_iclt {G : gG} {MT : Nat → gM} {l : Launch} {M : gM} {pc : Nat} {off : Int} {tgt : Nat} (d : decode M.2.1 pc = .ok (.if_icmp .lt off, 3)) (ht : (pc : Int) + off = (tgt : Int)) : gOk G MT l M pc (o_icmp (fun x y => decide (x < y)) tgt) := by
  intro p e R s m args below meth c Q n0 w0 H locs ls L st σ x hc hn hw hR hS hl hL ho hk
  obtain ⟨hx, hb, hml, hown, hts, hr, hlk, hWd, hnm, hfr, hlo⟩ := hc
  unfold o_icmp at ho
  split at ho
  · split at ho
    · next h =>
      cases ho
      obtain ⟨hk1, hk2⟩ := hk
      exact lv_icmp_lt hx hb d ht (fun _ => (hk2 H locs ls hR hS hl)) (fun h2 => absurd (of_decide_eq_true h) h2)
    · next h =>
      cases ho
      obtain ⟨hk1, hk2⟩ := hk
      exact lv_icmp_lt hx hb d ht (fun h2 => absurd (decide_eq_true h2) h) (fun _ => (hk2 H locs ls hR hS hl))
  · cases ho

theorem k_ifge {G : gG} {MT : Nat → gM} {l : Launch} {M : gM} {pc : Nat} {off : Int} {tgt : Nat} (d : decode M.2.1 pc = .ok (.ifCond .ge off, 3)) (ht : (pc : Int) + off = (tgt : Int)) : gOk G MT l M pc (o_if (fun x => decide (0 ≤ x)) tgt) := by
  intro p e R s m args below meth c Q n0 w0 H locs ls L st σ x hc hn hw hR hS hl hL ho hk
  obtain ⟨hx, hb, hml, hown, hts, hr, hlk, hWd, hnm, hfr, hlo⟩ := hc
  unfold o_if at ho
  split at ho
  · split at ho
    · next h =>
      cases ho
      obtain ⟨hk1, hk2⟩ := hk
      exact lv_if_ge hx hb d ht (fun _ => (hk2 H locs ls hR hS hl)) (fun h2 => absurd (of_decide_eq_true h) h2)
    · next h =>
      cases ho
      obtain ⟨hk1, hk2⟩ := hk
      exact lv_if_ge hx hb d ht (fun h2 => absurd (decide_eq_true h2) h) (fun _ => (hk2 H locs ls hR hS hl))
  · cases ho

theorem k_icge {G : gG} {MT : Nat → gM} {l : Launch} {M : gM} {pc : Nat} {off : Int} {tgt : Nat} (d : decode M.2.1 pc = .ok (.if_icmp .ge off, 3)) (ht : (pc : Int) + off = (tgt : Int)) : gOk G MT l M pc (o_icmp (fun x y => decide (y ≤ x)) tgt) := by
  intro p e R s m args below meth c Q n0 w0 H locs ls L st σ x hc hn hw hR hS hl hL ho hk
  obtain ⟨hx, hb, hml, hown, hts, hr, hlk, hWd, hnm, hfr, hlo⟩ := hc
  unfold o_icmp at ho
  split at ho
  · split at ho
    · next h =>
      cases ho
      obtain ⟨hk1, hk2⟩ := hk
      exact lv_icmp_ge hx hb d ht (fun _ => (hk2 H locs ls hR hS hl)) (fun h2 => absurd (of_decide_eq_true h) h2)
    · next h =>
      cases ho
      obtain ⟨hk1, hk2⟩ := hk
      exact lv_icmp_ge hx hb d ht (fun h2 => absurd (decide_eq_true h2) h) (fun _ => (hk2 H locs ls hR hS hl))
  · cases ho

theorem k_ifgt {G : gG} {MT : Nat → gM} {l : Launch} {M : gM} {pc : Nat} {off : Int} {tgt : Nat} (d : decode M.2.1 pc = .ok (.ifCond .gt off, 3)) (ht : (pc : Int) + off = (tgt : Int)) : gOk G MT l M pc (o_if (fun x => decide (0 < x)) tgt) := by
  intro p e R s m args below meth c Q n0 w0 H locs ls L st σ x hc hn hw hR hS hl hL ho hk
  obtain ⟨hx, hb, hml, hown, hts, hr, hlk, hWd, hnm, hfr, hlo⟩ := hc
  unfold o_if at ho
  split at ho
  · split at ho
    · next h =>
      cases ho
      obtain ⟨hk1, hk2⟩ := hk
      exact lv_if_gt hx hb d ht (fun _ => (hk2 H locs ls hR hS hl)) (fun h2 => absurd (of_decide_eq_true h) h2)
    · next h =>
      cases ho
      obtain ⟨hk1, hk2⟩ := hk
      exact lv_if_gt hx hb d ht (fun h2 => absurd (decide_eq_true h2) h) (fun _ => (hk2 H locs ls hR hS hl))
  · cases ho

theorem k_icgt {G : gG} {MT : Nat → gM} {l : Launch} {M : gM} {pc : Nat} {off : Int} {tgt : Nat} (d : decode M.2.1 pc = .ok (.if_icmp .gt off, 3)) (ht : (pc : Int) + off = (tgt : Int)) : gOk G MT l M pc (o_icmp (fun x y => decide (y < x)) tgt) := by
  intro p e R s m args below meth c Q n0 w0 H locs ls L st σ x hc hn hw hR hS hl hL ho hk
  obtain ⟨hx, hb, hml, hown, hts, hr, hlk, hWd, hnm, hfr, hlo⟩ := hc
  unfold o_icmp at ho
  split at ho
  · split at ho
    · next h =>
      cases ho
      obtain ⟨hk1, hk2⟩ := hk
      exact lv_icmp_gt hx hb d ht (fun _ => (hk2 H locs ls hR hS hl)) (fun h2 => absurd (of_decide_eq_true h) h2)
    · next h =>
      cases ho
      obtain ⟨hk1, hk2⟩ := hk
      exact lv_icmp_gt hx hb d ht (fun h2 => absurd (decide_eq_true h2) h) (fun _ => (hk2 H locs ls hR hS hl))
  · cases ho

theorem k_ifle {G : gG} {MT : Nat → gM} {l : Launch} {M : gM} {pc : Nat} {off : Int} {tgt : Nat} (d : decode M.2.1 pc = .ok (.ifCond .le off, 3)) (ht : (pc : Int) + off = (tgt : Int)) : gOk G MT l M pc (o_if (fun x => decide (x ≤ 0)) tgt) := by
  intro p e R s m args below meth c Q n0 w0 H locs ls L st σ x hc hn hw hR hS hl hL ho hk
  obtain ⟨hx, hb, hml, hown, hts, hr, hlk, hWd, hnm, hfr, hlo⟩ := hc
  unfold o_if at ho
  split at ho
  · split at ho
    · next h =>
      cases ho
      obtain ⟨hk1, hk2⟩ := hk
      exact lv_if_le hx hb d ht (fun _ => (hk2 H locs ls hR hS hl)) (fun h2 => absurd (of_decide_eq_true h) h2)
    · next h =>
      cases ho
      obtain ⟨hk1, hk2⟩ := hk
      exact lv_if_le hx hb d ht (fun h2 => absurd (decide_eq_true h2) h) (fun _ => (hk2 H locs ls hR hS hl))
  · cases ho

theorem k_icle {G : gG} {MT : Nat → gM} {l : Launch} {M : gM} {pc : Nat} {off : Int} {tgt : Nat} (d : decode M.2.1 pc = .ok (.if_icmp .le off, 3)) (ht : (pc : Int) + off = (tgt : Int)) : gOk G MT l M pc (o_icmp (fun x y => decide (x ≤ y)) tgt) := by
  intro p e R s m args below meth c Q n0 w0 H locs ls L st σ x hc hn hw hR hS hl hL ho hk
  obtain ⟨hx, hb, hml, hown, hts, hr, hlk, hWd, hnm, hfr, hlo⟩ := hc
  unfold o_icmp at ho
  split at ho
  · split at ho
    · next h =>
      cases ho
      obtain ⟨hk1, hk2⟩ := hk
      exact lv_icmp_le hx hb d ht (fun _ => (hk2 H locs ls hR hS hl)) (fun h2 => absurd (of_decide_eq_true h) h2)
    · next h =>
      cases ho
      obtain ⟨hk1, hk2⟩ := hk
      exact lv_icmp_le hx hb d ht (fun h2 => absurd (decide_eq_true h2) h) (fun _ => (hk2 H locs ls hR hS hl))
  · cases ho

theorem k_goto {G : gG} {MT : Nat → gM} {l : Launch} {M : gM} {pc : Nat} {off : Int} {tgt : Nat} (d : decode M.2.1 pc = .ok (.goto off, 3)) (ht : (pc : Int) + off = (tgt : Int)) : gOk G MT l M pc (o_goto tgt) := by
  intro p e R s m args below meth c Q n0 w0 H locs ls L st σ x hc hn hw hR hS hl hL ho hk
  obtain ⟨hx, hb, hml, hown, hts, hr, hlk, hWd, hnm, hfr, hlo⟩ := hc
  cases ho
  obtain ⟨hk1, hk2⟩ := hk
  exact lv_goto hx hb d ht (hk2 H locs ls hR hS hl)

theorem k_ifnull {G : gG} {MT : Nat → gM} {l : Launch} {M : gM} {pc : Nat} {off : Int} {tgt : Nat} (d : decode M.2.1 pc = .ok (.ifnull off, 3)) (ht : (pc : Int) + off = (tgt : Int)) : gOk G MT l M pc (o_ifnull tgt) := by
  intro p e R s m args below meth c Q n0 w0 H locs ls L st σ x hc hn hw hR hS hl hL ho hk
  obtain ⟨hx, hb, hml, hown, hts, hr, hlk, hWd, hnm, hfr, hlo⟩ := hc
  unfold o_ifnull at ho
  split at ho
  · cases ho
    obtain ⟨hk1, hk2⟩ := hk
    exact lv_ifnull hx hb d (hk2 H locs ls hR hS hl)
  · cases ho
    obtain ⟨hk1, hk2⟩ := hk
    exact lv_ifnullN hx hb d ht (hk2 H locs ls hR hS hl)
  · cases ho

theorem k_ifnonnull {G : gG} {MT : Nat → gM} {l : Launch} {M : gM} {pc : Nat} {off : Int} {tgt : Nat} (d : decode M.2.1 pc = .ok (.ifnonnull off, 3)) (ht : (pc : Int) + off = (tgt : Int)) : gOk G MT l M pc (o_ifnonnull tgt) := by
  intro p e R s m args below meth c Q n0 w0 H locs ls L st σ x hc hn hw hR hS hl hL ho hk
  obtain ⟨hx, hb, hml, hown, hts, hr, hlk, hWd, hnm, hfr, hlo⟩ := hc
  unfold o_ifnonnull at ho
  split at ho
  · cases ho
    obtain ⟨hk1, hk2⟩ := hk
    exact lv_ifnonnull hx hb d ht (hk2 H locs ls hR hS hl)
  · cases ho
    obtain ⟨hk1, hk2⟩ := hk
    exact lv_ifnonnullN hx hb d (hk2 H locs ls hR hS hl)
  · cases ho

theorem k_tsw {G : gG} {MT : Nat → gM} {l : Launch} {M : gM} {pc : Nat} {dflt lo hi : Int} {offs : Array Int} {len : Nat} {tg : List Nat} {df : Nat} (d : decode M.2.1 pc = .ok (.tableswitch dflt lo hi offs, len)) (h1 : offs.toList.map (fun f => ((pc : Int) + f)) = tg.map (fun (q : Nat) => (q : Int))) (h2 : (pc : Int) + dflt = (df : Int)) : gOk G MT l M pc (o_tsw lo hi tg df) := by
  intro p e R s m args below meth c Q n0 w0 H locs ls L st σ x hc hn hw hR hS hl hL ho hk
  obtain ⟨hx, hb, hml, hown, hts, hr, hlk, hWd, hnm, hfr, hlo⟩ := hc
  unfold o_tsw at ho
  split at ho
  · next y t0 =>
    split at ho
    · next h =>
      cases ho
      obtain ⟨hk1, hk2⟩ := hk
      exact lv_tableOut hx hb d h h2 (hk2 H locs ls hR hS hl)
    · next h =>
      split at ho
      · next q heq =>
        cases ho
        obtain ⟨hk1, hk2⟩ := hk
        have e1 := congrArg (fun z : List Int => z[(y.toInt - lo).toNat]?) h1
        simp only [List.getElem?_map, heq, Option.map_some] at e1
        obtain ⟨f, hf, e2⟩ := Option.map_eq_some_iff.mp e1
        rw [Array.getElem?_toList] at hf
        exact lv_tableIn hx hb d (fun q => h (Or.inl q)) (fun q => h (Or.inr q)) hf e2 (hk2 H locs ls hR hS hl)
      · cases ho
  · cases ho
