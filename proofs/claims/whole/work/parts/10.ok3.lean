theorem g_arr {G : gG} {σ : gS} {H : Heap} {s : State} (hR : gRep G σ H) (hWd : gWd G s) {a t : Nat} (ht : t < 6) (hK : gK σ a = 20 + t) : H[a]? = some (arrV (gY G t) (gN σ a) (gAv σ t a)) ∧ s.isArrayOf (arrV (gY G t) (gN σ a) (gAv σ t a)) (gTy t) :=
  ⟨(hR.2.2.1 a t ht hK).2, (hWd.1.2 t _ (gTys_at G ht)).1 _ _⟩
theorem g_in {cA : ClassId} {N : Nat} {f : Nat → Value} {i : Int32} (h0 : ¬ i < 0) (h1 : i.toNatClampNeg < N) : ¬ (i < 0 ∨ (arrV cA N f).slots.size ≤ i.toNatClampNeg) := by
  rw [arrV_size]
  exact fun h => h.elim h0 (fun q => absurd h1 (Nat.not_lt.mpr q))
/-- a store into an array, as the store sees it -/
theorem g_ast {G : gG} {σ σ' : gS} {H H' : Heap} (hR : gRep G σ H) {a t k : Nat} (ht : t < 6) (hK : gK σ a = 20 + t) {v : Value} (e1 : H'[a]? = some ((arrV (gY G t) (gN σ a) (gAv σ t a)).setSlot k v)) (z : H'.size = H.size) (oq : ∀ q, q ≠ a → H'[q]? = H[q]?)
    (eK : gK σ' = gK σ) (eN : gN σ' = gN σ) (en : gn σ' = gn σ) (eT : gT σ' = gT σ)
    (eI : ∀ b k, b ≠ a → gI σ' b k = gI σ b k) (eJ : ∀ b k, b ≠ a → gJ σ' b k = gJ σ b k) (eR : ∀ b k, b ≠ a → gR σ' b k = gR σ b k) (hv : gAv σ' t a k = v) (ho : ∀ j, j ≠ k → gAv σ' t a j = gAv σ t a j) : gRep G σ' H' := by
  refine gRep_upd hR a (Or.inr ⟨t, ht, hK⟩) eK eN en eT eI eJ eR z oq (fun c hc h => by omega) ?_
  intro t1 ht1 h1
  have : t1 = t := by omega
  subst this
  rw [e1, arrV_store]
  congr 2
  funext j
  by_cases hj : j = k
  · subst hj
    simp [updV, hv]
  · simp [updV, hj, ho j hj]

theorem k_iald {G : gG} {MT : Nat → gM} {l : Launch} {M : gM} {pc : Nat} (d : decode M.2.1 pc = .ok (.iaload, 1)) : gOk G MT l M pc o_iald := by
  intro p e R s m args below meth c Q n0 w0 H locs ls L st σ x hc hn hw hR hS hl hL ho hk
  obtain ⟨hx, hb, hml, hown, hts, hr, hlk, hWd, hnm, hfr, hlo⟩ := hc
  unfold o_iald at ho
  split at ho
  · next i a t =>
    split at ho
    · next hh =>
      obtain ⟨hK, h0, h1⟩ := hh
      cases ho
      obtain ⟨hk1, hk2⟩ := hk
      rcases hK with hK | hK
      · obtain ⟨g1, g2⟩ := g_arr hR hWd (t := 1) (by decide) hK
        exact W.iald hx hb g1 g2 (fun q => by cases q) (g_in h0 h1) (arrV_read _ _ h1) rfl rfl d (hk2 H locs ls hR hS hl)
      · obtain ⟨e1, e2, e3⟩ := hR.2.2.2.2.1 a hK
        rw [e2] at h1
        rw [e3 _ h1] at hk2
        subst e1
        have hbB := hWd.2.2.2.2.2.2.2.2
        exact va_sld hx hb hWd.2.1 (Nat.lt_of_lt_of_le hbB.2.1 hbB.1) (Nat.not_le.mpr hbB.2.1) hS (fun q => q.elim h0 (fun q => absurd h1 (Nat.not_lt.mpr q))) d (hk2 H locs ls hR hS hl)
    · cases ho
  · cases ho

theorem k_bald {G : gG} {MT : Nat → gM} {l : Launch} {M : gM} {pc : Nat} (d : decode M.2.1 pc = .ok (.baload, 1)) : gOk G MT l M pc o_bald := by
  intro p e R s m args below meth c Q n0 w0 H locs ls L st σ x hc hn hw hR hS hl hL ho hk
  obtain ⟨hx, hb, hml, hown, hts, hr, hlk, hWd, hnm, hfr, hlo⟩ := hc
  unfold o_bald at ho
  split at ho
  · next i a t =>
    split at ho
    · next hh =>
      obtain ⟨hK, h0, h1⟩ := hh
      cases ho
      obtain ⟨hk1, hk2⟩ := hk
      rcases hK with hK | hK
      · obtain ⟨g1, g2⟩ := g_arr hR hWd (t := 0) (by decide) hK
        exact W.bald hx hb g1 g2 (fun q => by cases q) (g_in h0 h1) (arrV_read _ _ h1) rfl rfl d (hk2 H locs ls hR hS hl)
      · obtain ⟨g1, g2⟩ := g_arr hR hWd (t := 3) (by decide) hK
        exact W.zald hx hb g1 g2 (fun q => by cases q) (g_in h0 h1) (arrV_read _ _ h1) rfl rfl d (hk2 H locs ls hR hS hl)
    · split at ho
      · next j hj =>
        split at ho
        · next hh =>
          obtain ⟨-, h0, h1⟩ := hh
          cases ho
          obtain ⟨hk1, hk2⟩ := hk
          obtain ⟨h3, h4⟩ := gFw_at hj
          have e1 : a = gaV G j := h4.symm.trans (hR.2.2.2.2.2.2 j h3)
          subst e1
          obtain ⟨cell, c1, c2, c3, c4, c5, c6, c7⟩ := (hWd.2.2.1.1 j h3).2.2.2.kept hS.2.1
          exact W.bald hx hb c1 c2 c3 (fun q => q.elim h0 (fun q => absurd (Nat.lt_of_lt_of_le h1 c4) (Nat.not_lt.mpr q))) (c6 _ h1) rfl rfl d (hk2 H locs ls hR hS hl)
        · cases ho
      · cases ho
  · cases ho

theorem k_lald {G : gG} {MT : Nat → gM} {l : Launch} {M : gM} {pc : Nat} (d : decode M.2.1 pc = .ok (.laload, 1)) : gOk G MT l M pc o_lald := by
  intro p e R s m args below meth c Q n0 w0 H locs ls L st σ x hc hn hw hR hS hl hL ho hk
  obtain ⟨hx, hb, hml, hown, hts, hr, hlk, hWd, hnm, hfr, hlo⟩ := hc
  unfold o_lald at ho
  split at ho
  · next i a t =>
    split at ho
    · next hh =>
      obtain ⟨hK, h0, h1⟩ := hh
      cases ho
      obtain ⟨hk1, hk2⟩ := hk
      obtain ⟨g1, g2⟩ := g_arr hR hWd (t := 2) (by decide) hK
      exact W.lald hx hb g1 g2 (fun q => by cases q) (g_in h0 h1) (arrV_read _ _ h1) rfl rfl d (hk2 H locs ls hR hS hl)
    · cases ho
  · cases ho

theorem k_aald {G : gG} {MT : Nat → gM} {l : Launch} {M : gM} {pc : Nat} (d : decode M.2.1 pc = .ok (.aaload, 1)) : gOk G MT l M pc o_aald := by
  intro p e R s m args below meth c Q n0 w0 H locs ls L st σ x hc hn hw hR hS hl hL ho hk
  obtain ⟨hx, hb, hml, hown, hts, hr, hlk, hWd, hnm, hfr, hlo⟩ := hc
  unfold o_aald at ho
  split at ho
  · next i a t =>
    split at ho
    · next hh =>
      obtain ⟨hK, h0, h1⟩ := hh
      obtain ⟨t0, ht0, hK, hty, hv⟩ : ∃ t0, t0 < 6 ∧ gK σ a = 20 + t0 ∧ (gTy t0).isReference = true ∧ ∀ k, gAv σ t0 a k = va_rf (gR σ a k) := by
        rcases hK with hK | hK
        · exact ⟨4, by decide, hK, rfl, fun _ => rfl⟩
        · exact ⟨5, by decide, hK, rfl, fun _ => rfl⟩
      obtain ⟨g1, g2⟩ := g_arr hR hWd ht0 hK
      split at ho
      · next q hq =>
        cases ho
        obtain ⟨hk1, hk2⟩ := hk
        exact W.aald (v := .ref q) hx hb g1 g2 hty (fun q => by cases q) (g_in h0 h1) (by rw [arrV_read _ _ h1, hv, hq]; rfl) rfl rfl d (hk2 H locs ls hR hS hl)
      · next hq =>
        cases ho
        obtain ⟨hk1, hk2⟩ := hk
        exact W.aald (v := .null) hx hb g1 g2 hty (fun q => by cases q) (g_in h0 h1) (by rw [arrV_read _ _ h1, hv, hq]; rfl) rfl rfl d (hk2 H locs ls hR hS hl)
    · cases ho
  · cases ho

theorem k_iast {G : gG} {MT : Nat → gM} {l : Launch} {M : gM} {pc : Nat} (d : decode M.2.1 pc = .ok (.iastore, 1)) : gOk G MT l M pc o_iast := by
  intro p e R s m args below meth c Q n0 w0 H locs ls L st σ x hc hn hw hR hS hl hL ho hk
  obtain ⟨hx, hb, hml, hown, hts, hr, hlk, hWd, hnm, hfr, hlo⟩ := hc
  unfold o_iast at ho
  split at ho
  · next x i a t =>
    split at ho
    · next hh =>
      obtain ⟨hK, h0, h1⟩ := hh
      cases ho
      obtain ⟨hk1, hk2⟩ := hk
      obtain ⟨g1, g2⟩ := g_arr hR hWd (t := 1) (by decide) hK
      refine W.iast hx hb g1 g2 (fun q => by cases q) (g_in h0 h1) rfl rfl d (fun H' e1 z oq => ?_)
      refine hk2 H' _ ls ?_ (hS.put z oq (hR.2.2.1 a 1 (by decide) hK).1) hl
      refine g_ast hR (t := 1) (by decide) hK e1 z oq rfl rfl rfl rfl (fun b j hb => by simp [gI, sI, gU, hb]) (fun b j hb => by simp [gJ, sI, gU, hb]) (fun b j hb => by simp [gR, sI, gU, hb]) ?_ (fun j hj => by simp [gAv, gI, gJ, gR, sI, gU, hj])
      simp [gAv, gTy, gVt, gI, gJ, gR, sI, gU]
    · cases ho
  · cases ho

theorem k_last {G : gG} {MT : Nat → gM} {l : Launch} {M : gM} {pc : Nat} (d : decode M.2.1 pc = .ok (.lastore, 1)) : gOk G MT l M pc o_last := by
  intro p e R s m args below meth c Q n0 w0 H locs ls L st σ x hc hn hw hR hS hl hL ho hk
  obtain ⟨hx, hb, hml, hown, hts, hr, hlk, hWd, hnm, hfr, hlo⟩ := hc
  unfold o_last at ho
  split at ho
  · next x i a t =>
    split at ho
    · next hh =>
      obtain ⟨hK, h0, h1⟩ := hh
      cases ho
      obtain ⟨hk1, hk2⟩ := hk
      obtain ⟨g1, g2⟩ := g_arr hR hWd (t := 2) (by decide) hK
      refine W.last hx hb g1 g2 (fun q => by cases q) (g_in h0 h1) rfl rfl d (fun H' e1 z oq => ?_)
      refine hk2 H' _ ls ?_ (hS.put z oq (hR.2.2.1 a 2 (by decide) hK).1) hl
      refine g_ast hR (t := 2) (by decide) hK e1 z oq rfl rfl rfl rfl (fun b j hb => by simp [gI, sJ, gU, hb]) (fun b j hb => by simp [gJ, sJ, gU, hb]) (fun b j hb => by simp [gR, sJ, gU, hb]) ?_ (fun j hj => by simp [gAv, gI, gJ, gR, sJ, gU, hj])
      simp [gAv, gTy, gVt, gI, gJ, gR, sJ, gU]
    · cases ho
  · cases ho

theorem k_bast {G : gG} {MT : Nat → gM} {l : Launch} {M : gM} {pc : Nat} (d : decode M.2.1 pc = .ok (.bastore, 1)) : gOk G MT l M pc o_bast := by
  intro p e R s m args below meth c Q n0 w0 H locs ls L st σ x hc hn hw hR hS hl hL ho hk
  obtain ⟨hx, hb, hml, hown, hts, hr, hlk, hWd, hnm, hfr, hlo⟩ := hc
  unfold o_bast at ho
  split at ho
  · next x i a t =>
    split at ho
    · next hh =>
      obtain ⟨hK, h0, h1⟩ := hh
      cases ho
      obtain ⟨hk1, hk2⟩ := hk
      obtain ⟨g1, g2⟩ := g_arr hR hWd (t := 0) (by decide) hK
      refine W.bast hx hb g1 g2 (fun q => by cases q) (g_in h0 h1) rfl rfl d (fun H' e1 z oq => ?_)
      refine hk2 H' _ ls ?_ (hS.put z oq (hR.2.2.1 a 0 (by decide) hK).1) hl
      refine g_ast hR (t := 0) (by decide) hK e1 z oq rfl rfl rfl rfl (fun b j hb => by simp [gI, sI, gU, hb]) (fun b j hb => by simp [gJ, sI, gU, hb]) (fun b j hb => by simp [gR, sI, gU, hb]) ?_ (fun j hj => by simp [gAv, gI, gJ, gR, sI, gU, hj])
      simp [gAv, gTy, gVt, gI, gJ, gR, sI, gU, narrow]
    · split at ho
      · next hh =>
        obtain ⟨hK, h0, h1⟩ := hh
        cases ho
        obtain ⟨hk1, hk2⟩ := hk
        obtain ⟨g1, g2⟩ := g_arr hR hWd (t := 3) (by decide) hK
        refine W.zast hx hb g1 g2 (fun q => by cases q) (g_in h0 h1) rfl rfl d (fun H' e1 z oq => ?_)
        refine hk2 H' _ ls ?_ (hS.put z oq (hR.2.2.1 a 3 (by decide) hK).1) hl
        refine g_ast hR (t := 3) (by decide) hK e1 z oq rfl rfl rfl rfl (fun b j hb => by simp [gI, sI, gU, hb]) (fun b j hb => by simp [gJ, sI, gU, hb]) (fun b j hb => by simp [gR, sI, gU, hb]) ?_ (fun j hj => by simp [gAv, gI, gJ, gR, sI, gU, hj])
        simp [gAv, gTy, gVt, gI, gJ, gR, sI, gU, narrow, vp_nar]
      · cases ho
  · cases ho

theorem k_aast {G : gG} {MT : Nat → gM} {l : Launch} {M : gM} {pc : Nat} (d : decode M.2.1 pc = .ok (.aastore, 1)) : gOk G MT l M pc o_aast := by
  intro p e R s m args below meth c Q n0 w0 H locs ls L st σ x hc hn hw hR hS hl hL ho hk
  obtain ⟨hx, hb, hml, hown, hts, hr, hlk, hWd, hnm, hfr, hlo⟩ := hc
  unfold o_aast at ho
  split at ho
  · next x i a t =>
    split at ho
    · next hh =>
      obtain ⟨hK, h0, h1⟩ := hh
      cases ho
      obtain ⟨hk1, hk2⟩ := hk
      obtain ⟨t0, c0, ht0, hc0, hK, hKx, hty, hnm0, hv⟩ : ∃ t0 c0, t0 < 6 ∧ c0 < 13 ∧ gK σ a = 20 + t0 ∧ gK σ x = c0 + 1 ∧ (gTy t0).isReference = true ∧ gTy t0 = .object (gC c0).1 ∧ ∀ (τ : gS) k, gAv τ t0 a k = va_rf (gR τ a k) := by
        rcases hK with ⟨hK, hKx⟩ | ⟨hK, hKx⟩
        · exact ⟨4, 3, by decide, by decide, hK, hKx, rfl, rfl, fun _ _ => rfl⟩
        · exact ⟨5, 10, by decide, by decide, hK, hKx, rfl, rfl, fun _ _ => rfl⟩
      obtain ⟨g1, g2⟩ := g_arr hR hWd ht0 hK
      obtain ⟨hAr, hRA⟩ := hWd.1.2 t0 _ (gTys_at G ht0)
      simp only [hnm0] at hRA
      obtain ⟨kA, comp, k1, k2, k3, k4⟩ := hRA
      obtain ⟨-, cell, q1, q2, q3, q4⟩ := hR.2.1 x c0 hc0 hKx
      have hcls := (hWd.1.1 c0 _ (gC_at hc0)).2
      have hcomp : comp = (gD G).1 c0 := Option.some.inj (k3.symm.trans hcls.1)
      subst hcomp
      obtain ⟨kC, hkC, -⟩ := id hcls.2
      refine W.aast hx hb g1 (fun q h => by cases h) (fun h => by cases h) k1 k2 rfl hkC ⟨h0, by rw [arrV_size]; exact h1⟩ q1 (fun q h => by rw [q3] at h; cases h) (by rw [q2]; exact hkC) (by rw [q2]; exact va_assign hcls) rfl rfl d (fun H' e1 z oq => ?_)
      refine hk2 H' _ ls ?_ (hS.put z oq (hR.2.2.1 a t0 ht0 hK).1) hl
      refine g_ast hR ht0 hK e1 z oq rfl rfl rfl rfl (fun b j hb => by simp [gI, sR]) (fun b j hb => by simp [gJ, sR]) (fun b j hb => by simp [gR, sR, gU, hb]) ?_ (fun j hj => by simp [hv, gR, sR, gU, hj])
      simp [hv, gR, sR, gU, va_rf]
    · cases ho
  · next i a t =>
    split at ho
    · next hh =>
      obtain ⟨hK, h0, h1⟩ := hh
      cases ho
      obtain ⟨hk1, hk2⟩ := hk
      obtain ⟨t0, C, ht0, hK, hnm0, hv⟩ : ∃ t0 C, t0 < 6 ∧ gK σ a = 20 + t0 ∧ gTy t0 = .object C ∧ ∀ (τ : gS) k, gAv τ t0 a k = va_rf (gR τ a k) := by
        rcases hK with hK | hK
        · exact ⟨4, _, by decide, hK, rfl, fun _ _ => rfl⟩
        · exact ⟨5, _, by decide, hK, rfl, fun _ _ => rfl⟩
      obtain ⟨g1, g2⟩ := g_arr hR hWd ht0 hK
      rw [hnm0] at g2
      refine va_WaastN hx hb g1 g2 (fun h => by cases h) (g_in h0 h1) rfl rfl d (fun H' e1 z oq => ?_)
      refine hk2 H' _ ls ?_ (hS.put z oq (hR.2.2.1 a t0 ht0 hK).1) hl
      refine g_ast hR ht0 hK e1 z oq rfl rfl rfl rfl (fun b j hb => by simp [gI, sR]) (fun b j hb => by simp [gJ, sR]) (fun b j hb => by simp [gR, sR, gU, hb]) ?_ (fun j hj => by simp [hv, gR, sR, gU, hj])
      simp [hv, gR, sR, gU, va_rf]
    · cases ho
  · cases ho

theorem k_alen {G : gG} {MT : Nat → gM} {l : Launch} {M : gM} {pc : Nat} (d : decode M.2.1 pc = .ok (.arraylength, 1)) : gOk G MT l M pc o_alen := by
  intro p e R s m args below meth c Q n0 w0 H locs ls L st σ x hc hn hw hR hS hl hL ho hk
  obtain ⟨hx, hb, hml, hown, hts, hr, hlk, hWd, hnm, hfr, hlo⟩ := hc
  unfold o_alen at ho
  split at ho
  · next a t =>
    split at ho
    · next hK =>
      cases ho
      obtain ⟨hk1, hk2⟩ := hk
      by_cases h6 : gK σ a = 26
      · obtain ⟨e1, e2, e3⟩ := hR.2.2.2.2.1 a h6
        rw [e2] at hk2
        subst e1
        have hbB := hWd.2.2.2.2.2.2.2.2
        exact va_slen hx hb hWd.2.1 (Nat.lt_of_lt_of_le hbB.2.1 hbB.1) (Nat.not_le.mpr hbB.2.1) hS d (hk2 H locs ls hR hS hl)
      · obtain ⟨t0, ht0⟩ : ∃ t0, gK σ a = 20 + t0 := ⟨gK σ a - 20, by omega⟩
        obtain ⟨g1, g2⟩ := g_arr hR hWd (t := t0) (by omega) ht0
        exact W.alen (n := Int32.ofNat (gN σ a)) hx hb g1 g2 (by rw [arrV_size] <;> rfl) rfl rfl d (hk2 H locs ls hR hS hl)
    · split at ho
      · next j hj =>
        cases ho
        obtain ⟨hk1, hk2⟩ := hk
        obtain ⟨h3, h4⟩ := gFw_at hj
        have e1 : a = gaV G j := h4.symm.trans (hR.2.2.2.2.2.2 j h3)
        subst e1
        obtain ⟨cell, c1, c2, c3, c4, c5, c6, c7⟩ := (hWd.2.2.1.1 j h3).2.2.2.kept hS.2.1
        exact W.alen (n := Int32.ofNat (gSl j)) hx hb c1 c2 c5 rfl rfl d (hk2 H locs ls hR hS hl)
      · cases ho
  · cases ho

theorem k_newa_byte {G : gG} {MT : Nat → gM} {l : Launch} {M : gM} {pc : Nat} (d : decode M.2.1 pc = .ok (.newarray .byte, 2)) (w : Cond.arrayClass .byte ∈ gWS) : gOk G MT l M pc (o_newa 20) := by
  intro p e R s m args below meth c Q n0 w0 H locs ls L st σ x hc hn hw hR hS hl hL ho hk
  obtain ⟨hx, hb, hml, hown, hts, hr, hlk, hWd, hnm, hfr, hlo⟩ := hc
  unfold o_newa at ho
  split at ho
  · next n t =>
    split at ho
    · next hh =>
      obtain ⟨h0, h1⟩ := hh
      cases ho
      obtain ⟨⟨hk1, hk1b⟩, hk2⟩ := hk
      have hsz : H.size = gn σ := hR.1.1
      have e1 : gn (sNw σ 20 n.toNatClampNeg n.toNatClampNeg) = gn σ + 1 := rfl
      have e2 : gw (sNw σ 20 n.toNatClampNeg n.toNatClampNeg) = gw σ + n.toNatClampNeg := rfl
      rw [e1] at hk1 hk2
      rw [e2] at hk1b hk2
      rw [Nat.sub_add_comm hn, Nat.sub_add_comm hw] at hk2
      refine va_newaK (atype := .byte) hx hb (hts _ w) rfl d rfl h0 rfl (by show n.toNatClampNeg * 1 ≤ _; omega) (by omega) (by omega) hsz (fun H' cA e1 z oq hAr hNm => ?_)
      have hcA : cA = gY G 0 := Option.some.inj (hNm.symm.trans (hWd.1.2 0 _ (gTys_at G (by decide))).2)
      subst hcA
      refine hk2 H' locs ls (gRep_new hR (Or.inr ⟨0, by decide, rfl⟩) (by rw [z, hsz]) (fun q hq => oq q (by omega)) (fun c hc h => by omega) (fun t0 ht0 h => ?_)) ⟨Nat.le_trans hS.1 (by omega), fun q g1 g2 => (oq q (by have := hS.1; omega)).trans (hS.2.1 q g1 g2), hS.2.2⟩ hl
      have : t0 = 0 := by omega
      subst this
      rw [hsz]
      exact e1
    · cases ho
  · cases ho

theorem k_newa_int {G : gG} {MT : Nat → gM} {l : Launch} {M : gM} {pc : Nat} (d : decode M.2.1 pc = .ok (.newarray .int, 2)) (w : Cond.arrayClass .int ∈ gWS) : gOk G MT l M pc (o_newa 21) := by
  intro p e R s m args below meth c Q n0 w0 H locs ls L st σ x hc hn hw hR hS hl hL ho hk
  obtain ⟨hx, hb, hml, hown, hts, hr, hlk, hWd, hnm, hfr, hlo⟩ := hc
  unfold o_newa at ho
  split at ho
  · next n t =>
    split at ho
    · next hh =>
      obtain ⟨h0, h1⟩ := hh
      cases ho
      obtain ⟨⟨hk1, hk1b⟩, hk2⟩ := hk
      have hsz : H.size = gn σ := hR.1.1
      have e1 : gn (sNw σ 21 n.toNatClampNeg n.toNatClampNeg) = gn σ + 1 := rfl
      have e2 : gw (sNw σ 21 n.toNatClampNeg n.toNatClampNeg) = gw σ + n.toNatClampNeg := rfl
      rw [e1] at hk1 hk2
      rw [e2] at hk1b hk2
      rw [Nat.sub_add_comm hn, Nat.sub_add_comm hw] at hk2
      refine va_newaK (atype := .int) hx hb (hts _ w) rfl d rfl h0 rfl (by show n.toNatClampNeg * 4 ≤ _; omega) (by omega) (by omega) hsz (fun H' cA e1 z oq hAr hNm => ?_)
      have hcA : cA = gY G 1 := Option.some.inj (hNm.symm.trans (hWd.1.2 1 _ (gTys_at G (by decide))).2)
      subst hcA
      refine hk2 H' locs ls (gRep_new hR (Or.inr ⟨1, by decide, rfl⟩) (by rw [z, hsz]) (fun q hq => oq q (by omega)) (fun c hc h => by omega) (fun t0 ht0 h => ?_)) ⟨Nat.le_trans hS.1 (by omega), fun q g1 g2 => (oq q (by have := hS.1; omega)).trans (hS.2.1 q g1 g2), hS.2.2⟩ hl
      have : t0 = 1 := by omega
      subst this
      rw [hsz]
      exact e1
    · cases ho
  · cases ho

theorem k_newa_long {G : gG} {MT : Nat → gM} {l : Launch} {M : gM} {pc : Nat} (d : decode M.2.1 pc = .ok (.newarray .long, 2)) (w : Cond.arrayClass .long ∈ gWS) : gOk G MT l M pc (o_newa 22) := by
  intro p e R s m args below meth c Q n0 w0 H locs ls L st σ x hc hn hw hR hS hl hL ho hk
  obtain ⟨hx, hb, hml, hown, hts, hr, hlk, hWd, hnm, hfr, hlo⟩ := hc
  unfold o_newa at ho
  split at ho
  · next n t =>
    split at ho
    · next hh =>
      obtain ⟨h0, h1⟩ := hh
      cases ho
      obtain ⟨⟨hk1, hk1b⟩, hk2⟩ := hk
      have hsz : H.size = gn σ := hR.1.1
      have e1 : gn (sNw σ 22 n.toNatClampNeg n.toNatClampNeg) = gn σ + 1 := rfl
      have e2 : gw (sNw σ 22 n.toNatClampNeg n.toNatClampNeg) = gw σ + n.toNatClampNeg := rfl
      rw [e1] at hk1 hk2
      rw [e2] at hk1b hk2
      rw [Nat.sub_add_comm hn, Nat.sub_add_comm hw] at hk2
      refine va_newaK (atype := .long) hx hb (hts _ w) rfl d rfl h0 rfl (by show n.toNatClampNeg * 8 ≤ _; omega) (by omega) (by omega) hsz (fun H' cA e1 z oq hAr hNm => ?_)
      have hcA : cA = gY G 2 := Option.some.inj (hNm.symm.trans (hWd.1.2 2 _ (gTys_at G (by decide))).2)
      subst hcA
      refine hk2 H' locs ls (gRep_new hR (Or.inr ⟨2, by decide, rfl⟩) (by rw [z, hsz]) (fun q hq => oq q (by omega)) (fun c hc h => by omega) (fun t0 ht0 h => ?_)) ⟨Nat.le_trans hS.1 (by omega), fun q g1 g2 => (oq q (by have := hS.1; omega)).trans (hS.2.1 q g1 g2), hS.2.2⟩ hl
      have : t0 = 2 := by omega
      subst this
      rw [hsz]
      exact e1
    · cases ho
  · cases ho

theorem k_newa_boolean {G : gG} {MT : Nat → gM} {l : Launch} {M : gM} {pc : Nat} (d : decode M.2.1 pc = .ok (.newarray .boolean, 2)) (w : Cond.arrayClass .boolean ∈ gWS) : gOk G MT l M pc (o_newa 23) := by
  intro p e R s m args below meth c Q n0 w0 H locs ls L st σ x hc hn hw hR hS hl hL ho hk
  obtain ⟨hx, hb, hml, hown, hts, hr, hlk, hWd, hnm, hfr, hlo⟩ := hc
  unfold o_newa at ho
  split at ho
  · next n t =>
    split at ho
    · next hh =>
      obtain ⟨h0, h1⟩ := hh
      cases ho
      obtain ⟨⟨hk1, hk1b⟩, hk2⟩ := hk
      have hsz : H.size = gn σ := hR.1.1
      have e1 : gn (sNw σ 23 n.toNatClampNeg n.toNatClampNeg) = gn σ + 1 := rfl
      have e2 : gw (sNw σ 23 n.toNatClampNeg n.toNatClampNeg) = gw σ + n.toNatClampNeg := rfl
      rw [e1] at hk1 hk2
      rw [e2] at hk1b hk2
      rw [Nat.sub_add_comm hn, Nat.sub_add_comm hw] at hk2
      refine va_newaK (atype := .boolean) hx hb (hts _ w) rfl d rfl h0 rfl (by show n.toNatClampNeg * 1 ≤ _; omega) (by omega) (by omega) hsz (fun H' cA e1 z oq hAr hNm => ?_)
      have hcA : cA = gY G 3 := Option.some.inj (hNm.symm.trans (hWd.1.2 3 _ (gTys_at G (by decide))).2)
      subst hcA
      refine hk2 H' locs ls (gRep_new hR (Or.inr ⟨3, by decide, rfl⟩) (by rw [z, hsz]) (fun q hq => oq q (by omega)) (fun c hc h => by omega) (fun t0 ht0 h => ?_)) ⟨Nat.le_trans hS.1 (by omega), fun q g1 g2 => (oq q (by have := hS.1; omega)).trans (hS.2.1 q g1 g2), hS.2.2⟩ hl
      have : t0 = 3 := by omega
      subst this
      rw [hsz]
      exact e1
    · cases ho
  · cases ho

theorem k_newq_4 {G : gG} {MT : Nat → gM} {l : Launch} {M : gM} {pc : Nat} {i : Nat} (d : decode M.2.1 pc = .ok (.anewarray i, 3)) (w : Cond.classLink M.1.cls i RX3 ∈ gWS) : gOk G MT l M pc (o_newq 24) := by
  intro p e R s m args below meth c Q n0 w0 H locs ls L st σ x hc hn hw hR hS hl hL ho hk
  obtain ⟨hx, hb, hml, hown, hts, hr, hlk, hWd, hnm, hfr, hlo⟩ := hc
  unfold o_newq at ho
  split at ho
  · next n t =>
    split at ho
    · next hh =>
      obtain ⟨h0, h1⟩ := hh
      cases ho
      obtain ⟨⟨hk1, hk1b⟩, hk2⟩ := hk
      have hsz : H.size = gn σ := hR.1.1
      have e1 : gn (sNw σ 24 n.toNatClampNeg n.toNatClampNeg) = gn σ + 1 := rfl
      have e2 : gw (sNw σ 24 n.toNatClampNeg n.toNatClampNeg) = gw σ + n.toNatClampNeg := rfl
      rw [e1] at hk1 hk2
      rw [e2] at hk1b hk2
      rw [Nat.sub_add_comm hn, Nat.sub_add_comm hw] at hk2
      refine W.anew hx hb hown (hts _ w) (va_AO.use hWd.2.2.2.2.2.1) rfl d rfl h0 (by omega) (by omega) (by omega) (fun cA kA comp f1 f2 f3 f4 => ?_)
      have hRA := (hWd.1.2 4 _ (gTys_at G (by decide))).2
      obtain ⟨kA2, comp2, k1, k2, k3, k4⟩ := hRA
      have hcA : cA = gY G 4 := Option.some.inj (f1.symm.trans k4)
      subst hcA
      rw [hsz]
      refine hk2 _ locs ls (gRep_new hR (Or.inr ⟨4, by decide, rfl⟩) (by rw [Array.size_push]) (fun q hq => by rw [Array.getElem?_push, if_neg (Nat.ne_of_lt hq)]) (fun c hc h => by omega) (fun t0 ht0 h => ?_)) ⟨Nat.le_trans hS.1 (by rw [Array.size_push]; omega), fun q g1 g2 => ?_, hS.2.2⟩ hl
      · have : t0 = 4 := by omega
        subst this
        rw [Array.getElem?_push_size, ← arrV_new]
        rfl
      · rw [Array.getElem?_push, if_neg (by have := hS.1; omega)]
        exact hS.2.1 q g1 g2
    · cases ho
  · cases ho

theorem k_newq_5 {G : gG} {MT : Nat → gM} {l : Launch} {M : gM} {pc : Nat} {i : Nat} (d : decode M.2.1 pc = .ok (.anewarray i, 3)) (w : Cond.classLink M.1.cls i RX10 ∈ gWS) : gOk G MT l M pc (o_newq 25) := by
  intro p e R s m args below meth c Q n0 w0 H locs ls L st σ x hc hn hw hR hS hl hL ho hk
  obtain ⟨hx, hb, hml, hown, hts, hr, hlk, hWd, hnm, hfr, hlo⟩ := hc
  unfold o_newq at ho
  split at ho
  · next n t =>
    split at ho
    · next hh =>
      obtain ⟨h0, h1⟩ := hh
      cases ho
      obtain ⟨⟨hk1, hk1b⟩, hk2⟩ := hk
      have hsz : H.size = gn σ := hR.1.1
      have e1 : gn (sNw σ 25 n.toNatClampNeg n.toNatClampNeg) = gn σ + 1 := rfl
      have e2 : gw (sNw σ 25 n.toNatClampNeg n.toNatClampNeg) = gw σ + n.toNatClampNeg := rfl
      rw [e1] at hk1 hk2
      rw [e2] at hk1b hk2
      rw [Nat.sub_add_comm hn, Nat.sub_add_comm hw] at hk2
      refine W.anew hx hb hown (hts _ w) (va_AO.use hWd.2.2.2.2.2.2.1) rfl d rfl h0 (by omega) (by omega) (by omega) (fun cA kA comp f1 f2 f3 f4 => ?_)
      have hRA := (hWd.1.2 5 _ (gTys_at G (by decide))).2
      obtain ⟨kA2, comp2, k1, k2, k3, k4⟩ := hRA
      have hcA : cA = gY G 5 := Option.some.inj (f1.symm.trans k4)
      subst hcA
      rw [hsz]
      refine hk2 _ locs ls (gRep_new hR (Or.inr ⟨5, by decide, rfl⟩) (by rw [Array.size_push]) (fun q hq => by rw [Array.getElem?_push, if_neg (Nat.ne_of_lt hq)]) (fun c hc h => by omega) (fun t0 ht0 h => ?_)) ⟨Nat.le_trans hS.1 (by rw [Array.size_push]; omega), fun q g1 g2 => ?_, hS.2.2⟩ hl
      · have : t0 = 5 := by omega
        subst this
        rw [Array.getElem?_push_size, ← arrV_new]
        rfl
      · rw [Array.getElem?_push, if_neg (by have := hS.1; omega)]
        exact hS.2.1 q g1 g2
    · cases ho
  · cases ho

theorem k_new {G : gG} {MT : Nat → gM} {l : Launch} {M : gM} {pc : Nat} {i : Nat} (c w0 : Nat) (hc : c < 13) (hw0 : (gC c).2.2 = w0) (hdf : ∀ j, j < w0 → defaultValue (gFy c j) = gVt (gFy c j) 0 0 none) (d : decode M.2.1 pc = .ok (.new i, 3)) (w : Cond.classLink M.1.cls i (gC c).1 ∈ gWS) (w1 : Cond.instantiable (gC c).1 w0 ∈ gWS) (w2 : Cond.initialized (gC c).1 ∈ gWS) : gOk G MT l M pc (o_new c w0) := by
  intro p e R s m args below meth c9 Q n0 u0 H locs ls L st σ x hc9 hn hw hR hS hl hL ho hk
  obtain ⟨hx, hb, hml, hown, hts, hr, hlk, hWd, hnm, hfr, hlo⟩ := hc9
  cases ho
  obtain ⟨⟨hk1, hk1b⟩, hk2⟩ := hk
  have hsz : H.size = gn σ := hR.1.1
  have e1 : gn (sNw σ (c + 1) 0 w0) = gn σ + 1 := rfl
  have e2 : gw (sNw σ (c + 1) 0 w0) = gw σ + w0 := rfl
  rw [e1] at hk1 hk2
  rw [e2] at hk1b hk2
  rw [Nat.sub_add_comm hn, Nat.sub_add_comm hw] at hk2
  have hKn := hWd.1.1 c _ (gC_at hc)
  refine W.newcK hx hb hown (hts _ w) (hts _ w1) (hts _ w2) rfl d (by omega) (by omega) hKn.2.1 hsz (fun H' kC hkC e1 z oq => ?_)
  refine hk2 H' locs ls (gRep_new hR (Or.inl ⟨c, hc, rfl⟩) (by rw [z, hsz]) (fun q hq => oq q (by omega)) (fun c1 hc1 h => ?_) (fun t0 ht0 h => by omega)) ⟨Nat.le_trans hS.1 (by omega), fun q g1 g2 => (oq q (by have := hS.1; omega)).trans (hS.2.1 q g1 g2), hS.2.2⟩ hl
  have : c1 = c := by omega
  subst this
  rw [hsz]
  exact (u_born (gFy c1) hts (gC_in hc) hKn hkC e1 (gC_ty hc)).to (fun j hj => hdf j (by rw [← hw0]; exact hj))
