/-! fields and arrays -/
theorem g_field {G : gG} {σ : gS} {H : Heap} {s : State} {args : Array Value} (hR : gRep G σ H) (hWd : gWd G s) (hts : ∀ w ∈ gWS, w.before args s = true) {a c k : Nat} (hc : c < 13) (hk : k < (gC c).2.2) (hK : gK σ a = c + 1) :
    ∃ (cell : Cell) (cf : ClassId) (kf : Class) (fi : Nat) (f : Field), H[a]? = some cell ∧ cell.vm = .none ∧ s.fieldFound? ((gC c).2.1 k).1 ((gC c).2.1 k).2.1 ((gC c).2.1 k).2.2.1 = some (cf, kf, fi, f) ∧ f.isStatic = false ∧ cell.slots[f.slot]? = some (gFv σ c a k) := by
  obtain ⟨-, cell, q1, q2, q3, q4⟩ := hR.2.1 a c hc hK
  obtain ⟨hSl, hfc, kC, hkC, hkind⟩ := hWd.1.1 c _ (gC_at hc)
  obtain ⟨cf, kf, fi, f, hi, hsl⟩ := hSl k hk
  exact ⟨cell, cf, kf, fi, f, q1, q3, hi, (u_facts hfc hkC (u_lays hts (gC_in hc) hk) hi).1, by rw [hsl]; exact q4 k hk⟩

theorem k_getI {G : gG} {MT : Nat → gM} {l : Launch} {M : gM} {pc : Nat} {i : Nat} (c k : Nat) (hc : c < 13) (hk : k < (gC c).2.2) (ht : ∀ i j r, gVt (gFy c k) i j r = .int i) (d : decode M.2.1 pc = .ok (.getfield i, 3)) (w : Cond.fieldLink M.1.cls i ((gC c).2.1 k).1 ((gC c).2.1 k).2.1 ((gC c).2.1 k).2.2.1 ∈ gWS) : gOk G MT l M pc (o_getI c k) := by
  intro p e R s m args below meth c9 Q n0 w0 H locs ls L st σ x hc9 hn hw hR hS hl hL ho hk9
  obtain ⟨hx, hb, hml, hown, hts, hr, hlk, hWd, hnm, hfr, hlo⟩ := hc9
  unfold o_getI at ho
  split at ho
  · split at ho
    · next hK =>
      cases ho
      obtain ⟨hk1, hk2⟩ := hk9
      obtain ⟨cell, cf, kf, fi, f, g1, g2, g3, g4, g5⟩ := g_field hR hWd hts hc hk hK
      refine W.getf hx hb hown (hts _ w) g3 g4 g1 (by rw [g2]; exact fun h => by cases h) (v := .int (gI σ _ k)) ?_ rfl rfl d (hk2 H locs ls hR hS hl)
      rw [g5]
      simp only [gFv, ht]
    · cases ho
  · cases ho

theorem k_getJ {G : gG} {MT : Nat → gM} {l : Launch} {M : gM} {pc : Nat} {i : Nat} (c k : Nat) (hc : c < 13) (hk : k < (gC c).2.2) (ht : ∀ i j r, gVt (gFy c k) i j r = .long j) (d : decode M.2.1 pc = .ok (.getfield i, 3)) (w : Cond.fieldLink M.1.cls i ((gC c).2.1 k).1 ((gC c).2.1 k).2.1 ((gC c).2.1 k).2.2.1 ∈ gWS) : gOk G MT l M pc (o_getJ c k) := by
  intro p e R s m args below meth c9 Q n0 w0 H locs ls L st σ x hc9 hn hw hR hS hl hL ho hk9
  obtain ⟨hx, hb, hml, hown, hts, hr, hlk, hWd, hnm, hfr, hlo⟩ := hc9
  unfold o_getJ at ho
  split at ho
  · split at ho
    · next hK =>
      cases ho
      obtain ⟨hk1, hk2⟩ := hk9
      obtain ⟨cell, cf, kf, fi, f, g1, g2, g3, g4, g5⟩ := g_field hR hWd hts hc hk hK
      refine W.getf hx hb hown (hts _ w) g3 g4 g1 (by rw [g2]; exact fun h => by cases h) (v := .long (gJ σ _ k)) ?_ rfl rfl d (hk2 H locs ls hR hS hl)
      rw [g5]
      simp only [gFv, ht]
    · cases ho
  · cases ho

theorem k_getR {G : gG} {MT : Nat → gM} {l : Launch} {M : gM} {pc : Nat} {i : Nat} (c k : Nat) (hc : c < 13) (hk : k < (gC c).2.2) (ht : ∀ i j r, gVt (gFy c k) i j r = va_rf r) (d : decode M.2.1 pc = .ok (.getfield i, 3)) (w : Cond.fieldLink M.1.cls i ((gC c).2.1 k).1 ((gC c).2.1 k).2.1 ((gC c).2.1 k).2.2.1 ∈ gWS) : gOk G MT l M pc (o_getR c k) := by
  intro p e R s m args below meth c9 Q n0 w0 H locs ls L st σ x hc9 hn hw hR hS hl hL ho hk9
  obtain ⟨hx, hb, hml, hown, hts, hr, hlk, hWd, hnm, hfr, hlo⟩ := hc9
  unfold o_getR at ho
  split at ho
  · split at ho
    · next hK =>
      split at ho
      · next q hq =>
        cases ho
        obtain ⟨hk1, hk2⟩ := hk9
        obtain ⟨cell, cf, kf, fi, f, g1, g2, g3, g4, g5⟩ := g_field hR hWd hts hc hk hK
        refine W.getf hx hb hown (hts _ w) g3 g4 g1 (by rw [g2]; exact fun h => by cases h) (v := .ref q) ?_ rfl rfl d (hk2 H locs ls hR hS hl)
        rw [g5]
        simp only [gFv, ht, hq, va_rf]
      · cases ho
    · cases ho
  · cases ho

theorem k_sval {G : gG} {MT : Nat → gM} {l : Launch} {M : gM} {pc : Nat} {i : Nat} (d : decode M.2.1 pc = .ok (.getfield i, 3)) (w : Cond.fieldLink M.1.cls i "java/lang/String" "value" "[B" ∈ gWS) : gOk G MT l M pc o_sval := by
  intro p e R s m args below meth c Q n0 w0 H locs ls L st σ x hc hn hw hR hS hl hL ho hk
  obtain ⟨hx, hb, hml, hown, hts, hr, hlk, hWd, hnm, hfr, hlo⟩ := hc
  unfold o_sval at ho
  split at ho
  · next a t =>
    split at ho
    · next j hj =>
      cases ho
      obtain ⟨hk1, hk2⟩ := hk
      obtain ⟨h1, h2⟩ := gFs_at hj
      have e1 : a = gaK G j := h2.symm.trans (hR.2.2.2.2.2.1 j (by omega))
      rw [hR.2.2.2.2.2.2 j h1] at hk2
      subst e1
      exact vk_getf hx hb (hWd.2.2.1.1 j h1).2.2.1 hS hown (hts _ w) (fun _ h => h) d (hk2 H locs ls hR hS hl)
    · cases ho
  · cases ho

theorem k_scod {G : gG} {MT : Nat → gM} {l : Launch} {M : gM} {pc : Nat} {i : Nat} (d : decode M.2.1 pc = .ok (.getfield i, 3)) (w : Cond.fieldLink M.1.cls i "java/lang/String" "coder" "B" ∈ gWS) : gOk G MT l M pc o_scod := by
  intro p e R s m args below meth c Q n0 w0 H locs ls L st σ x hc hn hw hR hS hl hL ho hk
  obtain ⟨hx, hb, hml, hown, hts, hr, hlk, hWd, hnm, hfr, hlo⟩ := hc
  unfold o_scod at ho
  split at ho
  · next a t =>
    split at ho
    · next j hj =>
      cases ho
      obtain ⟨hk1, hk2⟩ := hk
      obtain ⟨h1, h2⟩ := gFs_at hj
      have e1 : a = gaK G j := h2.symm.trans (hR.2.2.2.2.2.1 j (by omega))
      subst e1
      exact vk_getf hx hb (hWd.2.2.1.1 j h1).2.1 hS hown (hts _ w) (fun _ h => h) d (hk2 H locs ls hR hS hl)
    · cases ho
  · cases ho

theorem g_put {G : gG} {σ σ' : gS} {H H' : Heap} {s : State} {args : Array Value} (hR : gRep G σ H) (hWd : gWd G s) (hts : ∀ w ∈ gWS, w.before args s = true) {a c k : Nat} (hc : c < 13) (hk : k < (gC c).2.2) (hK : gK σ a = c + 1) {cell : Cell} {v : Value} (hcell : H[a]? = some cell)
    {cf : ClassId} {kf : Class} {fi : Nat} {f : Field} (hi : s.fieldFound? ((gC c).2.1 k).1 ((gC c).2.1 k).2.1 ((gC c).2.1 k).2.2.1 = some (cf, kf, fi, f)) (e1 : H'[a]? = some (cell.setSlot f.slot v)) (z : H'.size = H.size) (oq : ∀ q, q ≠ a → H'[q]? = H[q]?)
    (eK : gK σ' = gK σ) (eN : gN σ' = gN σ) (en : gn σ' = gn σ) (eT : gT σ' = gT σ)
    (eI : ∀ b k, b ≠ a → gI σ' b k = gI σ b k) (eJ : ∀ b k, b ≠ a → gJ σ' b k = gJ σ b k) (eR : ∀ b k, b ≠ a → gR σ' b k = gR σ b k) (hv : gFv σ' c a k = v) (ho : ∀ j, j ≠ k → gFv σ' c a j = gFv σ c a j) : gRep G σ' H' := by
  have hap := va_apart (own := (gC c).1) hts (gC_in hc) (gFy c) (gC_ty hc) (gC_nm hc) hWd.1 (gC_at hc)
  refine gRep_upd hR a (Or.inl ⟨c, hc, hK⟩) eK eN en eT eI eJ eR z oq ?_ (fun t ht h => by omega)
  intro c1 hc1 h1
  have : c1 = c := by omega
  subst this
  obtain ⟨-, cell1, q1, q2, q3, q4⟩ := hR.2.1 a c1 hc hK
  cases hcell.symm.trans q1
  obtain ⟨hSl, hfc, kC, hkC, hkind⟩ := hWd.1.1 c1 _ (gC_at hc)
  obtain ⟨cf1, kf1, fi1, f1, hi1, hsl⟩ := hSl k hk
  cases hi.symm.trans hi1
  rw [hsl] at e1
  refine t_OB.to (V := updV (gFv σ c1 a) k v) ⟨_, e1, q2, q3, t_set q4 hap hk v⟩ (fun j _ => ?_)
  by_cases hj : j = k
  · subst hj
    simp [updV, hv]
  · simp [updV, hj, ho j hj]

theorem k_putI {G : gG} {MT : Nat → gM} {l : Launch} {M : gM} {pc : Nat} {i : Nat} (c k : Nat) (hc : c < 13) (hk : k < (gC c).2.2) (ht : ∀ i j r, gVt (gFy c k) i j r = .int i) (hft : ∀ x, narrow (gFy c k) (.int x) = (.int x) ∧ fits (gFy c k) (.int x) = true) (hfin : ((gC c).2.1 k).2.2.2 = false) (d : decode M.2.1 pc = .ok (.putfield i, 3)) (w : Cond.fieldLink M.1.cls i ((gC c).2.1 k).1 ((gC c).2.1 k).2.1 ((gC c).2.1 k).2.2.1 ∈ gWS) : gOk G MT l M pc (o_putI c k) := by
  intro p e R s m args below meth c9 Q n0 w0 H locs ls L st σ x hc9 hn hw hR hS hl hL ho hk9
  obtain ⟨hx, hb, hml, hown, hts, hr, hlk, hWd, hnm, hfr, hlo⟩ := hc9
  unfold o_putI at ho
  split at ho
  · next x a t =>
    split at ho
    · next hKK =>
      cases ho
      obtain ⟨hk1, hk2⟩ := hk9
      have hK := hKK
      obtain ⟨cell, cf, kf, fi, f, g1, g2, g3, g4, g5⟩ := g_field hR hWd hts hc hk hK
      obtain ⟨hft1, hft2⟩ := hft x
      obtain ⟨-, cell1, q1, q2, q3, q4⟩ := hR.2.1 a c hc hK
      cases g1.symm.trans q1
      obtain ⟨hSl, hfc, kC, hkC, hkind⟩ := hWd.1.1 c _ (gC_at hc)
      have hlay := hts _ (gC_in hc _ (u_in_lay hk))
      unfold u_lay at hlay
      rw [if_neg (by rw [hfin]; decide)] at hlay
      refine W.putK hx hb (f := f) ⟨hown, hts _ w, ⟨_, _, _, g3⟩, g4⟩ (by rw [q2]; exact u_store hfc hkC hkind hlay g3 (gC_ty hc k hk) hft1 hft2) g1 g2 (k2_hasslot g5) rfl rfl d (fun H' e1 z oq => ?_)
      refine hk2 H' _ ls ?_ (hS.put z oq (hR.2.1 a c hc hK).1) hl
      refine g_put hR hWd hts hc hk hK g1 g3 e1 z oq rfl rfl rfl rfl (fun b j hb => by simp [gI, sI, gU, hb]) (fun b j hb => by simp [gJ, sI, gU, hb]) (fun b j hb => by simp [gR, sI, gU, hb]) ?_ (fun j hj => by simp [gFv, gI, gJ, gR, sI, gU, hj])
      simp only [gFv, ht]
      simp [gI, gJ, gR, sI, gU, va_rf]
    · cases ho
  · cases ho

theorem k_putIF {G : gG} {MT : Nat → gM} {l : Launch} {M : gM} {pc : Nat} {i : Nat} (c k : Nat) (hc : c < 13) (hk : k < (gC c).2.2) (ht : ∀ i j r, gVt (gFy c k) i j r = .int i) (hft : ∀ x, narrow (gFy c k) (.int x) = (.int x) ∧ fits (gFy c k) (.int x) = true) (hfin : ((gC c).2.1 k).2.2.2 = true) (hini : M.1.name = "<init>") (hdc : ((gC c).2.1 k).1 = M.1.cls) (d : decode M.2.1 pc = .ok (.putfield i, 3)) (w : Cond.fieldLink M.1.cls i ((gC c).2.1 k).1 ((gC c).2.1 k).2.1 ((gC c).2.1 k).2.2.1 ∈ gWS) : gOk G MT l M pc (o_putI c k) := by
  intro p e R s m args below meth c9 Q n0 w0 H locs ls L st σ x hc9 hn hw hR hS hl hL ho hk9
  obtain ⟨hx, hb, hml, hown, hts, hr, hlk, hWd, hnm, hfr, hlo⟩ := hc9
  unfold o_putI at ho
  split at ho
  · next x a t =>
    split at ho
    · next hKK =>
      cases ho
      obtain ⟨hk1, hk2⟩ := hk9
      have hK := hKK
      obtain ⟨cell, cf, kf, fi, f, g1, g2, g3, g4, g5⟩ := g_field hR hWd hts hc hk hK
      obtain ⟨hft1, hft2⟩ := hft x
      obtain ⟨-, cell1, q1, q2, q3, q4⟩ := hR.2.1 a c hc hK
      cases g1.symm.trans q1
      obtain ⟨hSl, hfc, kC, hkC, hkind⟩ := hWd.1.1 c _ (gC_at hc)
      have hlay := hts _ (gC_in hc _ (u_in_lay hk))
      unfold u_lay at hlay
      rw [if_pos hfin] at hlay
      have hcf : m.cls = cf := by
        obtain ⟨_, _, c', _, _, _, -, -, hf', -, -, -, hown2, -⟩ := Cond.laysFinal_spec hlay
        have e1 : c' = cf := by have := g3.symm.trans hf'; simp at this; exact this.1.symm
        rw [hdc] at hown2
        rw [← e1]; exact Option.some.inj (hown.symm.trans hown2)
      refine W.putFinK hx hb hown (hts _ w) g3 g4 hcf (hnm.trans hini) (by rw [q2]; exact u_fits hfc hkC hkind (Or.inr hlay) g3 (gC_ty hc k hk) hft1 hft2) g1 g2 (k2_hasslot g5) rfl rfl d (fun H' e1 z oq => ?_)
      refine hk2 H' _ ls ?_ (hS.put z oq (hR.2.1 a c hc hK).1) hl
      refine g_put hR hWd hts hc hk hK g1 g3 e1 z oq rfl rfl rfl rfl (fun b j hb => by simp [gI, sI, gU, hb]) (fun b j hb => by simp [gJ, sI, gU, hb]) (fun b j hb => by simp [gR, sI, gU, hb]) ?_ (fun j hj => by simp [gFv, gI, gJ, gR, sI, gU, hj])
      simp only [gFv, ht]
      simp [gI, gJ, gR, sI, gU, va_rf]
    · cases ho
  · cases ho

theorem k_putZ {G : gG} {MT : Nat → gM} {l : Launch} {M : gM} {pc : Nat} {i : Nat} (c k : Nat) (hc : c < 13) (hk : k < (gC c).2.2) (ht : ∀ i j r, gVt (gFy c k) i j r = .int i) (hft : ∀ (x : Int32), (x = 0 ∨ x = 1) → narrow (gFy c k) (.int x) = (.int x) ∧ fits (gFy c k) (.int x) = true) (hfin : ((gC c).2.1 k).2.2.2 = false) (d : decode M.2.1 pc = .ok (.putfield i, 3)) (w : Cond.fieldLink M.1.cls i ((gC c).2.1 k).1 ((gC c).2.1 k).2.1 ((gC c).2.1 k).2.2.1 ∈ gWS) : gOk G MT l M pc (o_putZ c k) := by
  intro p e R s m args below meth c9 Q n0 w0 H locs ls L st σ x hc9 hn hw hR hS hl hL ho hk9
  obtain ⟨hx, hb, hml, hown, hts, hr, hlk, hWd, hnm, hfr, hlo⟩ := hc9
  unfold o_putZ at ho
  split at ho
  · next x a t =>
    split at ho
    · next hKK =>
      cases ho
      obtain ⟨hk1, hk2⟩ := hk9
      have hK := hKK.1
      obtain ⟨cell, cf, kf, fi, f, g1, g2, g3, g4, g5⟩ := g_field hR hWd hts hc hk hK
      obtain ⟨hft1, hft2⟩ := hft x hKK.2
      obtain ⟨-, cell1, q1, q2, q3, q4⟩ := hR.2.1 a c hc hK
      cases g1.symm.trans q1
      obtain ⟨hSl, hfc, kC, hkC, hkind⟩ := hWd.1.1 c _ (gC_at hc)
      have hlay := hts _ (gC_in hc _ (u_in_lay hk))
      unfold u_lay at hlay
      rw [if_neg (by rw [hfin]; decide)] at hlay
      refine W.putK hx hb (f := f) ⟨hown, hts _ w, ⟨_, _, _, g3⟩, g4⟩ (by rw [q2]; exact u_store hfc hkC hkind hlay g3 (gC_ty hc k hk) hft1 hft2) g1 g2 (k2_hasslot g5) rfl rfl d (fun H' e1 z oq => ?_)
      refine hk2 H' _ ls ?_ (hS.put z oq (hR.2.1 a c hc hK).1) hl
      refine g_put hR hWd hts hc hk hK g1 g3 e1 z oq rfl rfl rfl rfl (fun b j hb => by simp [gI, sI, gU, hb]) (fun b j hb => by simp [gJ, sI, gU, hb]) (fun b j hb => by simp [gR, sI, gU, hb]) ?_ (fun j hj => by simp [gFv, gI, gJ, gR, sI, gU, hj])
      simp only [gFv, ht]
      simp [gI, gJ, gR, sI, gU, va_rf]
    · cases ho
  · cases ho

theorem k_putZF {G : gG} {MT : Nat → gM} {l : Launch} {M : gM} {pc : Nat} {i : Nat} (c k : Nat) (hc : c < 13) (hk : k < (gC c).2.2) (ht : ∀ i j r, gVt (gFy c k) i j r = .int i) (hft : ∀ (x : Int32), (x = 0 ∨ x = 1) → narrow (gFy c k) (.int x) = (.int x) ∧ fits (gFy c k) (.int x) = true) (hfin : ((gC c).2.1 k).2.2.2 = true) (hini : M.1.name = "<init>") (hdc : ((gC c).2.1 k).1 = M.1.cls) (d : decode M.2.1 pc = .ok (.putfield i, 3)) (w : Cond.fieldLink M.1.cls i ((gC c).2.1 k).1 ((gC c).2.1 k).2.1 ((gC c).2.1 k).2.2.1 ∈ gWS) : gOk G MT l M pc (o_putZ c k) := by
  intro p e R s m args below meth c9 Q n0 w0 H locs ls L st σ x hc9 hn hw hR hS hl hL ho hk9
  obtain ⟨hx, hb, hml, hown, hts, hr, hlk, hWd, hnm, hfr, hlo⟩ := hc9
  unfold o_putZ at ho
  split at ho
  · next x a t =>
    split at ho
    · next hKK =>
      cases ho
      obtain ⟨hk1, hk2⟩ := hk9
      have hK := hKK.1
      obtain ⟨cell, cf, kf, fi, f, g1, g2, g3, g4, g5⟩ := g_field hR hWd hts hc hk hK
      obtain ⟨hft1, hft2⟩ := hft x hKK.2
      obtain ⟨-, cell1, q1, q2, q3, q4⟩ := hR.2.1 a c hc hK
      cases g1.symm.trans q1
      obtain ⟨hSl, hfc, kC, hkC, hkind⟩ := hWd.1.1 c _ (gC_at hc)
      have hlay := hts _ (gC_in hc _ (u_in_lay hk))
      unfold u_lay at hlay
      rw [if_pos hfin] at hlay
      have hcf : m.cls = cf := by
        obtain ⟨_, _, c', _, _, _, -, -, hf', -, -, -, hown2, -⟩ := Cond.laysFinal_spec hlay
        have e1 : c' = cf := by have := g3.symm.trans hf'; simp at this; exact this.1.symm
        rw [hdc] at hown2
        rw [← e1]; exact Option.some.inj (hown.symm.trans hown2)
      refine W.putFinK hx hb hown (hts _ w) g3 g4 hcf (hnm.trans hini) (by rw [q2]; exact u_fits hfc hkC hkind (Or.inr hlay) g3 (gC_ty hc k hk) hft1 hft2) g1 g2 (k2_hasslot g5) rfl rfl d (fun H' e1 z oq => ?_)
      refine hk2 H' _ ls ?_ (hS.put z oq (hR.2.1 a c hc hK).1) hl
      refine g_put hR hWd hts hc hk hK g1 g3 e1 z oq rfl rfl rfl rfl (fun b j hb => by simp [gI, sI, gU, hb]) (fun b j hb => by simp [gJ, sI, gU, hb]) (fun b j hb => by simp [gR, sI, gU, hb]) ?_ (fun j hj => by simp [gFv, gI, gJ, gR, sI, gU, hj])
      simp only [gFv, ht]
      simp [gI, gJ, gR, sI, gU, va_rf]
    · cases ho
  · cases ho

theorem k_putJ {G : gG} {MT : Nat → gM} {l : Launch} {M : gM} {pc : Nat} {i : Nat} (c k : Nat) (hc : c < 13) (hk : k < (gC c).2.2) (ht : ∀ i j r, gVt (gFy c k) i j r = .long j) (hft : ∀ x, narrow (gFy c k) (.long x) = (.long x) ∧ fits (gFy c k) (.long x) = true) (hfin : ((gC c).2.1 k).2.2.2 = false) (d : decode M.2.1 pc = .ok (.putfield i, 3)) (w : Cond.fieldLink M.1.cls i ((gC c).2.1 k).1 ((gC c).2.1 k).2.1 ((gC c).2.1 k).2.2.1 ∈ gWS) : gOk G MT l M pc (o_putJ c k) := by
  intro p e R s m args below meth c9 Q n0 w0 H locs ls L st σ x hc9 hn hw hR hS hl hL ho hk9
  obtain ⟨hx, hb, hml, hown, hts, hr, hlk, hWd, hnm, hfr, hlo⟩ := hc9
  unfold o_putJ at ho
  split at ho
  · next x a t =>
    split at ho
    · next hKK =>
      cases ho
      obtain ⟨hk1, hk2⟩ := hk9
      have hK := hKK
      obtain ⟨cell, cf, kf, fi, f, g1, g2, g3, g4, g5⟩ := g_field hR hWd hts hc hk hK
      obtain ⟨hft1, hft2⟩ := hft x
      obtain ⟨-, cell1, q1, q2, q3, q4⟩ := hR.2.1 a c hc hK
      cases g1.symm.trans q1
      obtain ⟨hSl, hfc, kC, hkC, hkind⟩ := hWd.1.1 c _ (gC_at hc)
      have hlay := hts _ (gC_in hc _ (u_in_lay hk))
      unfold u_lay at hlay
      rw [if_neg (by rw [hfin]; decide)] at hlay
      refine W.putK hx hb (f := f) ⟨hown, hts _ w, ⟨_, _, _, g3⟩, g4⟩ (by rw [q2]; exact u_store hfc hkC hkind hlay g3 (gC_ty hc k hk) hft1 hft2) g1 g2 (k2_hasslot g5) rfl rfl d (fun H' e1 z oq => ?_)
      refine hk2 H' _ ls ?_ (hS.put z oq (hR.2.1 a c hc hK).1) hl
      refine g_put hR hWd hts hc hk hK g1 g3 e1 z oq rfl rfl rfl rfl (fun b j hb => by simp [gI, sJ, gU, hb]) (fun b j hb => by simp [gJ, sJ, gU, hb]) (fun b j hb => by simp [gR, sJ, gU, hb]) ?_ (fun j hj => by simp [gFv, gI, gJ, gR, sJ, gU, hj])
      simp only [gFv, ht]
      simp [gI, gJ, gR, sJ, gU, va_rf]
    · cases ho
  · cases ho

theorem k_putJF {G : gG} {MT : Nat → gM} {l : Launch} {M : gM} {pc : Nat} {i : Nat} (c k : Nat) (hc : c < 13) (hk : k < (gC c).2.2) (ht : ∀ i j r, gVt (gFy c k) i j r = .long j) (hft : ∀ x, narrow (gFy c k) (.long x) = (.long x) ∧ fits (gFy c k) (.long x) = true) (hfin : ((gC c).2.1 k).2.2.2 = true) (hini : M.1.name = "<init>") (hdc : ((gC c).2.1 k).1 = M.1.cls) (d : decode M.2.1 pc = .ok (.putfield i, 3)) (w : Cond.fieldLink M.1.cls i ((gC c).2.1 k).1 ((gC c).2.1 k).2.1 ((gC c).2.1 k).2.2.1 ∈ gWS) : gOk G MT l M pc (o_putJ c k) := by
  intro p e R s m args below meth c9 Q n0 w0 H locs ls L st σ x hc9 hn hw hR hS hl hL ho hk9
  obtain ⟨hx, hb, hml, hown, hts, hr, hlk, hWd, hnm, hfr, hlo⟩ := hc9
  unfold o_putJ at ho
  split at ho
  · next x a t =>
    split at ho
    · next hKK =>
      cases ho
      obtain ⟨hk1, hk2⟩ := hk9
      have hK := hKK
      obtain ⟨cell, cf, kf, fi, f, g1, g2, g3, g4, g5⟩ := g_field hR hWd hts hc hk hK
      obtain ⟨hft1, hft2⟩ := hft x
      obtain ⟨-, cell1, q1, q2, q3, q4⟩ := hR.2.1 a c hc hK
      cases g1.symm.trans q1
      obtain ⟨hSl, hfc, kC, hkC, hkind⟩ := hWd.1.1 c _ (gC_at hc)
      have hlay := hts _ (gC_in hc _ (u_in_lay hk))
      unfold u_lay at hlay
      rw [if_pos hfin] at hlay
      have hcf : m.cls = cf := by
        obtain ⟨_, _, c', _, _, _, -, -, hf', -, -, -, hown2, -⟩ := Cond.laysFinal_spec hlay
        have e1 : c' = cf := by have := g3.symm.trans hf'; simp at this; exact this.1.symm
        rw [hdc] at hown2
        rw [← e1]; exact Option.some.inj (hown.symm.trans hown2)
      refine W.putFinK hx hb hown (hts _ w) g3 g4 hcf (hnm.trans hini) (by rw [q2]; exact u_fits hfc hkC hkind (Or.inr hlay) g3 (gC_ty hc k hk) hft1 hft2) g1 g2 (k2_hasslot g5) rfl rfl d (fun H' e1 z oq => ?_)
      refine hk2 H' _ ls ?_ (hS.put z oq (hR.2.1 a c hc hK).1) hl
      refine g_put hR hWd hts hc hk hK g1 g3 e1 z oq rfl rfl rfl rfl (fun b j hb => by simp [gI, sJ, gU, hb]) (fun b j hb => by simp [gJ, sJ, gU, hb]) (fun b j hb => by simp [gR, sJ, gU, hb]) ?_ (fun j hj => by simp [gFv, gI, gJ, gR, sJ, gU, hj])
      simp only [gFv, ht]
      simp [gI, gJ, gR, sJ, gU, va_rf]
    · cases ho
  · cases ho

theorem k_putR {G : gG} {MT : Nat → gM} {l : Launch} {M : gM} {pc : Nat} {i : Nat} (c k : Nat) (hc : c < 13) (hk : k < (gC c).2.2) (ht : ∀ i j r, gVt (gFy c k) i j r = va_rf r) (hft : ∀ x, narrow (gFy c k) (.ref x) = (.ref x) ∧ fits (gFy c k) (.ref x) = true) (hfin : ((gC c).2.1 k).2.2.2 = false) (d : decode M.2.1 pc = .ok (.putfield i, 3)) (w : Cond.fieldLink M.1.cls i ((gC c).2.1 k).1 ((gC c).2.1 k).2.1 ((gC c).2.1 k).2.2.1 ∈ gWS) : gOk G MT l M pc (o_putR c k) := by
  intro p e R s m args below meth c9 Q n0 w0 H locs ls L st σ x hc9 hn hw hR hS hl hL ho hk9
  obtain ⟨hx, hb, hml, hown, hts, hr, hlk, hWd, hnm, hfr, hlo⟩ := hc9
  unfold o_putR at ho
  split at ho
  · next x a t =>
    split at ho
    · next hKK =>
      cases ho
      obtain ⟨hk1, hk2⟩ := hk9
      have hK := hKK
      obtain ⟨cell, cf, kf, fi, f, g1, g2, g3, g4, g5⟩ := g_field hR hWd hts hc hk hK
      obtain ⟨hft1, hft2⟩ := hft x
      obtain ⟨-, cell1, q1, q2, q3, q4⟩ := hR.2.1 a c hc hK
      cases g1.symm.trans q1
      obtain ⟨hSl, hfc, kC, hkC, hkind⟩ := hWd.1.1 c _ (gC_at hc)
      have hlay := hts _ (gC_in hc _ (u_in_lay hk))
      unfold u_lay at hlay
      rw [if_neg (by rw [hfin]; decide)] at hlay
      refine W.putK hx hb (f := f) ⟨hown, hts _ w, ⟨_, _, _, g3⟩, g4⟩ (by rw [q2]; exact u_store hfc hkC hkind hlay g3 (gC_ty hc k hk) hft1 hft2) g1 g2 (k2_hasslot g5) rfl rfl d (fun H' e1 z oq => ?_)
      refine hk2 H' _ ls ?_ (hS.put z oq (hR.2.1 a c hc hK).1) hl
      refine g_put hR hWd hts hc hk hK g1 g3 e1 z oq rfl rfl rfl rfl (fun b j hb => by simp [gI, sR, gU, hb]) (fun b j hb => by simp [gJ, sR, gU, hb]) (fun b j hb => by simp [gR, sR, gU, hb]) ?_ (fun j hj => by simp [gFv, gI, gJ, gR, sR, gU, hj])
      simp only [gFv, ht]
      simp [gI, gJ, gR, sR, gU, va_rf]
    · cases ho
  · cases ho

theorem k_putRF {G : gG} {MT : Nat → gM} {l : Launch} {M : gM} {pc : Nat} {i : Nat} (c k : Nat) (hc : c < 13) (hk : k < (gC c).2.2) (ht : ∀ i j r, gVt (gFy c k) i j r = va_rf r) (hft : ∀ x, narrow (gFy c k) (.ref x) = (.ref x) ∧ fits (gFy c k) (.ref x) = true) (hfin : ((gC c).2.1 k).2.2.2 = true) (hini : M.1.name = "<init>") (hdc : ((gC c).2.1 k).1 = M.1.cls) (d : decode M.2.1 pc = .ok (.putfield i, 3)) (w : Cond.fieldLink M.1.cls i ((gC c).2.1 k).1 ((gC c).2.1 k).2.1 ((gC c).2.1 k).2.2.1 ∈ gWS) : gOk G MT l M pc (o_putR c k) := by
  intro p e R s m args below meth c9 Q n0 w0 H locs ls L st σ x hc9 hn hw hR hS hl hL ho hk9
  obtain ⟨hx, hb, hml, hown, hts, hr, hlk, hWd, hnm, hfr, hlo⟩ := hc9
  unfold o_putR at ho
  split at ho
  · next x a t =>
    split at ho
    · next hKK =>
      cases ho
      obtain ⟨hk1, hk2⟩ := hk9
      have hK := hKK
      obtain ⟨cell, cf, kf, fi, f, g1, g2, g3, g4, g5⟩ := g_field hR hWd hts hc hk hK
      obtain ⟨hft1, hft2⟩ := hft x
      obtain ⟨-, cell1, q1, q2, q3, q4⟩ := hR.2.1 a c hc hK
      cases g1.symm.trans q1
      obtain ⟨hSl, hfc, kC, hkC, hkind⟩ := hWd.1.1 c _ (gC_at hc)
      have hlay := hts _ (gC_in hc _ (u_in_lay hk))
      unfold u_lay at hlay
      rw [if_pos hfin] at hlay
      have hcf : m.cls = cf := by
        obtain ⟨_, _, c', _, _, _, -, -, hf', -, -, -, hown2, -⟩ := Cond.laysFinal_spec hlay
        have e1 : c' = cf := by have := g3.symm.trans hf'; simp at this; exact this.1.symm
        rw [hdc] at hown2
        rw [← e1]; exact Option.some.inj (hown.symm.trans hown2)
      refine W.putFinK hx hb hown (hts _ w) g3 g4 hcf (hnm.trans hini) (by rw [q2]; exact u_fits hfc hkC hkind (Or.inr hlay) g3 (gC_ty hc k hk) hft1 hft2) g1 g2 (k2_hasslot g5) rfl rfl d (fun H' e1 z oq => ?_)
      refine hk2 H' _ ls ?_ (hS.put z oq (hR.2.1 a c hc hK).1) hl
      refine g_put hR hWd hts hc hk hK g1 g3 e1 z oq rfl rfl rfl rfl (fun b j hb => by simp [gI, sR, gU, hb]) (fun b j hb => by simp [gJ, sR, gU, hb]) (fun b j hb => by simp [gR, sR, gU, hb]) ?_ (fun j hj => by simp [gFv, gI, gJ, gR, sR, gU, hj])
      simp only [gFv, ht]
      simp [gI, gJ, gR, sR, gU, va_rf]
    · cases ho
  · cases ho
