/-! a new law changes no cache -/
theorem cn_c {C C' : Nat → Bool} : ∀ m i, (∀ j, i ≤ j → j < i + m → C' j = C j) → cn C' m i = cn C m i := by
  intro m
  induction m with
  | zero => intro i _; rfl
  | succ m ih =>
    intro i h
    simp only [cn]
    rw [h i (by omega) (by omega), ih (i + 1) (fun j h1 h2 => h j (by omega) (by omega))]
theorem fo_c {C C' : Nat → Bool} : ∀ m i, (∀ j, i ≤ j → j < i + m → C' j = C j) → fo C' m i = fo C m i := by
  intro m
  induction m with
  | zero => intro i _; rfl
  | succ m ih =>
    intro i h
    simp only [fo]
    rw [h i (by omega) (by omega), ih (i + 1) (fun j h1 h2 => h j (by omega) (by omega))]
/-- all but the laws that are not in force -/
def Sml (A A' : Nat → Int32) : Prop := (∀ j, j < 254 → A' j = A j) ∧ A' 255 = A 255 ∧ lawL A' = lawL A
section
variable {A A' : Nat → Int32}
theorem sl_hn (h : Sml A A') : hn A' = hn A := hn_c (h.1 250 (by omega))
theorem sl_St (h : Sml A A') {a : Nat} (ha : a < 12) : St A' a = St A a := by simp only [St, h.1 _ (show 6 * a + 5 < 254 by omega)]
theorem sl_Dr (h : Sml A A') {a b : Nat} (ha : a < 12) (hb : b < 12) : Dr A' a b = Dr A a b := by simp only [Dr, h.1 _ (show 72 + 12 * a + b < 254 by omega)]
theorem sl_an (h : Sml A A') {k : Nat} (hk : k < 254) : an A' k = an A k := an_c (h.1 k hk)
theorem sl_tch (h : Sml A A') {a b : Nat} (ha : a < 12) (hb : b < 12) : tch A' a b = tch A a b := by
  simp only [tch, tcA, sl_an h (show 6 * a < 254 by omega), sl_an h (show 6 * a + 1 < 254 by omega), sl_an h (show 6 * a + 2 < 254 by omega), sl_an h (show 6 * a + 3 < 254 by omega), sl_an h (show 6 * b < 254 by omega), sl_an h (show 6 * b + 1 < 254 by omega), sl_an h (show 6 * b + 2 < 254 by omega), sl_an h (show 6 * b + 3 < 254 by omega)]
theorem sl_wdF (h : Sml A A') {a b : Nat} {dr dy : Int32} (ha : a < 12) (hb : b < 12) : wdF A' a b dr dy = wdF A a b dr dy := by
  funext j
  simp only [wdF, h.1 _ (show 6 * a + 4 < 254 by omega), h.1 _ (show 6 * b + 4 < 254 by omega), h.1 _ (show 6 * a + 2 < 254 by omega), h.1 _ (show 6 * a + 3 < 254 by omega), h.1 _ (show 6 * b + 2 < 254 by omega), h.1 _ (show 6 * b + 3 < 254 by omega), h.1 248 (by omega)]
theorem sl_brd (h : Sml A A') {a b : Nat} {dr dy : Int32} (ha : a < 12) (hb : b < 12) : brd A' a b dr dy = brd A a b dr dy := by
  simp only [brd, h.2.2, sl_wdF h ha hb]
theorem sl_tks (h : Sml A A') {a b : Nat} {dr dy : Int32} (ha : a < 12) (hb : b < 12) : tks A' a b dr dy = tks A a b dr dy := by
  simp only [tks, h.2.2, sl_wdF h ha hb]
theorem sl_opB (h : Sml A A') {a b : Nat} {dy : Int32} (ha : a < 12) (hb : b < 12) : opB A' dy a b = opB A dy a b := by
  simp only [opB, sl_hn h, sl_St h ha, sl_St h hb, sl_Dr h ha hb, sl_tch h ha hb, sl_brd h ha hb, h.1 _ (show 72 + 12 * a + b < 254 by omega)]
theorem sl_wdB (h : Sml A A') {a b : Nat} {dy : Int32} (ha : a < 12) (hb : b < 12) : wdB A' dy a b = wdB A dy a b := by
  simp only [wdB, sl_hn h, sl_St h ha, sl_St h hb, sl_brd h ha hb]
theorem sl_opn (h : Sml A A') (h12 : hn A ≤ 12) (dy : Int32) : opn A' dy = opn A dy := by
  funext a
  by_cases c : a < hn A
  · rw [opn, opn, sl_hn h]
    exact mk_c (fun j hj => sl_opB h (by omega) (by omega))
  · rw [opn_0 (by rw [sl_hn h]; omega), opn_0 (by omega)]
theorem sl_wdn (h : Sml A A') (h12 : hn A ≤ 12) (dy : Int32) : wdn A' dy = wdn A dy := by
  funext a
  by_cases c : a < hn A
  · rw [wdn, wdn, sl_hn h]
    exact mk_c (fun j hj => sl_wdB h (by omega) (by omega))
  · rw [wdn_0 (by rw [sl_hn h]; omega), wdn_0 (by omega)]
theorem sl_mkS (h : Sml A A') (h12 : hn A ≤ 12) : mkN (St A') (hn A') = mkN (St A) (hn A) := by
  rw [sl_hn h]
  exact mk_c (fun j hj => sl_St h (by omega))
theorem sl_mM (h : Sml A A') (h12 : hn A ≤ 12) : mM A' = mM A := by
  funext a b
  have e1 : eM A' a b = eM A a b := by simp only [eM, h.1 249 (by omega), sl_opn h h12]
  have e2 : sM A' a = sM A a := by simp only [sM, sl_mkS h h12]
  have e3 : m0 A' a b = m0 A a b := by
    rw [m0, m0, e1]
    by_cases c : eM A a b = true
    · have := eM_h c
      rw [if_pos c, if_pos c, wM, wM, h.1 249 (by omega), h.1 _ (show 72 + 12 * a + b < 254 by omega), sl_tks h (by omega) (by omega)]
    · rw [if_neg c, if_neg c]
  rw [mM, mM, e2, e3]
theorem sl_dM (h : Sml A A') (h12 : hn A ≤ 12) : dM A' = dM A := by
  funext a b
  rw [dM, dM, sl_mM h h12]
theorem sl_lr (h : Sml A A') (h12 : hn A ≤ 12) (hm td a : Nat) : lrA A' hm td a = lrA A hm td a := by
  rw [lrA, lrA, sl_dM h h12, sl_hn h]
theorem sl_RdK (h : Sml A A') (h12 : hn A ≤ 12) (x b : Nat) : RdK A' x b ↔ RdK A x b := by
  rw [RdK, RdK, sl_lr h h12, sl_hn h]
  constructor
  · rintro ⟨a1, a2, a3, a4, a5⟩
    exact ⟨a1, a2, a3, by rw [← sl_St h (by omega)]; exact a4, a5⟩
  · rintro ⟨a1, a2, a3, a4, a5⟩
    exact ⟨a1, a2, a3, by rw [sl_St h (by omega)]; exact a4, a5⟩
theorem sl_RdR (h : Sml A A') (h12 : hn A ≤ 12) {hm bt can tk sz : Int32} {od : Nat → Int32} (w : RdR A hm bt can tk sz od) : RdR A' hm bt can tk sz od := by
  rcases w with ⟨w1, w2⟩ | ⟨w1, x, b, s, w2, w3, w4, w5, w6, w7, w8⟩
  · exact Or.inl ⟨w1, fun x b e1 e2 r => w2 x b e1 e2 ((sl_RdK h h12 x b).mp r)⟩
  · refine Or.inr ⟨w1, x, b, s, w2, w3, (sl_RdK h h12 x b).mpr w4, w5, w6, by rw [sl_lr h h12]; exact w7, ?_⟩
    rw [sl_dM h h12, sl_hn h]
    exact w8
theorem sl_cmB (h : Sml A A') {E : Nat → Nat} {f t wo : Nat} (hf : f < 12) : cmB A' E f t wo = cmB A E f t wo := by
  simp only [cmB, sl_St h hf, sl_hn h]
theorem sl_wsL (h : Sml A A') (h12 : hn A ≤ 12) {E : Nat → Nat} {o : Nat} {v : Bool} : ∀ k, (∀ j, j < k → o + 2 * j + 1 < 254 ∧ an A (o + 2 * j) < hn A) → wsL A' E o v k = wsL A E o v k := by
  intro k
  induction k with
  | zero => intro _; rfl
  | succ k ih =>
    intro hk
    have := hk k (by omega)
    simp only [wsL]
    rw [ih (fun j hj => hk j (by omega)), sl_an h (show o + 2 * k < 254 by omega), sl_an h (show o + 1 + 2 * k < 254 by omega), sl_cmB h (by omega)]
theorem sl_wsB (h : Sml A A') (h12 : hn A ≤ 12) (wp : Wp A) {E : Nat → Nat} : wsB A' E = wsB A E := by
  obtain ⟨w1, w2, w3, w4, w5, w6⟩ := wp
  have q1 := (an_le w1 (by omega)).1
  have q2 := (an_le w2 (by omega)).1
  simp only [wsB, sl_an h (show 251 < 254 by omega), sl_an h (show 252 < 254 by omega)]
  rw [sl_wsL h h12 (an A 251), sl_wsL h h12 (an A 252)]
  · intro j hj
    obtain ⟨f, t, u1, u2, u3, u4⟩ := w5 j hj
    exact ⟨by omega, by rw [an_v u1 (by omega)]; exact u3⟩
  · intro j hj
    obtain ⟨f, t, u1, u2, u3, u4⟩ := w4 j hj
    exact ⟨by omega, by rw [an_v u1 (by omega)]; exact u3⟩
theorem sl_prB (h : Sml A A') (h12 : hn A ≤ 12) (p : Nat) : prB A' p = prB A p := by
  simp only [prB, sl_hn h]
  by_cases c : p / 12 < p % 12 ∧ p % 12 < hn A
  · rw [sl_Dr h (by omega) (by omega)]
  · simp [c]
theorem sl_o1 (h : Sml A A') (h12 : hn A ≤ 12) (wp : Wp A) : o1 A' = o1 A := by
  funext p
  simp only [o1, D1, h.1 249 (by omega), sl_prB h h12, sl_wsB h h12 wp, sl_opn h h12, sl_wdn h h12]
theorem sl_o2 (h : Sml A A') (h12 : hn A ≤ 12) (wp : Wp A) : o2 A' = o2 A := by
  funext p
  simp only [o2, D2, D1, h.1 249 (by omega), sl_prB h h12, sl_wsB h h12 wp, sl_opn h h12, sl_wdn h h12]
theorem sl_DrR (h : Sml A A') (h12 : hn A ≤ 12) (wp : Wp A) {nd wy : Int32} {pk : Nat → Int32} : DrR A' nd wy pk ↔ DrR A nd wy pk := by
  simp only [DrR, h.1 249 (by omega), sl_wsB h h12 wp, sl_opn h h12, sl_o1 h h12 wp, sl_o2 h h12 wp]
theorem sl_wrN (h : Sml A A') (h12 : hn A ≤ 12) (wp : Wp A) {E : Nat → Nat} {x : Nat} : wrN A' E x = wrN A E x := by
  have q3 := (an_le wp.2.2.1 (by omega)).1
  rw [wrN, wrN, sl_an h (show 253 < 254 by omega)]
  refine cn_c _ _ (fun j _ hj => ?_)
  have eS := sl_mkS h h12
  rw [sl_hn h] at eS
  simp only [wrB, sl_hn h, eS, sl_an h (show 232 + 2 * j < 254 by omega), h.1 _ (show 233 + 2 * j < 254 by omega)]
theorem sl_ftB (h : Sml A A') (h12 : hn A ≤ 12) (wp : Wp A) (x : Nat) : ftB A' x = ftB A x := by
  funext p
  simp only [ftB, h.1 249 (by omega), sl_hn h, sl_opn h h12, sl_wdn h h12, sl_wrN h h12 wp]
  by_cases c : p / 12 < p % 12 ∧ p % 12 < hn A
  · rw [sl_Dr h (by omega) (by omega)]
  · simp [c]
theorem sl_FtR (h : Sml A A') (h12 : hn A ≤ 12) (wp : Wp A) {x : Nat} {R : Nat → Int32} : FtR A' x R ↔ FtR A x R := by
  simp only [FtR, h.1 249 (by omega), sl_opn h h12, sl_wrN h h12 wp, sl_ftB h h12 wp]
end
/-! the caches -/
def CVx (c : Nat) (A : Nat → Int32) (W : Nat → Nat → Int32) : Prop := match c with
  | 0 => ∀ j, j < 12 → W 4 j = nI (opn A (A 249) j)
  | 1 => ∀ j, j < 12 → W 5 j = nI (wdn A (A 249) j)
  | 2 => ∀ a b, a < 12 → b < 12 → W 6 (12 * a + b) = nI (mM A a b) ∧ W 7 (12 * a + b) = nI (fl (mM A) 12 a b)
  | 3 => DrR A (W 12 7) (W 12 8) (W 16)
  | 4 => ∀ h, h < hn A → W 17 4 = nI h → FtR A h (W 17)
  | _ => RdR A (W 20 8) (W 20 9) (W 20 10) (W 20 11) (W 20 6) (W 22)
theorem CVx_l : CVl CVx := by
  refine ⟨?_, fun _ _ => Iff.rfl, fun _ _ => Iff.rfl⟩
  intro c A W W' hc h w
  rcases i6 hc with rfl | rfl | rfl | rfl | rfl | rfl
  · have e := h 4 (by decide)
    simp only [CVx, e] at w ⊢
    exact w
  · have e := h 5 (by decide)
    simp only [CVx, e] at w ⊢
    exact w
  · have e := h 6 (by decide)
    have e2 := h 7 (by decide)
    simp only [CVx, e, e2] at w ⊢
    exact w
  · have e := h 12 (by decide)
    have e2 := h 16 (by decide)
    simp only [CVx, e, e2] at w ⊢
    exact w
  · have e := h 17 (by decide)
    simp only [CVx, e] at w ⊢
    exact w
  · have e := h 20 (by decide)
    have e2 := h 22 (by decide)
    simp only [CVx, e, e2] at w ⊢
    exact w
theorem CVx_s {A A' : Nat → Int32} {W : Nat → Nat → Int32} (h : Sml A A') (h12 : hn A ≤ 12) (wp : Wp A) : ∀ c, c < 6 → CVx c A W → CVx c A' W := by
  intro c hc w
  rcases i6 hc with rfl | rfl | rfl | rfl | rfl | rfl
  · simp only [CVx, h.1 249 (by omega), sl_opn h h12] at w ⊢
    exact w
  · simp only [CVx, h.1 249 (by omega), sl_wdn h h12] at w ⊢
    exact w
  · simp only [CVx, sl_mM h h12] at w ⊢
    exact w
  · simp only [CVx] at w ⊢
    exact (sl_DrR h h12 wp).mpr w
  · simp only [CVx, sl_hn h] at w ⊢
    exact fun x hx e => (sl_FtR h h12 wp).mpr (w x hx e)
  · simp only [CVx] at w ⊢
    exact sl_RdR h h12 w
