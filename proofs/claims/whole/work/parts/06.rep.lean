/-! how the heap holds a store -/
abbrev gG : Type := va_G × (Nat → ClassId) × Nat × Nat × Nat × (Nat → Int32) × (Nat → Nat) × (Nat → Nat)
def gD (G : gG) : va_G := G.1
def gY (G : gG) : Nat → ClassId := G.2.1
def gB (G : gG) : Nat := G.2.2.1
def gb (G : gG) : Nat := G.2.2.2.1
def gLn (G : gG) : Nat := G.2.2.2.2.1
def gxs (G : gG) : Nat → Int32 := G.2.2.2.2.2.1
def gaK (G : gG) : Nat → Nat := G.2.2.2.2.2.2.1
def gaV (G : gG) : Nat → Nat := G.2.2.2.2.2.2.2
def gA (G : gG) : Nat → Prop := fun q => gB G ≤ q
def gC (c : Nat) : vw_C := vwCl.getD c (RX12, TX12, 50)
def gFy (c : Nat) : Nat → FieldType := match c with
  | 0 => tyX0
  | 1 => tyX1
  | 2 => tyX2
  | 3 => tyX3
  | 4 => tyX4
  | 5 => tyX5
  | 6 => tyX6
  | 7 => tyX7
  | 8 => tyX8
  | 9 => tyX9
  | 10 => tyX10
  | 11 => tyX11
  | _ => tyX12
def gTy (t : Nat) : FieldType := match t with
  | 0 => .byte
  | 1 => .int
  | 2 => .long
  | 3 => .boolean
  | 4 => .object RX3
  | _ => .object RX10
def gTys (G : gG) : List (ClassId × FieldType) := [(gY G 0, gTy 0), (gY G 1, gTy 1), (gY G 2, gTy 2), (gY G 3, gTy 3), (gY G 4, gTy 4), (gY G 5, gTy 5)]
theorem gTys_at (G : gG) {t : Nat} (h : t < 6) : (gTys G)[t]? = some (gY G t, gTy t) := by
  rcases t with _ | _ | _ | _ | _ | _ | t
  all_goals first | rfl | (exfalso; omega)
theorem gC_at {c : Nat} (h : c < 13) : vwCl[c]? = some ((gC c).1, (gC c).2.1, (gC c).2.2) := by
  rcases c with _ | _ | _ | _ | _ | _ | _ | _ | _ | _ | _ | _ | _ | c
  all_goals first | rfl | (exfalso; omega)
theorem gC_in {c : Nat} (h : c < 13) : ∀ w ∈ u_ws (gC c).1 (gC c).2.1 (gC c).2.2, w ∈ gWS := by
  rcases c with _ | _ | _ | _ | _ | _ | _ | _ | _ | _ | _ | _ | _ | c
  · exact in_0
  · exact in_1
  · exact in_2
  · exact in_3
  · exact in_4
  · exact in_5
  · exact in_6
  · exact in_7
  · exact in_8
  · exact in_9
  · exact in_10
  · exact in_11
  · exact in_12
  · exfalso; omega
theorem gC_ty {c : Nat} (h : c < 13) : ∀ k, k < (gC c).2.2 → parseFieldDescriptor ((gC c).2.1 k).2.2.1 = some (gFy c k) := by
  rcases c with _ | _ | _ | _ | _ | _ | _ | _ | _ | _ | _ | _ | _ | c
  · exact tyX0_ok
  · exact tyX1_ok
  · exact tyX2_ok
  · exact tyX3_ok
  · exact tyX4_ok
  · exact tyX5_ok
  · exact tyX6_ok
  · exact tyX7_ok
  · exact tyX8_ok
  · exact tyX9_ok
  · exact tyX10_ok
  · exact tyX11_ok
  · exact tyX12_ok
  · exfalso; omega
theorem gC_nm {c : Nat} (h : c < 13) : ∀ a, a < (gC c).2.2 → ∀ b, b < (gC c).2.2 → a ≠ b → ((gC c).2.1 a).2.1 ≠ ((gC c).2.1 b).2.1 := by
  rcases c with _ | _ | _ | _ | _ | _ | _ | _ | _ | _ | _ | _ | _ | c
  · exact nmX0
  · exact nmX1
  · exact nmX2
  · exact nmX3
  · exact nmX4
  · exact nmX5
  · exact nmX6
  · exact nmX7
  · exact nmX8
  · exact nmX9
  · exact nmX10
  · exact nmX11
  · exact nmX12
  · exfalso; omega
/-- a value by its type -/
def gVt (ty : FieldType) (i : Int32) (j : Int64) (r : Option Nat) : Value := match ty with
  | .long => .long j
  | .object _ => va_rf r
  | .array _ => va_rf r
  | _ => .int i
def gFv (σ : gS) (c a k : Nat) : Value := gVt (gFy c k) (gI σ a k) (gJ σ a k) (gR σ a k)
def gAv (σ : gS) (t a k : Nat) : Value := gVt (gTy t) (gI σ a k) (gJ σ a k) (gR σ a k)
def gRep (G : gG) (σ : gS) (H : Heap) : Prop :=
  (H.size = gn σ ∧ gB G ≤ gn σ) ∧
  (∀ a c : Nat, c < 13 → gK σ a = c + 1 → gB G ≤ a ∧ t_OB a ((gD G).1 c) (gC c).2.2 ((gD G).2 c) H (gFv σ c a)) ∧
  (∀ a t : Nat, t < 6 → gK σ a = 20 + t → gB G ≤ a ∧ H[a]? = some (arrV (gY G t) (gN σ a) (gAv σ t a))) ∧
  (∀ a : Nat, gn σ ≤ a → gK σ a = 0) ∧
  (∀ a : Nat, gK σ a = 26 → a = gb G ∧ gN σ a = gLn G ∧ ∀ j, j < gLn G → gI σ a j = gxs G j) ∧
  (∀ j : Nat, j < 16 → gT σ j = gaK G j) ∧
  (∀ j : Nat, j < 15 → gT σ (16 + j) = gaV G j)
theorem gRep_upd {G : gG} {σ σ' : gS} {H H' : Heap} (h : gRep G σ H) (a : Nat) (hown : (∃ c, c < 13 ∧ gK σ a = c + 1) ∨ ∃ t, t < 6 ∧ gK σ a = 20 + t) (eK : gK σ' = gK σ) (eN : gN σ' = gN σ) (en : gn σ' = gn σ) (eT : gT σ' = gT σ)
    (eI : ∀ b k, b ≠ a → gI σ' b k = gI σ b k) (eJ : ∀ b k, b ≠ a → gJ σ' b k = gJ σ b k) (eR : ∀ b k, b ≠ a → gR σ' b k = gR σ b k) (z : H'.size = H.size) (oq : ∀ q, q ≠ a → H'[q]? = H[q]?)
    (hO : ∀ c, c < 13 → gK σ a = c + 1 → t_OB a ((gD G).1 c) (gC c).2.2 ((gD G).2 c) H' (gFv σ' c a)) (hA : ∀ t, t < 6 → gK σ a = 20 + t → H'[a]? = some (arrV (gY G t) (gN σ a) (gAv σ' t a))) : gRep G σ' H' := by
  obtain ⟨⟨h1, h2⟩, h3, h4, h5, h6, h7, h8⟩ := h
  have hne : ∀ b x : Nat, gK σ b = x → ((26 = x) ∨ 30 ≤ x) → b ≠ a := by
    intro b x hb hx e
    subst e
    rcases hown with ⟨c, hc, e⟩ | ⟨t, ht, e⟩ <;> omega
  refine ⟨⟨by rw [z, en, h1], by rw [en]; exact h2⟩, ?_, ?_, ?_, ?_, ?_, ?_⟩
  · intro b c hc hb
    rw [eK] at hb
    refine ⟨(h3 b c hc hb).1, ?_⟩
    by_cases hba : b = a
    · subst hba
      exact hO c hc hb
    · refine ((h3 b c hc hb).2.kept (oq b hba)).to (fun k _ => ?_)
      simp only [gFv, eI b k hba, eJ b k hba, eR b k hba]
  · intro b t ht hb
    rw [eK] at hb
    refine ⟨(h4 b t ht hb).1, ?_⟩
    rw [eN]
    by_cases hba : b = a
    · subst hba
      exact hA t ht hb
    · rw [oq b hba, (h4 b t ht hb).2]
      have : gAv σ t b = gAv σ' t b := by
        funext k
        simp only [gAv, eI b k hba, eJ b k hba, eR b k hba]
      rw [this]
  · intro b hb
    rw [eK]
    exact h5 b (by rw [← en]; exact hb)
  · intro b hb
    rw [eK] at hb
    have hba := hne b 26 hb (Or.inl rfl)
    obtain ⟨g1, g2, g3⟩ := h6 b hb
    exact ⟨g1, by rw [eN]; exact g2, fun j hj => by rw [eI b j hba]; exact g3 j hj⟩
  · intro j hj
    rw [eT]
    exact h7 j hj
  · intro j hj
    rw [eT]
    exact h8 j hj
theorem gRep_new {G : gG} {σ : gS} {H H' : Heap} (h : gRep G σ H) {k n w : Nat} (hk : (∃ c, c < 13 ∧ k = c + 1) ∨ ∃ t, t < 6 ∧ k = 20 + t) (z : H'.size = H.size + 1) (oq : ∀ q, q < H.size → H'[q]? = H[q]?)
    (hO : ∀ c, c < 13 → k = c + 1 → t_OB H.size ((gD G).1 c) (gC c).2.2 ((gD G).2 c) H' (fun j => gVt (gFy c j) 0 0 none)) (hA : ∀ t, t < 6 → k = 20 + t → H'[H.size]? = some (arrV (gY G t) n (fun _ => gVt (gTy t) 0 0 none))) : gRep G (sNw σ k n w) H' := by
  obtain ⟨⟨h1, h2⟩, h3, h4, h5, h6, h7, h8⟩ := h
  have hKn : gK σ (gn σ) = 0 := h5 _ (Nat.le_refl _)
  have hne : ∀ b : Nat, gK σ b ≠ 0 → b ≠ gn σ := fun b hb e => hb (by rw [e]; exact hKn)
  have hlt : ∀ b : Nat, gK σ b ≠ 0 → b < gn σ := fun b hb => Nat.lt_of_not_le (fun q => hb (h5 b q))
  have eK : ∀ b x : Nat, gK (sNw σ k n w) b = x → (b = gn σ ∧ x = k) ∨ (b ≠ gn σ ∧ gK σ b = x) := by
    intro b x hb
    by_cases e : b = gn σ
    · subst e
      refine Or.inl ⟨rfl, ?_⟩
      rw [← hb]
      exact va_up_self _ _ _
    · refine Or.inr ⟨e, ?_⟩
      rw [← hb]
      exact (va_up_ne _ _ e).symm
  have eN : ∀ b : Nat, b ≠ gn σ → gN (sNw σ k n w) b = gN σ b := fun b hb => va_up_ne _ _ hb
  have eI : ∀ b j : Nat, b ≠ gn σ → gI (sNw σ k n w) b j = gI σ b j := fun b j hb => by simp [gI, sNw, gUr, hb]
  have eJ : ∀ b j : Nat, b ≠ gn σ → gJ (sNw σ k n w) b j = gJ σ b j := fun b j hb => by simp [gJ, sNw, gUr, hb]
  have eR : ∀ b j : Nat, b ≠ gn σ → gR (sNw σ k n w) b j = gR σ b j := fun b j hb => by simp [gR, sNw, gUr, hb]
  have zI : ∀ j : Nat, gI (sNw σ k n w) (gn σ) j = 0 := fun j => by simp [gI, sNw, gUr]
  have zJ : ∀ j : Nat, gJ (sNw σ k n w) (gn σ) j = 0 := fun j => by simp [gJ, sNw, gUr]
  have zR : ∀ j : Nat, gR (sNw σ k n w) (gn σ) j = none := fun j => by simp [gR, sNw, gUr]
  have kno : ∀ x : Nat, x = k → ¬ (x = 26 ∨ 30 ≤ x) := by
    intro x hx
    rcases hk with ⟨c, hc, e⟩ | ⟨t, ht, e⟩ <;> omega
  refine ⟨⟨by rw [z, h1]; rfl, Nat.le_trans h2 (Nat.le_succ _)⟩, ?_, ?_, ?_, ?_, ?_, ?_⟩
  · intro b c hc hb
    rcases eK b _ hb with ⟨e1, e2⟩ | ⟨e1, e2⟩
    · subst e1
      refine ⟨h2, ?_⟩
      rw [← h1]
      refine (hO c hc e2.symm).to (fun j _ => ?_)
      rw [h1]
      simp only [gFv, zI, zJ, zR]
    · have hb2 : b < H.size := by rw [h1]; exact hlt b (by omega)
      refine ⟨(h3 b c hc e2).1, ((h3 b c hc e2).2.kept (oq b hb2)).to (fun j _ => ?_)⟩
      simp only [gFv, eI b j e1, eJ b j e1, eR b j e1]
  · intro b t ht hb
    rcases eK b _ hb with ⟨e1, e2⟩ | ⟨e1, e2⟩
    · subst e1
      refine ⟨h2, ?_⟩
      have hNn : gN (sNw σ k n w) (gn σ) = n := va_up_self _ _ _
      have hav : gAv (sNw σ k n w) t (gn σ) = fun _ => gVt (gTy t) 0 0 none := by
        funext j
        simp only [gAv, zI, zJ, zR]
      rw [hNn, hav, ← h1]
      exact hA t ht e2.symm
    · have hb2 : b < H.size := by rw [h1]; exact hlt b (by omega)
      refine ⟨(h4 b t ht e2).1, ?_⟩
      have hav : gAv (sNw σ k n w) t b = gAv σ t b := by
        funext j
        simp only [gAv, eI b j e1, eJ b j e1, eR b j e1]
      rw [eN b e1, hav, oq b hb2]
      exact (h4 b t ht e2).2
  · intro b hb
    have hb1 : gn σ + 1 ≤ b := hb
    show va_up (gK σ) (gn σ) k b = 0
    rw [va_up_ne _ _ (by omega)]
    exact h5 b (by omega)
  · intro b hb
    rcases eK b _ hb with ⟨e1, e2⟩ | ⟨e1, e2⟩
    · exact absurd (Or.inl rfl) (kno _ e2)
    · obtain ⟨g1, g2, g3⟩ := h6 b e2
      exact ⟨g1, by rw [eN b e1]; exact g2, fun j hj => by rw [eI b j e1]; exact g3 j hj⟩
  · exact h7
  · exact h8
/-! the locals -/
def gLr (L : gL) (ls : Array Slot) : Prop := ls.size = L.length ∧ lv_wf ls ∧ ∀ (k : Nat) (v : Value), L[k]? = some (some v) → ls[k]? = some (.val v)
def gPairs (L : gL) : List (Nat × Value) := (List.range L.length).filterMap (fun k => match L[k]? with | some (some v) => some (k, v) | _ => none)
theorem gPairs_mem {L : gL} {k : Nat} {v : Value} : (k, v) ∈ gPairs L ↔ L[k]? = some (some v) := by
  constructor
  · intro h
    obtain ⟨j, hj, e⟩ := List.mem_filterMap.mp h
    cases hL : L[j]? with
    | none => rw [hL] at e; cases e
    | some o =>
      cases o with
      | none => rw [hL] at e; cases e
      | some w =>
        rw [hL] at e
        have e2 := Option.some.inj e
        obtain ⟨rfl, rfl⟩ := Prod.mk.inj e2
        exact hL
  · intro h
    refine List.mem_filterMap.mpr ⟨k, List.mem_range.mpr (List.getElem?_eq_some_iff.mp h).1, ?_⟩
    rw [h]
theorem gLr_has {L : gL} {ls : Array Slot} (h : gLr L ls) : lv_has ls L.length (gPairs L) := ⟨h.1, h.2.1, fun q hq => h.2.2 q.1 q.2 (gPairs_mem.mp hq)⟩
theorem gPrev_cat {L : gL} {k : Nat} {v : Value} (h : gPrev L (k + 1) = true) (hv : L[k]? = some (some v)) : v.category = 1 := by
  unfold gPrev at h
  simp only [hv] at h
  cases v <;> first | rfl | cases h
theorem gLr_set1 {L : gL} {ls : Array Slot} {i : Nat} {v : Value} (h : lv_has ls L.length ((i, v) :: (gPairs L).filter (fun q => !(q.1 == i) && !(q.1 + 1 == i && q.2.category == 2)))) (hp : gPrev L i = true) : gLr (L.set i (some v)) ls := by
  refine ⟨by rw [List.length_set]; exact h.1, h.2.1, fun k w hk => ?_⟩
  by_cases e : k = i
  · subst e
    have hlt : k < L.length := by
      have := (List.getElem?_eq_some_iff.mp hk).1
      rwa [List.length_set] at this
    rw [List.getElem?_set_self hlt] at hk
    cases hk
    exact h.2.2 _ List.mem_cons_self
  · rw [List.getElem?_set_ne (fun q => e q.symm)] at hk
    refine h.2.2 (k, w) (List.mem_cons_of_mem _ (List.mem_filter.mpr ⟨gPairs_mem.mpr hk, ?_⟩))
    by_cases e2 : k + 1 = i
    · subst e2
      have := gPrev_cat hp hk
      simp [this]
    · simp [e, e2]
theorem gLr_set2 {L : gL} {ls : Array Slot} {i : Nat} {v : Value} (h : lv_has ls L.length ((i, v) :: (gPairs L).filter (fun q => !(q.1 == i) && (!(q.1 == i + 1) && !(q.1 + 1 == i && q.2.category == 2))))) (hp : gPrev L i = true) : gLr ((L.set i (some v)).set (i + 1) none) ls := by
  refine ⟨by rw [List.length_set, List.length_set]; exact h.1, h.2.1, fun k w hk => ?_⟩
  by_cases e1 : k = i + 1
  · subst e1
    have hlt := (List.getElem?_eq_some_iff.mp hk).1
    rw [List.length_set] at hlt
    rw [List.getElem?_set_self hlt] at hk
    cases hk
  · rw [List.getElem?_set_ne (fun q => e1 q.symm)] at hk
    by_cases e : k = i
    · subst e
      have hlt : k < L.length := by
        have := (List.getElem?_eq_some_iff.mp hk).1
        rwa [List.length_set] at this
      rw [List.getElem?_set_self hlt] at hk
      cases hk
      exact h.2.2 _ List.mem_cons_self
    · rw [List.getElem?_set_ne (fun q => e q.symm)] at hk
      refine h.2.2 (k, w) (List.mem_cons_of_mem _ (List.mem_filter.mpr ⟨gPairs_mem.mpr hk, ?_⟩))
      by_cases e2 : k + 1 = i
      · subst e2
        have := gPrev_cat hp hk
        simp [this]
        omega
      · simp [e, e1, e2]
theorem gLook_mem {l : List (Nat × Value)} {k : Nat} {v : Value} (h : gLook l k = some v) : (k, v) ∈ l := by
  induction l with
  | nil => cases h
  | cons q t ih =>
    unfold gLook at h
    split at h
    · next e =>
      cases h
      rw [← e]
      exact List.mem_cons_self
    · exact List.mem_cons_of_mem _ (ih h)
theorem gLoc_has {n : Nat} {As : List Value} {ls : Array Slot} (h : lv_has ls n (lv_args 0 As)) : gLr (gLoc n As) ls := by
  refine ⟨by rw [h.1]; simp [gLoc], h.2.1, fun k v hk => ?_⟩
  unfold gLoc at hk
  rw [List.getElem?_map] at hk
  cases hr : (List.range n)[k]? with
  | none => rw [hr] at hk; cases hk
  | some j =>
    rw [hr] at hk
    have hj : j = k := by
      have := List.getElem?_eq_some_iff.mp hr
      obtain ⟨h1, h2⟩ := this
      rw [List.getElem_range] at h2
      exact h2.symm
    subst hj
    exact h.2.2 (j, v) (gLook_mem (Option.some.inj hk))
theorem gFs_at {σ : gS} {a j : Nat} (h : gFs σ a = some j) : j < 15 ∧ gT σ j = a := by
  refine ⟨List.mem_range.mp (List.mem_of_find?_eq_some h), ?_⟩
  have := List.find?_some h
  simpa using this
theorem gFw_at {σ : gS} {a j : Nat} (h : gFw σ a = some j) : j < 15 ∧ gT σ (16 + j) = a := by
  refine ⟨List.mem_range.mp (List.mem_of_find?_eq_some h), ?_⟩
  have := List.find?_some h
  simpa using this
