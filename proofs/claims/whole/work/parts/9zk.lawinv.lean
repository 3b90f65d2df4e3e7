/-! a law: what stays -/
section
variable {LS : (Nat → Int32) → (Nat → Int32) → Nat → (Nat → Int32) → Nat → (Nat → Int32) → Nat → (Nat → Int32) → (Nat → Int32) → Nat → Prop} {CV : Nat → (Nat → Int32) → (Nat → Nat → Int32) → Prop} {MV : (Nat → Int32) → Int32 → (Nat → Int32) → (Nat → Int32) → (Nat → Int32) → Prop}
theorem Inv_same7 {G : gG} {σ τ : gS} {k : Nat} (hS : Sm (fun a => gB G ≤ a ∧ a < gB G + 80) σ τ) (hI : Inv LS CV MV G σ k)
    (hr : ∀ o, 1 ≤ o → o < 80 → o ≠ 19 → o ≠ 24 → o ≠ 54 → o ≠ 55 → (o < 60 ∨ 66 ≤ o ∧ o < 69 ∨ 78 ≤ o) → (o < 20 ∨ 24 ≤ o) → gI τ (gB G + o) = gI σ (gB G + o)) (h6 : I6 (gB G) σ → I6 (gB G) τ) (hm : ∀ j, j = 28 ∨ j = 29 ∨ j = 30 ∨ j = 32 ∨ j = 48 → gI τ (gB G + 54) j = gI σ (gB G + 54) j)
    (hv : gI τ (gB G + 54) 1 = gI σ (gB G + 54) 1 ∨ gI τ (gB G + 54) 1 = gI σ (gB G + 54) 1 + nI 1) (h7 : I7 (gB G) σ → I7 (gB G) τ) (hk : k < 512) : Inv LS CV MV G τ (k + 1) := by
  obtain ⟨own, i1, i2, i3, i4, i5, i6, i7, i8, i9, i10, i11⟩ := hI
  have hS' := hS
  obtain ⟨s1, s2, s3, s4, s5, s6, s7, s8⟩ := hS'
  have hl : ∀ a, own a ≠ 0 → gI τ a = gI σ a := fun a ha => s7 a (by have := i2.1 a ha; omega)
  have e56 := hr 56 (by omega) (by omega) (by omega) (by omega) (by omega) (by omega) (by omega) (by omega)
  refine ⟨own, fr_I1 (Sm_mono hS (fun a ha => ha.1)) i1, fr_I2 s1 s2 s3 s4 s5 i2, ?_, ?_, fr_I5 s1 s2 s3 (hr 57 (by omega) (by omega) (by omega) (by omega) (by omega) (by omega) (by omega) (by omega)) (hr 58 (by omega) (by omega) (by omega) (by omega) (by omega) (by omega) (by omega) (by omega)) (fun a ha _ => hl a ha) i5, ?_, h7 i7, ?_, ?_, ?_, ?_⟩
  · obtain ⟨⟨c, c1, c2, c3⟩, v, v1, v2, v3⟩ := i3
    refine ⟨⟨c, by rw [hr 1 (by omega) (by omega) (by omega) (by omega) (by omega) (by omega) (by omega) (by omega)]; exact c1, by omega, ?_⟩, ?_⟩
    · intro i hi
      have := cO_in i hi
      rw [hr (cO i) (by omega) (by omega) (by omega) (by omega) (by omega) (by omega) (by omega) (by omega)]
      exact c3 i hi
    · rw [hm 28 (by omega)]
      rcases hv with hv | hv
      · exact ⟨v, hv.trans v1, by omega, v3⟩
      · refine ⟨v + 1, by rw [hv, v1, nI_add], by omega, ?_⟩
        rcases v3 with v3 | ⟨a, v3, v4⟩
        · exact Or.inl v3
        · exact Or.inr ⟨a, v3, by omega⟩
  · rw [e56]
    refine fr_I4 s1 s2 s3 ?_ (fun a ha => hl a (by omega)) i4
    intro o ho
    rw [Nat.add_assoc]
    exact hr (1 + o) (by omega) (by omega) (by omega) (by omega) (by omega) (by omega) (by omega) (by omega)
  · exact h6 i6
  · obtain ⟨q, q1, q2, q3, q4⟩ := i8
    exact ⟨q, q1, by rw [hr 50 (by omega) (by omega) (by omega) (by omega) (by omega) (by omega) (by omega) (by omega)]; exact q2, by rw [hm 48 (by omega)]; exact q3, by rw [hr 52 (by omega) (by omega) (by omega) (by omega) (by omega) (by omega) (by omega) (by omega), hr 53 (by omega) (by omega) (by omega) (by omega) (by omega) (by omega) (by omega) (by omega), hr 78 (by omega) (by omega) (by omega) (by omega) (by omega) (by omega) (by omega) (by omega), hr 79 (by omega) (by omega) (by omega) (by omega) (by omega) (by omega) (by omega) (by omega)]; exact q4⟩
  · intro c hc
    have := cO_in c hc
    rw [hr (cO c) (by omega) (by omega) (by omega) (by omega) (by omega) (by omega) (by omega) (by omega), hr 1 (by omega) (by omega) (by omega) (by omega) (by omega) (by omega) (by omega) (by omega), e56, cw_c (fun o h1 h2 => hr o (by omega) (by omega) (by omega) (by omega) (by omega) (by omega) (by omega) (by omega))]
    exact i9 c hc
  · intro z
    rw [hm 29 (by omega), e56, hr 66 (by omega) (by omega) (by omega) (by omega) (by omega) (by omega) (by omega) (by omega), hr 67 (by omega) (by omega) (by omega) (by omega) (by omega) (by omega) (by omega) (by omega), hr 68 (by omega) (by omega) (by omega) (by omega) (by omega) (by omega) (by omega) (by omega)]
    rw [hm 28 (by omega)] at z
    rcases hv with hv | hv
    · exact i10 (z.trans hv)
    · exfalso
      obtain ⟨_, v, v1, v2, v3⟩ := i3
      rw [hv, v1, nI_add] at z
      rcases v3 with v3 | ⟨a, v3, v4⟩
      · rw [v3] at z
        exact ng_ne 1 (v + 1) (by omega) (by omega) (by omega) z
      · rw [v3, nI_eq (by omega) (by omega)] at z
        omega
  · obtain ⟨z1, z2, z3⟩ := i11
    exact ⟨(hm 30 (by omega)).trans z1, (hm 32 (by omega)).trans z2, by rw [hr 59 (by omega) (by omega) (by omega) (by omega) (by omega) (by omega) (by omega) (by omega)]; exact z3.1, fr_I12 s1 s6 z3.2⟩
end
section
variable {G : gG} {σ τ : gS} {k : Nat}
theorem lawL_s {A A' : Nat → Int32} {cnt : Nat} (wl : Wl A) (hc : an A 254 = cnt) (hc6 : cnt < 6) (h255 : A' 255 = A 255) (hA : ∀ j, 256 ≤ j → j ≠ 256 + cnt → ¬ (262 + 400 * cnt ≤ j ∧ j < 662 + 400 * cnt) → ¬ (2662 + 400 * cnt ≤ j ∧ j < 3062 + 400 * cnt) → A' j = A j) : lawL A' = lawL A := by
  have c6 := (an_le wl.1 (by omega)).1
  rw [lawL, lawL, h255, an_c h255]
  by_cases e : A 255 = -nI 1
  · rw [if_pos e, if_pos e]
  · rw [if_neg e, if_neg e]
    rcases wl.2.1 with w | ⟨f, hf, hlt⟩
    · exact absurd w e
    · have ef : an A 255 = f := an_v hf (by omega)
      rw [hc] at hlt
      rw [ef]
      have en : an A' (256 + f) = an A (256 + f) := an_c (hA _ (by omega) (by omega) (by omega) (by omega))
      have n4 := (an_le (wl.2.2 f (by omega)) (by omega)).1
      have : tkL (lwCo A' f) (lwVa A' f) (an A' (256 + f)) = tkL (lwCo A f) (lwVa A f) (an A (256 + f)) := by
        rw [en]
        exact tkL_c (fun j hj => hA (262 + 400 * f + j) (by omega) (by omega) (by omega) (by omega)) (fun j hj => hA (2662 + 400 * f + j) (by omega) (by omega) (by omega) (by omega))
      rw [lawAt, lawAt, this]
theorem Inv_lw {own : Nat → Nat} {cnt n : Nat} (hk : k < 512) (i1 : I1 G σ k) (i2 : I2 (gB G) own σ k) (i3 : I3 (gB G) σ k) (i4 : I4 LSx own (gB G + 1) σ (gI σ (gB G + 56))) (i5 : I5 LSx (gB G) own σ) (i7 : I7 (gB G) σ) (i8 : I8 (gB G) σ) (i9 : I9 CVx (gB G) σ) (i11 : I11 (gB G) σ)
    (hc : an (gI σ (gB G + 56)) 254 = cnt) (hc6 : cnt < 6) (hn4 : n ≤ 400) (hgn : gn τ = gn σ + 4) (hgw : gw τ ≤ gw σ + 500) (hT : gT τ = gT σ)
    (hK : ∀ a, a < gn σ → gK τ a = gK σ a) (hN : ∀ a, a < gn σ → gN τ a = gN σ a) (hR : ∀ a, a < gn σ → a ≠ gB G + 8 → gR τ a = gR σ a) (hR8 : ∀ j, j ≠ cnt → gR τ (gB G + 8) j = gR σ (gB G + 8) j) (hR8c : gR τ (gB G + 8) cnt = some (gn σ))
    (hI : ∀ a, a < gn σ → a ≠ gB G → a ≠ gB G + 1 → ¬ (gB G + 20 ≤ a ∧ a ≤ gB G + 23) → a ≠ gB G + 54 → a ≠ gB G + 56 → ¬ (gB G + 62 ≤ a ∧ a ≤ gB G + 64) → gI τ a = gI σ a)
    (h0 : ∀ j, j ≠ 3 → j ≠ 5 → j ≠ 8 → gI τ (gB G) j = gI σ (gB G) j) (h03 : gI τ (gB G) 3 = nI 0) (h05 : gI τ (gB G) 5 = gI τ (gB G + 54) 11) (h08 : gI τ (gB G) 8 = nI 0)
    (h1 : ∀ j, j ≠ 10 → gI τ (gB G + 1) j = gI σ (gB G + 1) j) (h110 : gI τ (gB G + 1) 10 = nI (cnt + 1))
    (h54 : ∀ j, j ≠ 0 → j ≠ 1 → j ≠ 10 → j ≠ 11 → j ≠ 15 → j ≠ 16 → j ≠ 17 → j ≠ 18 → gI τ (gB G + 54) j = gI σ (gB G + 54) j) (h540 : gI τ (gB G + 54) 0 = nI 0) (h541 : gI τ (gB G + 54) 1 = gI σ (gB G + 54) 1 + nI 1) (h5410 : gI τ (gB G + 54) 10 = nI 0)
    (hA : ∀ j, j ≠ 254 → j ≠ 256 + cnt → ¬ (262 + 400 * cnt ≤ j ∧ j < 662 + 400 * cnt) → ¬ (2662 + 400 * cnt ≤ j ∧ j < 3062 + 400 * cnt) → gI τ (gB G + 56) j = gI σ (gB G + 56) j) (hA4 : gI τ (gB G + 56) 254 = nI (cnt + 1)) (hAn : gI τ (gB G + 56) (256 + cnt) = nI n)
    (hP : gK τ (gn σ) = 4 ∧ gR τ (gn σ) 0 = some (gn σ + 1) ∧ gR τ (gn σ) 1 = some (gn σ + 2) ∧ gR τ (gn σ) 2 = some (gn σ + 3) ∧ gK τ (gn σ + 1) = 21 ∧ gK τ (gn σ + 2) = 21 ∧ gK τ (gn σ + 3) = 21)
    (hLS : LSx (gI τ (gn σ)) (gI τ (gn σ + 1)) (gN τ (gn σ + 1)) (gI τ (gn σ + 2)) (gN τ (gn σ + 2)) (gI τ (gn σ + 3)) (gN τ (gn σ + 3)) (fun j => gI τ (gB G + 56) (262 + 400 * cnt + j)) (fun j => gI τ (gB G + 56) (2662 + 400 * cnt + j)) n) : Inv LSx CVx MVx G τ (k + 1) := by
  have hb : gb G < gB G := i1.2.2.2.2.2.1
  have n80 : gB G + 80 ≤ gn σ := i1.2.2.2.2.2.2.1
  have ol : ∀ a, own a ≠ 0 → gB G + 80 ≤ a ∧ a < gn σ := fun a ha => i2.1 a ha
  have hl : ∀ a, own a ≠ 0 → gI τ a = gI σ a := fun a ha => by
    have := ol a ha
    exact hI a (by omega) (by omega) (by omega) (by omega) (by omega) (by omega) (by omega)
  have hlR : ∀ a, own a ≠ 0 → gR τ a = gR σ a := fun a ha => by
    have := ol a ha
    exact hR a (by omega) (by omega)
  have rw' : ∀ o, 2 ≤ o → o < 80 → ¬ (20 ≤ o ∧ o ≤ 23) → o ≠ 54 → o ≠ 56 → ¬ (62 ≤ o ∧ o ≤ 64) → gI τ (gB G + o) = gI σ (gB G + o) := fun o a1 a2 a3 a4 a5 a6 => hI _ (by omega) (by omega) (by omega) (by omega) (by omega) (by omega) (by omega)
  have hv : IvS (gB G) τ := by
    obtain ⟨v1, v2⟩ := i1.1
    refine ⟨fun o ho => by rw [hK _ (by omega), hN _ (by omega)]; exact v1 o ho, fun e he => ?_⟩
    have := rT_8 e he
    rw [hR _ (by omega) (by omega)]
    exact v2 e he
  have ho : ∀ a, own a ≠ 0 → (fun a => if gn σ ≤ a ∧ a < gn σ + 4 then 1 else own a) a = own a := fun a ha => if_neg (by have := ol a ha; omega)
  have wl := i4.1.2.2.2.2
  have wh := i4.1.1
  have h12 := hn_le wh
  have sml : Sml (gI σ (gB G + 56)) (gI τ (gB G + 56)) := ⟨fun j hj => hA j (by omega) (by omega) (by omega) (by omega), hA 255 (by omega) (by omega) (by omega) (by omega), lawL_s wl hc hc6 (hA 255 (by omega) (by omega) (by omega) (by omega)) (fun j a1 a2 a3 a4 => hA j (by omega) a2 a3 a4)⟩
  have c254 : gI σ (gB G + 56) 254 = nI cnt := by rw [← hc]; exact (an_le wl.1 (by omega)).2
  have a254 : an (gI τ (gB G + 56)) 254 = cnt + 1 := an_v hA4 (by omega)
  refine ⟨fun a => if gn σ ≤ a ∧ a < gn σ + 4 then 1 else own a, ?_, ?_, ?_, ⟨⟨?_, ?_, ?_, ?_, ?_⟩, ⟨?_, ?_, ?_, ?_, ?_⟩, ?_⟩, ?_, ?_, ?_, ?_, ?_, ?_, ?_⟩
  · obtain ⟨w1, w2, w3, w4, w5, w6, w7, w8⟩ := i1
    exact ⟨hv, hT.trans w2, by rw [hK _ (by omega)]; exact w3, by rw [hN _ (by omega)]; exact w4, (hI _ (by omega) (by omega) (by omega) (by omega) (by omega) (by omega) (by omega)).trans w5, w6, by omega, by omega⟩
  · obtain ⟨w1, l, s, w2, w3, w4, w5, w6, w7⟩ := i2
    have ln : l < gn σ := by
      rcases w6 with w6 | w6
      · omega
      · exact (w1 l (by omega)).2
    refine ⟨?_, l, s, by rw [hR _ (by omega) (by omega)]; exact w2, by rw [hK l ln]; exact w3, by rw [hN l ln]; exact w4, w5, ?_, by omega⟩
    · intro a ha
      by_cases c : gn σ ≤ a ∧ a < gn σ + 4
      · omega
      · simp only [if_neg c] at ha
        have := w1 a ha
        omega
    · rcases w6 with w6 | w6
      · exact Or.inl w6
      · exact Or.inr ((ho l (by omega)).trans w6)
  · obtain ⟨⟨c, c1, c2, c3⟩, v, v1, v2, v3⟩ := i3
    refine ⟨⟨c, by rw [h1 17 (by omega)]; exact c1, by omega, ?_⟩, v + 1, by rw [h541, v1, nI_add], by omega, ?_⟩
    · intro j hj
      have := cO_in j hj
      rw [rw' _ (by omega) (by omega) (by omega) (by omega) (by omega) (by omega)]
      exact c3 j hj
    · rw [h54 28 (by omega) (by omega) (by omega) (by omega) (by omega) (by omega) (by omega) (by omega)]
      rcases v3 with v3 | ⟨a, v3, v4⟩
      · exact Or.inl v3
      · exact Or.inr ⟨a, v3, by omega⟩
  · exact fr_Wh (fun j hj => sml.1 j (by omega)) (sml.1 250 (by omega)) wh
  · exact fr_Wd (fun j _ hj => sml.1 j (by omega)) (sml.1 250 (by omega)) h12 i4.1.2.1
  · exact fr_Wt (sml.1 248 (by omega)) (sml.1 249 (by omega)) i4.1.2.2.1
  · exact fr_Wp (fun j _ hj => sml.1 j (by omega)) (sml.1 251 (by omega)) (sml.1 252 (by omega)) (sml.1 253 (by omega)) (by rw [sl_hn sml]; exact Nat.le_refl _) i4.1.2.2.2.1
  · refine ⟨⟨cnt + 1, hA4, by omega⟩, ?_, ?_⟩
    · rw [sml.2.1, a254]
      rcases wl.2.1 with w | ⟨f, hf, hlt⟩
      · exact Or.inl w
      · exact Or.inr ⟨f, hf, by omega⟩
    · intro t ht
      rw [a254] at ht
      by_cases c : t = cnt
      · rw [c]; exact ⟨n, hAn, hn4⟩
      · rw [hA _ (by omega) (by omega) (by omega) (by omega)]
        exact wl.2.2 t (by omega)
  · exact fr_Th ⟨h1 5 (by omega), h1 6 (by omega)⟩ (fun o a1 a2 => by rw [Nat.add_assoc]; exact rw' _ (by omega) (by omega) (by omega) (by omega) (by omega) (by omega)) (fun j hj => sml.1 j (by omega)) (sml.1 250 (by omega)) h12 i4.2.1.1
  · exact fr_Td (h1 8 (by omega)) (by rw [Nat.add_assoc]; exact rw' _ (by omega) (by omega) (by omega) (by omega) (by omega) (by omega)) (fun j _ hj => sml.1 j (by omega)) (sml.1 250 (by omega)) h12 i4.2.1.2.1
  · exact fr_Tt (h1 12 (by omega)) (h1 13 (by omega)) (sml.1 248 (by omega)) (sml.1 249 (by omega)) i4.2.1.2.2.1
  · exact fr_Tp (fun o a1 a2 => by rw [Nat.add_assoc]; exact rw' _ (by omega) (by omega) (by omega) (by omega) (by omega) (by omega)) (fun j _ hj => sml.1 j (by omega)) (sml.1 251 (by omega)) (sml.1 252 (by omega)) (sml.1 253 (by omega)) i4.1.2.2.2.1 i4.2.1.2.2.2.1
  · exact ⟨h110.trans hA4.symm, by rw [h1 11 (by omega), sml.2.1]; exact i4.2.1.2.2.2.2.2⟩
  · obtain ⟨w, w0⟩ := i4.2.2
    refine ⟨?_, ?_⟩
    · intro i hi
      rw [a254] at hi
      by_cases c : i = cnt
      · rw [c]
        refine ⟨gn σ, hR8c, ⟨if_pos (by omega), if_pos (by omega), if_pos (by omega), if_pos (by omega)⟩, hP, ?_⟩
        rw [an_v hAn (by omega)]
        exact hLS
      · obtain ⟨p, w1, ⟨o1', o2', o3', o4'⟩, w3, w4⟩ := w i (by omega)
        have n4 := (an_le (wl.2.2 i (by omega)) (by omega)).1
        have en : an (gI τ (gB G + 56)) (256 + i) = an (gI σ (gB G + 56)) (256 + i) := an_c (hA _ (by omega) (by omega) (by omega) (by omega))
        refine ⟨p, by rw [show gB G + 1 + 7 = gB G + 8 from rfl, hR8 i c]; exact w1, ⟨(ho _ (by omega)).trans o1', (ho _ (by omega)).trans o2', (ho _ (by omega)).trans o3', (ho _ (by omega)).trans o4'⟩, ?_, ?_⟩
        · rw [hK p (ol p (by omega)).2, hK _ (ol _ (show own (p + 1) ≠ 0 by omega)).2, hK _ (ol _ (show own (p + 2) ≠ 0 by omega)).2, hK _ (ol _ (show own (p + 3) ≠ 0 by omega)).2, hlR p (by omega)]
          exact w3
        · rw [hN _ (ol _ (show own (p + 1) ≠ 0 by omega)).2, hN _ (ol _ (show own (p + 2) ≠ 0 by omega)).2, hN _ (ol _ (show own (p + 3) ≠ 0 by omega)).2, hl p (by omega), hl _ (show own (p + 1) ≠ 0 by omega), hl _ (show own (p + 2) ≠ 0 by omega), hl _ (show own (p + 3) ≠ 0 by omega), en]
          exact LSx_c (fun j hj => hA _ (by omega) (by omega) (by omega) (by omega)) (fun j hj => hA _ (by omega) (by omega) (by omega) (by omega)) w4
    · intro i hi hi6
      rw [a254] at hi
      rw [show gB G + 1 + 7 = gB G + 8 from rfl, hR8 i (by omega)]
      exact w0 i (by omega) hi6
  · exact fr_I5x ho (fun a ha => hK a (ol a ha).2) (fun a ha => hN a (ol a ha).2) hlR (hR _ (by omega) (by omega)) (rw' 57 (by omega) (by omega) (by omega) (by omega) (by omega) (by omega)) (rw' 58 (by omega) (by omega) (by omega) (by omega) (by omega) (by omega)) (fun a ha _ => hl a ha) i5
  · exact ⟨0, by omega, h03, h5410, fun j hj => absurd hj (by omega)⟩
  · simp only [I7] at i7 ⊢
    rw [h05, h0 6 (by omega) (by omega) (by omega), h08, h540, h54 6 (by omega) (by omega) (by omega) (by omega) (by omega) (by omega) (by omega) (by omega), rw' 24 (by omega) (by omega) (by omega) (by omega) (by omega) (by omega), rw' 55 (by omega) (by omega) (by omega) (by omega) (by omega) (by omega)]
    exact ⟨rfl, i7.2.1, rfl, i7.2.2.2⟩
  · obtain ⟨q, q1, q2, q3, q4⟩ := i8
    exact ⟨q, q1, by rw [rw' 50 (by omega) (by omega) (by omega) (by omega) (by omega) (by omega)]; exact q2, by rw [h54 48 (by omega) (by omega) (by omega) (by omega) (by omega) (by omega) (by omega) (by omega)]; exact q3, by rw [rw' 52 (by omega) (by omega) (by omega) (by omega) (by omega) (by omega), rw' 53 (by omega) (by omega) (by omega) (by omega) (by omega) (by omega), rw' 78 (by omega) (by omega) (by omega) (by omega) (by omega) (by omega), rw' 79 (by omega) (by omega) (by omega) (by omega) (by omega) (by omega)]; exact q4⟩
  · intro c hc' z
    have := cO_in c hc'
    rw [rw' _ (by omega) (by omega) (by omega) (by omega) (by omega) (by omega), h1 17 (by omega)] at z
    rw [cw_c (fun o a1 a2 => rw' o (by omega) (by omega) (by omega) (by omega) (by omega) (by omega))]
    exact CVx_s sml h12 i4.1.2.2.2.1 c hc' (i9 c hc' z)
  · intro z
    exfalso
    obtain ⟨_, v, v1, v2, v3⟩ := i3
    rw [h54 28 (by omega) (by omega) (by omega) (by omega) (by omega) (by omega) (by omega) (by omega), h541, v1, nI_add] at z
    rcases v3 with v3 | ⟨a, v3, v4⟩
    · rw [v3] at z
      exact ng_ne 1 (v + 1) (by omega) (by omega) (by omega) z
    · rw [v3, nI_eq (by omega) (by omega)] at z
      omega
  · obtain ⟨z1, z2, z3, z4⟩ := i11
    refine ⟨by rw [h54 30 (by omega) (by omega) (by omega) (by omega) (by omega) (by omega) (by omega) (by omega)]; exact z1, by rw [h54 32 (by omega) (by omega) (by omega) (by omega) (by omega) (by omega) (by omega) (by omega)]; exact z2, by rw [rw' 59 (by omega) (by omega) (by omega) (by omega) (by omega) (by omega)]; exact z3, ?_⟩
    obtain ⟨y1, y2, y3⟩ := z4
    refine ⟨by rw [hT]; exact y1, by rw [hT]; exact y2, ?_⟩
    rw [hT]
    intro j hj
    have := y3 j hj
    exact ⟨this.1, by rw [hK _ (by omega)]; exact this.2⟩
end
