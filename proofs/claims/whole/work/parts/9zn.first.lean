/-! the invariant behind the constructors -/
section
variable {CV : Nat → (Nat → Int32) → (Nat → Nat → Int32) → Prop}
theorem Inv_0 (G : gG) (hb : gb G < gB G) (hK : ∀ i j : Nat, i < 15 → j < 15 → gaK G i = gaK G j → i = j) (hV : ∀ i j : Nat, i < 15 → j < 15 → gaV G i = gaV G j → i = j) (hA : ∀ j, j < 15 → gaV G j < gB G ∧ gaV G j ≠ gb G) : Inv LSx CV MVx G (gS1 G) 0 := by
  have hv := S1_shape G
  have l1 := v1_lt G hb
  have a0 : ∀ j, j ≠ 248 → j ≠ 255 → gI (gS1 G) (gB G + 56) j = nI 0 := fun j h1 h2 => by rw [v1_56, if_neg h2, if_neg h1]; rfl
  have a248 : gI (gS1 G) (gB G + 56) 248 = nI 12 := by rw [v1_56]; rfl
  have a255 : gI (gS1 G) (gB G + 56) 255 = -nI 1 := by rw [v1_56]; rfl
  have n0 : ∀ j, j ≠ 248 → j ≠ 255 → an (gI (gS1 G) (gB G + 56)) j = 0 := fun j h1 h2 => an_v (a0 j h1 h2) (by omega)
  have h0 : hn (gI (gS1 G) (gB G + 56)) = 0 := n0 250 (by omega) (by omega)
  have d0 : dc (gI (gS1 G) (gB G + 56)) = 0 := by rw [dc, h0]; rfl
  have p251 := n0 251 (by omega) (by omega)
  have p252 := n0 252 (by omega) (by omega)
  have p253 := n0 253 (by omega) (by omega)
  have p254 := n0 254 (by omega) (by omega)
  refine ⟨fun _ => 0, ⟨hv, v1_T G, ?_, ?_, ?_, hb, ?_, ?_⟩, ?_, ?_, ⟨⟨?_, ?_, ?_, ?_, ?_⟩, ⟨?_, ?_, ?_, ?_, ?_⟩, ?_⟩, ?_, ?_, ?_, ?_, ?_, ?_, ?_⟩
  · rw [l1.1]; exact if_pos rfl
  · rw [l1.2.1]; exact if_pos rfl
  · funext j; rw [l1.2.2]; rfl
  · rw [v1_n]; exact Nat.le_refl _
  · rw [v1_n]; omega
  · exact ⟨fun a ha => absurd rfl ha, gB G + 49, 0, v1_r45 G, sk_49 hv, sn_49 hv, by omega, Or.inl rfl, by rw [v1_w]; omega⟩
  · refine ⟨⟨0, v1_1_17 G, by omega, ?_⟩, 0, v1_54_1 G, by omega, Or.inl (v1_54_28 G)⟩
    intro i hi
    refine Or.inl ?_
    have : i = 0 ∨ i = 1 ∨ i = 2 ∨ i = 3 ∨ i = 4 ∨ i = 5 := by omega
    rcases this with rfl | rfl | rfl | rfl | rfl | rfl
    · exact v1_25_6 G
    · exact v1_25_7 G
    · exact v1_25_8 G
    · exact v1_37_6 G
    · exact v1_42_3 G
    · exact v1_45_7 G
  · refine ⟨⟨0, a0 250 (by omega) (by omega), by omega⟩, ?_, ?_⟩
    · intro h hh; rw [h0] at hh; omega
    · intro a b ha; rw [h0] at ha; omega
  · refine ⟨?_, by rw [d0]; omega⟩
    intro a b ha hb'
    rw [a0 _ (by omega) (by omega), a0 _ (by omega) (by omega)]
    exact ⟨Or.inl rfl, rfl⟩
  · exact ⟨⟨12, a248, by omega⟩, 0, a0 249 (by omega) (by omega), by omega⟩
  · refine ⟨⟨0, a0 251 (by omega) (by omega), by omega⟩, ⟨0, a0 252 (by omega) (by omega), by omega⟩, ⟨0, a0 253 (by omega) (by omega), by omega⟩, ?_, ?_, ?_⟩
    · intro k hk; rw [p251] at hk; omega
    · intro k hk; rw [p252] at hk; omega
    · intro k hk; rw [p253] at hk; omega
  · refine ⟨⟨0, a0 254 (by omega) (by omega), by omega⟩, Or.inl a255, ?_⟩
    intro k hk; rw [p254] at hk; omega
  · refine ⟨by rw [a0 250 (by omega) (by omega)]; exact v1_1_5 G, ?_, ?_⟩
    · rw [h0]; exact v1_1_6 G
    · intro k hk; rw [h0] at hk; omega
  · refine ⟨by rw [d0]; exact v1_1_8 G, ?_⟩
    intro k hk; rw [h0] at hk; omega
  · exact ⟨by rw [a248]; exact v1_1_12 G, by rw [a0 249 (by omega) (by omega)]; exact v1_1_13 G⟩
  · refine ⟨⟨by rw [a0 251 (by omega) (by omega)]; exact v1_9_2 G, ?_⟩, ⟨by rw [a0 252 (by omega) (by omega)]; exact v1_12_2 G, ?_⟩, ⟨by rw [a0 253 (by omega) (by omega)]; exact v1_15_2 G, ?_⟩⟩
    · intro k hk; rw [p251] at hk; omega
    · intro k hk; rw [p252] at hk; omega
    · intro k hk; rw [p253] at hk; omega
  · exact ⟨by rw [a0 254 (by omega) (by omega)]; exact v1_1_10 G, by rw [a255]; exact v1_1_11 G⟩
  · refine ⟨?_, ?_⟩
    · intro k hk; rw [p254] at hk; omega
    · intro i _ _; exact v1_r8 G i
  · intro i _
    exact Or.inl ⟨v1_58 G i, v1_r18 G i⟩
  · exact ⟨0, by omega, v1_0_3 G, v1_54_10 G, fun j hj => absurd hj (by omega)⟩
  · simp only [I7]
    rw [v1_0_5, v1_0_6, v1_0_8, v1_54_11, v1_54_6, v1_54_0, v1_24, v1_24, v1_24, v1_24, v1_24, v1_55, v1_55, v1_55, v1_55, v1_55]
    exact ⟨rfl, rfl, rfl, rfl, rfl, rfl, rfl, rfl⟩
  · exact ⟨0, by omega, v1_50_6 G, v1_54_48 G, fun j hj => absurd hj (by omega)⟩
  · intro c hc z
    exfalso
    rw [v1_1_17] at z
    have : c = 0 ∨ c = 1 ∨ c = 2 ∨ c = 3 ∨ c = 4 ∨ c = 5 := by omega
    rcases this with rfl | rfl | rfl | rfl | rfl | rfl
    · exact absurd ((v1_25_6 G).symm.trans z) (by decide)
    · exact absurd ((v1_25_7 G).symm.trans z) (by decide)
    · exact absurd ((v1_25_8 G).symm.trans z) (by decide)
    · exact absurd ((v1_37_6 G).symm.trans z) (by decide)
    · exact absurd ((v1_42_3 G).symm.trans z) (by decide)
    · exact absurd ((v1_45_7 G).symm.trans z) (by decide)
  · intro z
    exact absurd ((v1_54_28 G).symm.trans (z.trans (v1_54_1 G))) (by decide)
  · refine ⟨v1_54_30 G, v1_54_32 G, fun j hj => by rw [v1_59]; exact wF_ok j hj, ?_⟩
    have tK : ∀ j, j < 15 → gT (gS1 G) j = gaK G j := fun j hj => by rw [v1_T]; exact if_pos (by omega)
    have tV : ∀ j, j < 15 → gT (gS1 G) (16 + j) = gaV G j := fun j hj => by
      rw [v1_T]
      show (if 16 + j < 16 then gaK G (16 + j) else gaV G (16 + j - 16)) = _
      rw [if_neg (by omega), Nat.add_sub_cancel_left]
    refine ⟨?_, ?_, ?_⟩
    · intro i j hi hj e
      rw [tK i hi, tK j hj] at e
      exact hK i j hi hj e
    · intro i j hi hj e
      rw [tV i hi, tV j hj] at e
      exact hV i j hi hj e
    · intro j hj
      rw [tV j hj]
      refine ⟨(hA j hj).1, ?_⟩
      rw [(v1_lt G (hA j hj).1).1]
      exact if_neg (hA j hj).2
end
