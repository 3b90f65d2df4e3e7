/-! small methods of the class -/
def bI (c : Prop) [Decidable c] : Int32 := if c then 1 else 0
theorem s_within {d : Nat} {Q : Option Value → gS → Prop} {p0 p1 p2 : Int32} {σ : gS} : wc (d + 1) 160 [.int p0, .int p1, .int p2] σ Q ↔ Q (some (.int (bI (p1 ≤ p0 ∧ p0 ≤ p2)))) σ := by
  simp only [c_160, e_160_0, e_160_1, e_160_2, e_160_5, e_160_6, e_160_7, e_160_10, e_160_11, e_160_14, e_160_15]
  by_cases h1 : p0 < p1
  · have h2 : ¬ p1 ≤ p0 := Int32.not_le.mpr h1
    simp [bI, h1, h2]
  · have h2 : p1 ≤ p0 := Int32.not_lt.mp h1
    by_cases h3 : p2 < p0
    · have h4 : ¬ p0 ≤ p2 := Int32.not_le.mpr h3
      simp [bI, h1, h2, h3, h4]
    · have h4 : p0 ≤ p2 := Int32.not_lt.mp h3
      simp [bI, h1, h2, h3, h4]
theorem s_bitOf {d : Nat} {Q : Option Value → gS → Prop} {p0 p1 : Int32} {σ : gS} : wc (d + 1) 161 [.int p0, .int p1] σ Q ↔ Q (some (.int ((p0 >>> (p1 &&& 31)) &&& 1))) σ := by
  simp only [c_161, e_161_0, e_161_1, e_161_2, e_161_3, e_161_4, e_161_5]
theorem s_has {d : Nat} {Q : Option Value → gS → Prop} {a : Nat} {p0 : Int32} {σ : gS} (hK : gK σ a = 11) : wc (d + 1) 100 [.ref a, .int p0] σ Q ↔ Q (some (.int (bI (0 ≤ p0 ∧ p0 < gI σ a 5)))) σ := by
  simp only [c_100, e_100_0, e_100_1, e_100_4, e_100_5, e_100_6, e_100_9, e_100_12, e_100_13, e_100_16, e_100_17, hK, true_and]
  by_cases h1 : p0 < 0
  · have h2 : ¬ 0 ≤ p0 := Int32.not_le.mpr h1
    simp [bI, h1, h2]
  · have h2 : 0 ≤ p0 := Int32.not_lt.mp h1
    by_cases h3 : gI σ a 5 ≤ p0
    · have h4 : ¬ p0 < gI σ a 5 := Int32.not_lt.mpr h3
      simp [bI, h1, h2, h3, h4]
    · have h4 : p0 < gI σ a 5 := Int32.not_le.mp h3
      simp [bI, h1, h2, h3, h4]
