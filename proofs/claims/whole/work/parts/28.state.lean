/-! the state: A is the row that the model keeps -/
theorem rI_ne {σ : gS} {a b k : Nat} {v : Int32} (h : b ≠ a) : gI (sI σ a k v) b = gI σ b := by
  funext j
  rw [n_I_I, if_neg (fun z => h z.1)]
theorem rI_nk {σ : gS} {a k j : Nat} {v : Int32} (h : j ≠ k) : gI (sI σ a k v) a j = gI σ a j := by
  rw [n_I_I, if_neg (fun z => h z.2)]
theorem rI_eq {σ : gS} {a k : Nat} {v : Int32} : gI (sI σ a k v) a k = v := by
  rw [n_I_I, if_pos ⟨rfl, rfl⟩]
theorem rr_ne {σ : gS} {a b : Nat} {f : Nat → Int32} (h : b ≠ a) : gI (sIr σ a f) b = gI σ b := by
  funext j
  rw [n_I_r, if_neg h]
theorem rr_eq {σ : gS} {a : Nat} {f : Nat → Int32} : gI (sIr σ a f) a = f := by
  funext j
  rw [n_I_r, if_pos rfl]
def an (A : Nat → Int32) (k : Nat) : Nat := (A k).toNatClampNeg
def hn (A : Nat → Int32) : Nat := an A 250
def St (A : Nat → Int32) (h : Nat) : Bool := decide (A (6 * h + 5) = nI 1)
def Dr (A : Nat → Int32) (a b : Nat) : Bool := decide (A (72 + 12 * a + b) = nI 1)
def drc (A : Nat → Int32) (a : Nat) : Nat → Nat
  | 0 => 0
  | b + 1 => drc A a b + (if Dr A a b then 1 else 0)
def dcs (A : Nat → Int32) : Nat → Nat
  | 0 => 0
  | a + 1 => dcs A a + drc A a a
def dc (A : Nat → Int32) : Nat := dcs A (hn A)
/-- two sides of squares from x, w wide, and from y, v wide, have a square in common -/
def ovl (x w y v : Nat) : Prop := x < y + v ∧ y < x + w
/-- a house's facts -/
def WH (A : Nat → Int32) (h : Nat) : Prop := ∃ x y w d r s : Nat, A (6 * h) = nI x ∧ A (6 * h + 1) = nI y ∧ A (6 * h + 2) = nI w ∧ A (6 * h + 3) = nI d ∧ A (6 * h + 4) = nI r ∧ A (6 * h + 5) = nI s ∧ 1 ≤ w ∧ w ≤ 3 ∧ 1 ≤ d ∧ d ≤ 3 ∧ x + w ≤ 8 ∧ y + d ≤ 8 ∧ r ≤ 9 ∧ s ≤ 1
/-- the row is as it should be: houses; doors; terms; pairs; laws -/
def Wh (A : Nat → Int32) : Prop := (∃ n : Nat, A 250 = nI n ∧ n ≤ 12) ∧ (∀ h, h < hn A → WH A h)
  ∧ ∀ a b, a < hn A → b < hn A → a ≠ b → ¬ (ovl (an A (6 * a)) (an A (6 * a + 2)) (an A (6 * b)) (an A (6 * b + 2)) ∧ ovl (an A (6 * a + 1)) (an A (6 * a + 3)) (an A (6 * b + 1)) (an A (6 * b + 3)))
def Wd (A : Nat → Int32) : Prop := (∀ a b, a < 12 → b < 12 → (A (72 + 12 * a + b) = nI 0 ∨ A (72 + 12 * a + b) = nI 1 ∧ a < hn A ∧ b < hn A ∧ a ≠ b) ∧ A (72 + 12 * a + b) = A (72 + 12 * b + a)) ∧ dc A ≤ 6
def Wt (A : Nat → Int32) : Prop := (∃ n : Nat, A 248 = nI n ∧ n ≤ 23) ∧ ∃ n : Nat, A 249 = nI n ∧ n ≤ 99
def Wp (A : Nat → Int32) : Prop := (∃ n : Nat, A 251 = nI n ∧ n ≤ 4) ∧ (∃ n : Nat, A 252 = nI n ∧ n ≤ 4) ∧ (∃ n : Nat, A 253 = nI n ∧ n ≤ 8)
  ∧ (∀ k, k < an A 251 → ∃ f t : Nat, A (216 + 2 * k) = nI f ∧ A (217 + 2 * k) = nI t ∧ f < hn A ∧ t < hn A)
  ∧ (∀ k, k < an A 252 → ∃ f t : Nat, A (224 + 2 * k) = nI f ∧ A (225 + 2 * k) = nI t ∧ f < hn A ∧ t < hn A)
  ∧ ∀ k, k < an A 253 → ∃ f : Nat, A (232 + 2 * k) = nI f ∧ f < hn A
def Wl (A : Nat → Int32) : Prop := (∃ n : Nat, A 254 = nI n ∧ n ≤ 6) ∧ (A 255 = -nI 1 ∨ ∃ f : Nat, A 255 = nI f ∧ f < an A 254) ∧ ∀ t, t < an A 254 → ∃ n : Nat, A (256 + t) = nI n ∧ n ≤ 400
/-- a Town of the class, at t, with its rows behind it, holds the row -/
def Th (t : Nat) (σ : gS) (A : Nat → Int32) : Prop := gI σ t 5 = A 250 ∧ gI σ t 6 = nI (mkN (St A) (hn A))
  ∧ ∀ h, h < hn A → gI σ (t + 1) h = A (6 * h) ∧ gI σ (t + 2) h = A (6 * h + 1) ∧ gI σ (t + 3) h = A (6 * h + 2) ∧ gI σ (t + 4) h = A (6 * h + 3) ∧ gI σ (t + 5) h = A (6 * h + 4)
def Td (t : Nat) (σ : gS) (A : Nat → Int32) : Prop := gI σ t 8 = nI (dc A) ∧ ∀ h, h < hn A → gI σ (t + 6) h = nI (mkN (Dr A h) 12)
def Tt (t : Nat) (σ : gS) (A : Nat → Int32) : Prop := gI σ t 12 = A 248 ∧ gI σ t 13 = A 249
def Tp (t : Nat) (σ : gS) (A : Nat → Int32) : Prop := (gI σ (t + 8) 2 = A 251 ∧ ∀ k, k < an A 251 → gI σ (t + 9) k = A (216 + 2 * k) ∧ gI σ (t + 10) k = A (217 + 2 * k))
  ∧ (gI σ (t + 11) 2 = A 252 ∧ ∀ k, k < an A 252 → gI σ (t + 12) k = A (224 + 2 * k) ∧ gI σ (t + 13) k = A (225 + 2 * k))
  ∧ (gI σ (t + 14) 2 = A 253 ∧ ∀ k, k < an A 253 → gI σ (t + 15) k = A (232 + 2 * k) ∧ gI σ (t + 16) k = A (233 + 2 * k))
def Tl (t : Nat) (σ : gS) (A : Nat → Int32) : Prop := gI σ t 10 = A 254 ∧ gI σ t 11 = A 255
/-- a Law of the class, at p, against the model's tokens of its law t; LS: they say the same; own: whose a cell is (1: a law's, 2 and 3: an image's, 4: the rounds') -/
def LawR (LS : (Nat → Int32) → (Nat → Int32) → Nat → (Nat → Int32) → Nat → (Nat → Int32) → Nat → (Nat → Int32) → (Nat → Int32) → Nat → Prop) (own : Nat → Nat) (p : Nat) (σ : gS) (A : Nat → Int32) (t : Nat) : Prop :=
  (own p = 1 ∧ own (p + 1) = 1 ∧ own (p + 2) = 1 ∧ own (p + 3) = 1) ∧ (gK σ p = 4 ∧ gR σ p 0 = some (p + 1) ∧ gR σ p 1 = some (p + 2) ∧ gR σ p 2 = some (p + 3) ∧ gK σ (p + 1) = 21 ∧ gK σ (p + 2) = 21 ∧ gK σ (p + 3) = 21)
  ∧ LS (gI σ p) (gI σ (p + 1)) (gN σ (p + 1)) (gI σ (p + 2)) (gN σ (p + 2)) (gI σ (p + 3)) (gN σ (p + 3)) (fun j => A (262 + 400 * t + j)) (fun j => A (2662 + 400 * t + j)) (an A (256 + t))
/-- a Town's laws -/
def LwR (LS : (Nat → Int32) → (Nat → Int32) → Nat → (Nat → Int32) → Nat → (Nat → Int32) → Nat → (Nat → Int32) → (Nat → Int32) → Nat → Prop) (own : Nat → Nat) (t : Nat) (σ : gS) (A : Nat → Int32) : Prop := (∀ i, i < an A 254 → ∃ p, gR σ (t + 7) i = some p ∧ LawR LS own p σ A i) ∧ ∀ i, an A 254 ≤ i → i < 6 → gR σ (t + 7) i = none
/-- the shape of an image's Town -/
def TwS (t : Nat) (σ : gS) : Prop := ∀ o, o < 17 → gK σ (t + o) = (kT.getD (1 + o) (0, 0)).1 ∧ gN σ (t + o) = (kT.getD (1 + o) (0, 0)).2
def TwF (t : Nat) (σ : gS) : Prop := gR σ t 0 = some (t + 1) ∧ gR σ t 1 = some (t + 2) ∧ gR σ t 2 = some (t + 3) ∧ gR σ t 3 = some (t + 4) ∧ gR σ t 4 = some (t + 5) ∧ gR σ t 7 = some (t + 6) ∧ gR σ t 9 = some (t + 7) ∧ gR σ t 14 = some (t + 8) ∧ gR σ t 15 = some (t + 11) ∧ gR σ t 16 = some (t + 14) ∧ gR σ (t + 8) 0 = some (t + 9) ∧ gR σ (t + 8) 1 = some (t + 10) ∧ gR σ (t + 11) 0 = some (t + 12) ∧ gR σ (t + 11) 1 = some (t + 13) ∧ gR σ (t + 14) 0 = some (t + 15) ∧ gR σ (t + 14) 1 = some (t + 16)
/-- the places of the caches' numbers: the cell, the field -/
def cO (c : Nat) : Nat := [25, 25, 25, 37, 42, 45].getD c 0
def cF (c : Nat) : Nat := [6, 7, 8, 6, 3, 7].getD c 0
/-- a byte as the model's tape has it -/
def sb (b : Nat) : Int32 := if b < 128 then nI b else nI b - nI 256
def wdL : List Nat := [116, 97, 107, 101, 115, 32, 98, 97, 114, 115, 32, 105, 102, 32, 111, 114, 32, 97, 110, 100, 32, 110, 111, 116, 32, 102, 114, 111, 109, 32, 116, 111, 32, 114, 97, 110, 107, 32, 111, 116, 104, 101, 114, 32, 97, 114, 101, 97, 32, 121, 97, 114, 100, 32, 100, 111, 111, 114, 32, 104, 111, 117, 114, 32, 100, 97, 121, 32]
/-- the parts of the invariant -/
def I1 (G : gG) (σ : gS) (k : Nat) : Prop := IvS (gB G) σ ∧ gT σ = gT (gS0 G) ∧ gK σ (gb G) = 26 ∧ gN σ (gb G) = gLn G ∧ gI σ (gb G) = gxs G ∧ gb G < gB G ∧ gB G + 80 ≤ gn σ ∧ gn σ ≤ gB G + 100 + 60 * k
def I2 (B : Nat) (own : Nat → Nat) (σ : gS) (k : Nat) : Prop := (∀ a, own a ≠ 0 → B + 80 ≤ a ∧ a < gn σ) ∧ ∃ l s : Nat, gR σ (B + 45) 5 = some l ∧ gK σ l = 21 ∧ gN σ l = s * 2 ^ s ∧ s ≤ 11 ∧ (l = B + 49 ∨ own l = 4) ∧ gw σ ≤ 68590 + 1000 * k + 4 * (s * 2 ^ s)
def I3 (B : Nat) (σ : gS) (k : Nat) : Prop := (∃ c : Nat, gI σ (B + 1) 17 = nI c ∧ c ≤ 100 * k ∧ ∀ i, i < 6 → gI σ (B + cO i) (cF i) = -nI 1 ∨ ∃ a : Nat, gI σ (B + cO i) (cF i) = nI a ∧ a ≤ c) ∧ ∃ v : Nat, gI σ (B + 54) 1 = nI v ∧ v ≤ k ∧ (gI σ (B + 54) 28 = -nI 1 ∨ ∃ a : Nat, gI σ (B + 54) 28 = nI a ∧ a ≤ v)
def I4 (LS : (Nat → Int32) → (Nat → Int32) → Nat → (Nat → Int32) → Nat → (Nat → Int32) → Nat → (Nat → Int32) → (Nat → Int32) → Nat → Prop) (own : Nat → Nat) (t : Nat) (σ : gS) (A : Nat → Int32) : Prop := (Wh A ∧ Wd A ∧ Wt A ∧ Wp A ∧ Wl A) ∧ (Th t σ A ∧ Td t σ A ∧ Tt t σ A ∧ Tp t σ A ∧ Tl t σ A) ∧ LwR LS own t σ A
def I5 (LS : (Nat → Int32) → (Nat → Int32) → Nat → (Nat → Int32) → Nat → (Nat → Int32) → Nat → (Nat → Int32) → (Nat → Int32) → Nat → Prop) (B : Nat) (own : Nat → Nat) (σ : gS) : Prop := ∀ i, i < 2 → (gI σ (B + 58) i = nI 0 ∧ gR σ (B + 18) i = none) ∨ (gI σ (B + 58) i = nI 1 ∧ ∃ t, gR σ (B + 18) i = some t ∧ TwS t σ ∧ TwF t σ ∧ (∀ o, o < 17 → own (t + o) = 2 + i) ∧ I4 LS own t σ (fun j => gI σ (B + 57) (5062 * i + j)))
def I6 (B : Nat) (σ : gS) : Prop := ∃ q : Nat, q ≤ 400 ∧ gI σ B 3 = nI q ∧ gI σ (B + 54) 10 = nI q ∧ ∀ j, j < q → ∃ b : Nat, b < 256 ∧ gI σ (B + 19) j = nI b ∧ gI σ (B + 60) j = sb b
def I7 (B : Nat) (σ : gS) : Prop := gI σ B 5 = gI σ (B + 54) 11 ∧ gI σ B 6 = gI σ (B + 54) 6 ∧ gI σ B 8 = gI σ (B + 54) 0 ∧ gI σ (B + 24) 0 = gI σ (B + 55) 1 ∧ gI σ (B + 24) 1 = gI σ (B + 55) 2 ∧ gI σ (B + 24) 2 = gI σ (B + 55) 3 ∧ gI σ (B + 24) 3 = gI σ (B + 55) 5 ∧ gI σ (B + 24) 4 = gI σ (B + 55) 6
def I8 (B : Nat) (σ : gS) : Prop := ∃ q : Nat, q ≤ 40 ∧ gI σ (B + 50) 6 = nI q ∧ gI σ (B + 54) 48 = nI q ∧ ∀ j, j < q → gI σ (B + 52) j = gI σ (B + 78) j ∧ gI σ (B + 53) j = gI σ (B + 79) j
/-- the rows of the class's workers -/
def cw (B : Nat) (σ : gS) : Nat → Nat → Int32 := fun o => if o < 29 then gI σ (B + 25 + o) else fun _ => 0
def I9 (CV : Nat → (Nat → Int32) → (Nat → Nat → Int32) → Prop) (B : Nat) (σ : gS) : Prop := ∀ c, c < 6 → gI σ (B + cO c) (cF c) = gI σ (B + 1) 17 → CV c (gI σ (B + 56)) (cw B σ)
def I10 (MV : (Nat → Int32) → Int32 → (Nat → Int32) → (Nat → Int32) → (Nat → Int32) → Prop) (B : Nat) (σ : gS) : Prop := gI σ (B + 54) 28 = gI σ (B + 54) 1 → MV (gI σ (B + 56)) (gI σ (B + 54) 29) (gI σ (B + 66)) (gI σ (B + 67)) (gI σ (B + 68))
/-- the text constants are apart, and none of the store's cells -/
def I12 (B : Nat) (σ : gS) : Prop := (∀ i j, i < 15 → j < 15 → gT σ i = gT σ j → i = j) ∧ (∀ i j, i < 15 → j < 15 → gT σ (16 + i) = gT σ (16 + j) → i = j) ∧ ∀ j, j < 15 → gT σ (16 + j) < B ∧ gK σ (gT σ (16 + j)) = 0
def I11 (B : Nat) (σ : gS) : Prop := gI σ (B + 54) 30 = -nI 1 ∧ gI σ (B + 54) 32 = -nI 1 ∧ (∀ j, j < 68 → gI σ (B + 59) j = nI (wdL.getD j 0)) ∧ I12 B σ
def Inv (LS : (Nat → Int32) → (Nat → Int32) → Nat → (Nat → Int32) → Nat → (Nat → Int32) → Nat → (Nat → Int32) → (Nat → Int32) → Nat → Prop) (CV : Nat → (Nat → Int32) → (Nat → Nat → Int32) → Prop) (MV : (Nat → Int32) → Int32 → (Nat → Int32) → (Nat → Int32) → (Nat → Int32) → Prop) (G : gG) (σ : gS) (k : Nat) : Prop :=
  ∃ own : Nat → Nat, I1 G σ k ∧ I2 (gB G) own σ k ∧ I3 (gB G) σ k ∧ I4 LS own (gB G + 1) σ (gI σ (gB G + 56)) ∧ I5 LS (gB G) own σ ∧ I6 (gB G) σ ∧ I7 (gB G) σ ∧ I8 (gB G) σ ∧ I9 CV (gB G) σ ∧ I10 MV (gB G) σ ∧ I11 (gB G) σ
