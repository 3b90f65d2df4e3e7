/-! the store of the class and the model: kind, length, ints, longs, references by address and place; the next address; the slots made; the addresses of the text constants -/
abbrev gS : Type := (Nat → Nat) × (Nat → Nat) × (Nat → Nat → Int32) × (Nat → Nat → Int64) × (Nat → Nat → Option Nat) × Nat × Nat × (Nat → Nat)
def gK (σ : gS) : Nat → Nat := σ.1
def gN (σ : gS) : Nat → Nat := σ.2.1
def gI (σ : gS) : Nat → Nat → Int32 := σ.2.2.1
def gJ (σ : gS) : Nat → Nat → Int64 := σ.2.2.2.1
def gR (σ : gS) : Nat → Nat → Option Nat := σ.2.2.2.2.1
def gn (σ : gS) : Nat := σ.2.2.2.2.2.1
def gw (σ : gS) : Nat := σ.2.2.2.2.2.2.1
def gT (σ : gS) : Nat → Nat := σ.2.2.2.2.2.2.2
def gU {α : Type} (f : Nat → Nat → α) (a k : Nat) (v : α) : Nat → Nat → α := fun b j => if b = a ∧ j = k then v else f b j
def gUr {α : Type} (f : Nat → Nat → α) (a : Nat) (r : Nat → α) : Nat → Nat → α := fun b j => if b = a then r j else f b j
def sI (σ : gS) (a k : Nat) (v : Int32) : gS := (gK σ, gN σ, gU (gI σ) a k v, gJ σ, gR σ, gn σ, gw σ, gT σ)
def sJ (σ : gS) (a k : Nat) (v : Int64) : gS := (gK σ, gN σ, gI σ, gU (gJ σ) a k v, gR σ, gn σ, gw σ, gT σ)
def sR (σ : gS) (a k : Nat) (v : Option Nat) : gS := (gK σ, gN σ, gI σ, gJ σ, gU (gR σ) a k v, gn σ, gw σ, gT σ)
def sIr (σ : gS) (a : Nat) (r : Nat → Int32) : gS := (gK σ, gN σ, gUr (gI σ) a r, gJ σ, gR σ, gn σ, gw σ, gT σ)
/-- a new cell of kind k, length n (arrays), with w slots -/
def sNw (σ : gS) (k n w : Nat) : gS := (va_up (gK σ) (gn σ) k, va_up (gN σ) (gn σ) n, gUr (gI σ) (gn σ) (fun _ => 0), gUr (gJ σ) (gn σ) (fun _ => 0), gUr (gR σ) (gn σ) (fun _ => none), gn σ + 1, gw σ + w, gT σ)
/-! the text constants -/
def gSx : List Nat := [95, 101, 151, 153, 155, 157, 159, 161, 163, 165, 167, 106, 128, 126, 114]
def gSs : List String := ["takes", "bars", "from", "to", "rank", "other", "area", "yard", "door", "hour", "day", "if", "not", "and", "or"]
def gSlL : List Nat := [5, 4, 4, 2, 4, 5, 4, 4, 4, 4, 3, 2, 3, 3, 2]
def gSbL : List (List Int32) := [[116, 97, 107, 101, 115], [98, 97, 114, 115], [102, 114, 111, 109], [116, 111], [114, 97, 110, 107], [111, 116, 104, 101, 114], [97, 114, 101, 97], [121, 97, 114, 100], [100, 111, 111, 114], [104, 111, 117, 114], [100, 97, 121], [105, 102], [110, 111, 116], [97, 110, 100], [111, 114]]
def gSl (j : Nat) : Nat := gSlL.getD j 0
def gSb (j k : Nat) : Int32 := (gSbL.getD j []).getD k 0
/-- which text constant an address is; which one's row of bytes -/
def gFs (σ : gS) (a : Nat) : Option Nat := (List.range 15).find? (fun j => gT σ j == a)
def gFw (σ : gS) (a : Nat) : Option Nat := (List.range 15).find? (fun j => gT σ (16 + j) == a)
abbrev gL : Type := List (Option Value)
/-- what an instruction does: go on; call; return -/
abbrev gX : Type := (Nat × gL × List Value × gS) ⊕ ((Nat × List Value × List Value) ⊕ Option Value)
abbrev gO : Type := Nat → gL → List Value → gS → Option gX
def pI : List Value → Option (Int32 × List Value)
  | .int x :: t => some (x, t)
  | _ => none
def pJ : List Value → Option (Int64 × List Value)
  | .long x :: t => some (x, t)
  | _ => none
def pR : List Value → Option (Nat × List Value)
  | .ref x :: t => some (x, t)
  | _ => none
def gPrev (L : gL) (k : Nat) : Bool := match k with
  | 0 => true
  | k + 1 => match L[k]? with
    | some (some (.long _)) => false
    | some (some (.double _)) => false
    | _ => true
def o_push (v : Value) (n : Nat) : gO := fun pc L st σ => some (.inl (pc + n, L, v :: st, σ))
def o_str (j n : Nat) : gO := fun pc L st σ => some (.inl (pc + n, L, .ref (gT σ j) :: st, σ))
def o_iload (k n : Nat) : gO := fun pc L st σ => match L[k]? with
  | some (some (.int x)) => some (.inl (pc + n, L, .int x :: st, σ))
  | _ => none
def o_lload (k n : Nat) : gO := fun pc L st σ => match L[k]? with
  | some (some (.long x)) => some (.inl (pc + n, L, .long x :: st, σ))
  | _ => none
def o_aload (k n : Nat) : gO := fun pc L st σ => match L[k]? with
  | some (some (.ref x)) => some (.inl (pc + n, L, .ref x :: st, σ))
  | some (some .null) => some (.inl (pc + n, L, .null :: st, σ))
  | _ => none
def o_istore (k n : Nat) : gO := fun pc L st σ => match st with
  | .int x :: t => if gPrev L k = true ∧ k < L.length then some (.inl (pc + n, L.set k (some (.int x)), t, σ)) else none
  | _ => none
def o_lstore (k n : Nat) : gO := fun pc L st σ => match st with
  | .long x :: t => if gPrev L k = true ∧ k + 1 < L.length then some (.inl (pc + n, (L.set k (some (.long x))).set (k + 1) none, t, σ)) else none
  | _ => none
def o_astore (k n : Nat) : gO := fun pc L st σ => match st with
  | .ref x :: t => if gPrev L k = true ∧ k < L.length then some (.inl (pc + n, L.set k (some (.ref x)), t, σ)) else none
  | .null :: t => if gPrev L k = true ∧ k < L.length then some (.inl (pc + n, L.set k (some .null), t, σ)) else none
  | _ => none
def o_iinc (k : Nat) (v : Int32) : gO := fun pc L st σ => match L[k]? with
  | some (some (.int x)) => if gPrev L k = true then some (.inl (pc + 3, L.set k (some (.int (x + v))), st, σ)) else none
  | _ => none
def o_bI (f : Int32 → Int32 → Int32) : gO := fun pc L st σ => match st with
  | .int y :: .int x :: t => some (.inl (pc + 1, L, .int (f x y) :: t, σ))
  | _ => none
def o_bId (f : Int32 → Int32 → Int32) : gO := fun pc L st σ => match st with
  | .int y :: .int x :: t => if y = 0 then none else some (.inl (pc + 1, L, .int (f x y) :: t, σ))
  | _ => none
def o_uI (f : Int32 → Int32) : gO := fun pc L st σ => match st with
  | .int x :: t => some (.inl (pc + 1, L, .int (f x) :: t, σ))
  | _ => none
def o_bJ (f : Int64 → Int64 → Int64) : gO := fun pc L st σ => match st with
  | .long y :: .long x :: t => some (.inl (pc + 1, L, .long (f x y) :: t, σ))
  | _ => none
def o_bJd (f : Int64 → Int64 → Int64) : gO := fun pc L st σ => match st with
  | .long y :: .long x :: t => if y = 0 then none else some (.inl (pc + 1, L, .long (f x y) :: t, σ))
  | _ => none
def o_lcmp : gO := fun pc L st σ => match st with
  | .long y :: .long x :: t => some (.inl (pc + 1, L, .int (lg_cmp x y) :: t, σ))
  | _ => none
def o_i2l : gO := fun pc L st σ => match st with
  | .int x :: t => some (.inl (pc + 1, L, .long x.toInt64 :: t, σ))
  | _ => none
def o_l2i : gO := fun pc L st σ => match st with
  | .long x :: t => some (.inl (pc + 1, L, .int x.toInt32 :: t, σ))
  | _ => none
def o_dup : gO := fun pc L st σ => match st with
  | .int x :: t => some (.inl (pc + 1, L, .int x :: .int x :: t, σ))
  | .ref x :: t => some (.inl (pc + 1, L, .ref x :: .ref x :: t, σ))
  | _ => none
def o_dup2 : gO := fun pc L st σ => match st with
  | .int x :: .ref y :: t => some (.inl (pc + 1, L, .int x :: .ref y :: .int x :: .ref y :: t, σ))
  | _ => none
def o_pop : gO := fun pc L st σ => match st with
  | .int _ :: t => some (.inl (pc + 1, L, t, σ))
  | .ref _ :: t => some (.inl (pc + 1, L, t, σ))
  | _ => none
def o_if (f : Int32 → Bool) (tgt : Nat) : gO := fun pc L st σ => match st with
  | .int x :: t => if f x = true then some (.inl (tgt, L, t, σ)) else some (.inl (pc + 3, L, t, σ))
  | _ => none
def o_icmp (f : Int32 → Int32 → Bool) (tgt : Nat) : gO := fun pc L st σ => match st with
  | .int y :: .int x :: t => if f x y = true then some (.inl (tgt, L, t, σ)) else some (.inl (pc + 3, L, t, σ))
  | _ => none
def o_goto (tgt : Nat) : gO := fun _ L st σ => some (.inl (tgt, L, st, σ))
def o_tsw (lo hi : Int) (tg : List Nat) (df : Nat) : gO := fun _ L st σ => match st with
  | .int x :: t => if x.toInt < lo ∨ hi < x.toInt then some (.inl (df, L, t, σ)) else match tg[(x.toInt - lo).toNat]? with
    | some q => some (.inl (q, L, t, σ))
    | none => none
  | _ => none
def o_ifnull (tgt : Nat) : gO := fun pc L st σ => match st with
  | .ref _ :: t => some (.inl (pc + 3, L, t, σ))
  | .null :: t => some (.inl (tgt, L, t, σ))
  | _ => none
def o_ifnonnull (tgt : Nat) : gO := fun pc L st σ => match st with
  | .ref _ :: t => some (.inl (tgt, L, t, σ))
  | .null :: t => some (.inl (pc + 3, L, t, σ))
  | _ => none
def o_getI (c k : Nat) : gO := fun pc L st σ => match st with
  | .ref a :: t => if gK σ a = c + 1 then some (.inl (pc + 3, L, .int (gI σ a k) :: t, σ)) else none
  | _ => none
def o_getJ (c k : Nat) : gO := fun pc L st σ => match st with
  | .ref a :: t => if gK σ a = c + 1 then some (.inl (pc + 3, L, .long (gJ σ a k) :: t, σ)) else none
  | _ => none
def o_getR (c k : Nat) : gO := fun pc L st σ => match st with
  | .ref a :: t => if gK σ a = c + 1 then (match gR σ a k with
    | some q => some (.inl (pc + 3, L, .ref q :: t, σ))
    | none => none) else none
  | _ => none
def o_sval : gO := fun pc L st σ => match st with
  | .ref a :: t => (match gFs σ a with
    | some j => some (.inl (pc + 3, L, .ref (gT σ (16 + j)) :: t, σ))
    | none => none)
  | _ => none
def o_scod : gO := fun pc L st σ => match st with
  | .ref a :: t => (match gFs σ a with
    | some _ => some (.inl (pc + 3, L, .int 0 :: t, σ))
    | none => none)
  | _ => none
def o_putI (c k : Nat) : gO := fun pc L st σ => match st with
  | .int x :: .ref a :: t => if gK σ a = c + 1 then some (.inl (pc + 3, L, t, sI σ a k x)) else none
  | _ => none
def o_putZ (c k : Nat) : gO := fun pc L st σ => match st with
  | .int x :: .ref a :: t => if gK σ a = c + 1 ∧ (x = 0 ∨ x = 1) then some (.inl (pc + 3, L, t, sI σ a k x)) else none
  | _ => none
def o_putJ (c k : Nat) : gO := fun pc L st σ => match st with
  | .long x :: .ref a :: t => if gK σ a = c + 1 then some (.inl (pc + 3, L, t, sJ σ a k x)) else none
  | _ => none
def o_putR (c k : Nat) : gO := fun pc L st σ => match st with
  | .ref x :: .ref a :: t => if gK σ a = c + 1 then some (.inl (pc + 3, L, t, sR σ a k (some x))) else none
  | _ => none
/-- the place is in the row -/
def gIn (i : Int32) (n : Nat) : Prop := ¬ i < 0 ∧ i.toNatClampNeg < n
def o_iald : gO := fun pc L st σ => match st with
  | .int i :: .ref a :: t => if (gK σ a = 21 ∨ gK σ a = 26) ∧ ¬ i < 0 ∧ i.toNatClampNeg < gN σ a then some (.inl (pc + 1, L, .int (gI σ a i.toNatClampNeg) :: t, σ)) else none
  | _ => none
def o_bald : gO := fun pc L st σ => match st with
  | .int i :: .ref a :: t => if (gK σ a = 20 ∨ gK σ a = 23) ∧ ¬ i < 0 ∧ i.toNatClampNeg < gN σ a then some (.inl (pc + 1, L, .int (gI σ a i.toNatClampNeg) :: t, σ)) else (match gFw σ a with
    | some j => if gK σ a = 0 ∧ ¬ i < 0 ∧ i.toNatClampNeg < gSl j then some (.inl (pc + 1, L, .int (gSb j i.toNatClampNeg) :: t, σ)) else none
    | none => none)
  | _ => none
def o_lald : gO := fun pc L st σ => match st with
  | .int i :: .ref a :: t => if gK σ a = 22 ∧ ¬ i < 0 ∧ i.toNatClampNeg < gN σ a then some (.inl (pc + 1, L, .long (gJ σ a i.toNatClampNeg) :: t, σ)) else none
  | _ => none
def o_aald : gO := fun pc L st σ => match st with
  | .int i :: .ref a :: t => if (gK σ a = 24 ∨ gK σ a = 25) ∧ ¬ i < 0 ∧ i.toNatClampNeg < gN σ a then (match gR σ a i.toNatClampNeg with
    | some q => some (.inl (pc + 1, L, .ref q :: t, σ))
    | none => some (.inl (pc + 1, L, .null :: t, σ))) else none
  | _ => none
def o_iast : gO := fun pc L st σ => match st with
  | .int x :: .int i :: .ref a :: t => if gK σ a = 21 ∧ ¬ i < 0 ∧ i.toNatClampNeg < gN σ a then some (.inl (pc + 1, L, t, sI σ a i.toNatClampNeg x)) else none
  | _ => none
def o_bast : gO := fun pc L st σ => match st with
  | .int x :: .int i :: .ref a :: t => if gK σ a = 20 ∧ ¬ i < 0 ∧ i.toNatClampNeg < gN σ a then some (.inl (pc + 1, L, t, sI σ a i.toNatClampNeg x.toInt8.toInt32))
    else if gK σ a = 23 ∧ ¬ i < 0 ∧ i.toNatClampNeg < gN σ a then some (.inl (pc + 1, L, t, sI σ a i.toNatClampNeg (vp_nar .boolean x))) else none
  | _ => none
def o_last : gO := fun pc L st σ => match st with
  | .long x :: .int i :: .ref a :: t => if gK σ a = 22 ∧ ¬ i < 0 ∧ i.toNatClampNeg < gN σ a then some (.inl (pc + 1, L, t, sJ σ a i.toNatClampNeg x)) else none
  | _ => none
def o_aast : gO := fun pc L st σ => match st with
  | .ref x :: .int i :: .ref a :: t => if ((gK σ a = 24 ∧ gK σ x = 4) ∨ (gK σ a = 25 ∧ gK σ x = 11)) ∧ ¬ i < 0 ∧ i.toNatClampNeg < gN σ a then some (.inl (pc + 1, L, t, sR σ a i.toNatClampNeg (some x))) else none
  | .null :: .int i :: .ref a :: t => if (gK σ a = 24 ∨ gK σ a = 25) ∧ ¬ i < 0 ∧ i.toNatClampNeg < gN σ a then some (.inl (pc + 1, L, t, sR σ a i.toNatClampNeg none)) else none
  | _ => none
def o_alen : gO := fun pc L st σ => match st with
  | .ref a :: t => if 20 ≤ gK σ a ∧ gK σ a < 27 then some (.inl (pc + 1, L, .int (Int32.ofNat (gN σ a)) :: t, σ)) else (match gFw σ a with
    | some j => some (.inl (pc + 1, L, .int (Int32.ofNat (gSl j)) :: t, σ))
    | none => none)
  | _ => none
def o_newa (k : Nat) : gO := fun pc L st σ => match st with
  | .int n :: t => if ¬ n < 0 ∧ n.toNatClampNeg ≤ 1000000 then some (.inl (pc + 2, L, .ref (gn σ) :: t, sNw σ k n.toNatClampNeg n.toNatClampNeg)) else none
  | _ => none
def o_newq (k : Nat) : gO := fun pc L st σ => match st with
  | .int n :: t => if ¬ n < 0 ∧ n.toNatClampNeg ≤ 1000000 then some (.inl (pc + 3, L, .ref (gn σ) :: t, sNw σ k n.toNatClampNeg n.toNatClampNeg)) else none
  | _ => none
def o_new (c w : Nat) : gO := fun pc L st σ => some (.inl (pc + 3, L, .ref (gn σ) :: st, sNw σ (c + 1) 0 w))
def o_copy : gO := fun pc L st σ => match st with
  | .int n :: .int dp :: .ref a :: .int sp :: .ref a0 :: t => if (gK σ a0 = 21 ∧ gK σ a = 21 ∧ t.length ≤ 4) ∧ (¬ sp < 0 ∧ ¬ dp < 0 ∧ ¬ n < 0) ∧ sp.toNatClampNeg + n.toNatClampNeg ≤ gN σ a0 ∧ dp.toNatClampNeg + n.toNatClampNeg ≤ gN σ a then
      some (.inl (pc + 3, L, t, sIr σ a (va_cpy (gI σ a0) (gI σ a) sp.toNatClampNeg dp.toNatClampNeg n.toNatClampNeg))) else none
  | _ => none
def gFm (n : Nat) : Value := match n with
  | 0 => .null
  | t + 1 => .ref t
def o_fmt : gO := fun pc L st σ => match gT σ 15 with
  | 0 => some (.inl (pc + 3, L, .null :: st, σ))
  | t + 1 => some (.inl (pc + 3, L, .ref t :: st, σ))
def o_clone : gO := fun pc L st σ => match st with
  | .ref a :: t => if gK σ a = 21 ∧ t.length ≤ 4 then some (.inl (pc + 3, L, .ref (gn σ) :: t, sIr (sNw σ 21 (gN σ a) (gN σ a)) (gn σ) (gI σ a))) else none
  | _ => none
def o_cast : gO := fun pc L st σ => match st with
  | .ref a :: t => if gK σ a = 21 then some (.inl (pc + 3, L, .ref a :: t, σ)) else none
  | _ => none
def o_obj : gO := fun pc L st σ => match st with
  | .ref _ :: t => if t.length ≤ 4 then some (.inl (pc + 3, L, t, σ)) else none
  | _ => none
/-- a call: method j, n arguments behind the receiver -/
def o_callS (j n : Nat) : gO := fun _ _ st _ => if n ≤ st.length ∧ (st.drop n).length ≤ 4 then some (.inr (.inl (j, (st.take n).reverse, st.drop n))) else none
def o_callV (j n c : Nat) : gO := fun _ _ st σ => match st.drop n with
  | .ref a :: t => if n ≤ st.length ∧ gK σ a = c + 1 ∧ t.length ≤ 4 then some (.inr (.inl (j, .ref a :: (st.take n).reverse, t))) else none
  | _ => none
def o_callT (j n : Nat) : gO := fun _ _ st σ => match st.drop n with
  | .ref a :: t => if n ≤ st.length ∧ (gFs σ a).isSome = true ∧ t.length ≤ 4 then some (.inr (.inl (j, .ref a :: (st.take n).reverse, t))) else none
  | _ => none
def o_callI (j n : Nat) : gO := fun _ _ st _ => match st.drop n with
  | .ref a :: t => if n ≤ st.length ∧ t.length ≤ 4 then some (.inr (.inl (j, .ref a :: (st.take n).reverse, t))) else none
  | _ => none
def o_ret : gO := fun _ _ st _ => match st with
  | [] => some (.inr (.inr none))
  | _ => none
def o_iret : gO := fun _ _ st _ => match st with
  | [.int v] => some (.inr (.inr (some (.int v))))
  | _ => none
def o_zret : gO := fun _ _ st _ => match st with
  | [.int v] => if v = 0 ∨ v = 1 then some (.inr (.inr (some (.int v)))) else none
  | _ => none
def o_tret (ty : FieldType) : gO := fun _ _ st _ => match st with
  | [.int v] => if narrow ty (.int v) = .int v then some (.inr (.inr (some (.int v)))) else none
  | _ => none
def o_lret : gO := fun _ _ st _ => match st with
  | [.long v] => some (.inr (.inr (some (.long v))))
  | _ => none
def o_aret : gO := fun _ _ st _ => match st with
  | [.ref v] => some (.inr (.inr (some (.ref v))))
  | [.null] => some (.inr (.inr (some .null)))
  | _ => none
/-- a method's steps, fuel n; the calls by X -/
def gRun (X : Nat → List Value → gS → Option (Option Value × gS)) (P : Nat → Option gO) : Nat → Nat → gL → List Value → gS → Option (Option Value × gS)
  | 0, _, _, _, _ => none
  | n + 1, pc, L, st, σ => match P pc with
    | none => none
    | some o => match o pc L st σ with
      | none => none
      | some (.inl (pc', L', st', σ')) => gRun X P n pc' L' st' σ'
      | some (.inr (.inl (j, As, rest))) => (match X j As σ with
        | none => none
        | some (r, σ') => gRun X P n (pc + 3) L (r.toList ++ rest) σ')
      | some (.inr (.inr r)) => some (r, σ)
def gLook (l : List (Nat × Value)) (k : Nat) : Option Value := match l with
  | [] => none
  | q :: t => if q.1 = k then some q.2 else gLook t k
def gLoc (n : Nat) (As : List Value) : gL := (List.range n).map (gLook (lv_args 0 As))
/-- the words of the arguments -/
def gArgW (As : List Value) : Nat := (lg_sl As).length
/-- method i called with As: depth d, each method with at most F steps -/
def gEx (Pg : Nat → Nat → Option gO) (ml : Nat → Nat) (F : Nat) : Nat → Nat → List Value → gS → Option (Option Value × gS)
  | 0, _, _, _ => none
  | d + 1, i, As, σ => if gArgW As ≤ ml i then gRun (gEx Pg ml F d) (Pg i) F 0 (gLoc (ml i) As) [] σ else none
